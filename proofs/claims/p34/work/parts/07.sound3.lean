section ABS3
variable {p : Program} {l : Launch} {e : Env} {R : Room} {s : State} {m : MethodId} {args : Array Value} {below : List Frame} {meth : Method} {c : Code} {w : ab_W} {nL : Nat} {cc : ByteArray} {own : String} {Q : State → Prop} {pc d mc : Nat} {P P2 : ab_P} {Kn : Option Value → ab_H → Prop} {Kx : String → ab_H → Prop}
abbrev ab_Q (below : List Frame) (w : ab_W) (s : State) (args : Array Value) (mc : Nat) (Kn : Option Value → ab_H → Prop) (Kx : String → ab_H → Prop) : State → Prop := vx_MQ below (ab_Qc w s.heap.size Kn) (ab_Xc w s.heap.size Kx) args s mc (6 * mc) (ab_A w s.heap.size)
theorem sd_ir (C : ab_Cx p l R s m args meth c w nL cc own d mc) (hr : meth.sig.returnType = some .int) (dg : decode cc pc = .ok (.ireturn, 1)) : ∀ L st σ, ab_ir Kn L st σ → ab_M p l e R s m args below meth c w nL (ab_Q below w s args mc Kn Kx) pc L st σ := by
  intro L st σ h H locs ls hR hS hL
  unfold ab_ir at h
  split at h
  · next v =>
    exact W.widen (Nat.zero_le _) (Nat.zero_le _) (vx_ret (W.iret (v := v) C.1 C.2.1 hr (fun t ht hW => ⟨⟨some (.int v), σ, rfl, h, by rw [ht]; exact hR⟩, hS.F ht⟩) hS.2.2 dg C.2.2.2.2.2.1))
  · exact h.elim
theorem sd_zr (C : ab_Cx p l R s m args meth c w nL cc own d mc) (hr : meth.sig.returnType = some .boolean) (dg : decode cc pc = .ok (.ireturn, 1)) : ∀ L st σ, ab_zr Kn L st σ → ab_M p l e R s m args below meth c w nL (ab_Q below w s args mc Kn Kx) pc L st σ := by
  intro L st σ h H locs ls hR hS hL
  unfold ab_zr at h
  split at h
  · next v =>
    exact W.widen (Nat.zero_le _) (Nat.zero_le _) (vx_ret (W.zret (v := v) C.1 C.2.1 hr (ab_nz h.1).1 (fun t ht hW => ⟨⟨some (.int v), σ, rfl, h.2, by rw [ht]; exact hR⟩, hS.F ht⟩) hS.2.2 dg C.2.2.2.2.2.1))
  · exact h.elim
theorem sd_lr (C : ab_Cx p l R s m args meth c w nL cc own d mc) (hr : meth.sig.returnType = some .long) (dg : decode cc pc = .ok (.lreturn, 1)) : ∀ L st σ, ab_lr Kn L st σ → ab_M p l e R s m args below meth c w nL (ab_Q below w s args mc Kn Kx) pc L st σ := by
  intro L st σ h H locs ls hR hS hL
  unfold ab_lr at h
  split at h
  · next v =>
    exact W.widen (Nat.zero_le _) (Nat.zero_le _) (vx_ret (W.lret (v := v) C.1 C.2.1 hr (fun t ht hW => ⟨⟨some (.long v), σ, rfl, h, by rw [ht]; exact hR⟩, hS.F ht⟩) hS.2.2 dg C.2.2.2.2.2.1))
  · exact h.elim
theorem sd_ar (C : ab_Cx p l R s m args meth c w nL cc own d mc) {n : String} (hr : meth.sig.returnType = some (.object n)) (dg : decode cc pc = .ok (.areturn, 1)) : ∀ L st σ, ab_ar Kn L st σ → ab_M p l e R s m args below meth c w nL (ab_Q below w s args mc Kn Kx) pc L st σ := by
  intro L st σ h H locs ls hR hS hL
  unfold ab_ar at h
  split at h
  · next v =>
    exact W.widen (Nat.zero_le _) (Nat.zero_le _) (vx_ret (W.aret (v := .ref (ab_ad w v)) C.1 C.2.1 hr (Or.inl ⟨n, rfl⟩) (Or.inr ⟨_, rfl⟩) (fun t ht hW => ⟨⟨some (.ref v), σ, rfl, h, by rw [ht]; exact hR⟩, hS.F ht⟩) hS.2.2 dg C.2.2.2.2.2.1))
  · exact h.elim
theorem sd_vr (C : ab_Cx p l R s m args meth c w nL cc own d mc) (hr : meth.sig.returnType = none) (dg : decode cc pc = .ok (.return_, 1)) : ∀ L st σ, ab_vr Kn L st σ → ab_M p l e R s m args below meth c w nL (ab_Q below w s args mc Kn Kx) pc L st σ := by
  intro L st σ h H locs ls hR hS hL
  unfold ab_vr at h
  split at h
  · exact W.widen (Nat.zero_le _) (Nat.zero_le _) (vx_ret (W.vret C.1 C.2.1 hr (fun t ht hW => ⟨⟨none, σ, rfl, h, by rw [ht]; exact hR⟩, hS.F ht⟩) hS.2.2 dg C.2.2.2.2.2.1))
  · exact h.elim
/-- calls -/
theorem ab_tk_spec : ∀ (n : Nat) (st acc As r : List Value), ab_tk n st acc = some (As, r) → ∃ B, As = B ++ acc ∧ B.length = n ∧ st = B.reverse ++ r
  | 0, r0, acc, As, r, h => by cases h; exact ⟨[], rfl, rfl, rfl⟩
  | n + 1, [], acc, As, r, h => by cases h
  | n + 1, v :: st, acc, As, r, h => by
    obtain ⟨B, h1, h2, h3⟩ := ab_tk_spec n st (v :: acc) As r h
    exact ⟨B ++ [v], by rw [h1]; simp, by simp [h2], by rw [h3]; simp⟩
theorem ab_tk_0 {n : Nat} {st As r : List Value} (h : ab_tk n st [] = some (As, r)) : As.length = n ∧ st = As.reverse ++ r := by
  obtain ⟨B, h1, h2, h3⟩ := ab_tk_spec n st [] As r h
  rw [List.append_nil] at h1
  subst h1
  exact ⟨h2, h3⟩
theorem ab_Pre_blind (w : ab_W) (sz : Nat) (σ : ab_H) (As : List Value) : FrameBlind (va_Pc As (ab_Pre w sz σ)) := fun a U g mk q =>
  ⟨q.1, q.2.1, q.2.2.1, ab_Kw.moved (u := U) (U := U.calling g mk a) (Vm.Alike.refl U.vm) q.2.2.2.1, ab_Zs.same (u := U) (U := U.calling g mk a) rfl q.2.2.2.2⟩
theorem ab_Pre_at (C : ab_Cx p l R s m args meth c w nL cc own d mc) {H : Heap} {locs : List Loc} {σ : ab_H} (hR : ab_Rep w σ H) (hS : va_S (ab_A w s.heap.size) s.heap H locs) (As : List Value) : ∀ U : State, U.heap = H → s.WarmedH U.vm → va_Pc (As.map (ab_rv w)) (ab_Pre w H.size σ) (As.map (ab_rv w)).toArray U := by
  intro U hU hW
  refine ⟨rfl, by rw [hU], by rw [hU]; exact hR, C.2.2.2.2.2.2.1.moved hW.alike, ?_⟩
  rw [hU]
  exact (C.2.2.2.2.2.2.2.1.kept hS.1 hS.2.1).warm hW
theorem ab_pay (C : ab_Cx p l R s m args meth c w nL cc own d mc) {cy : Cond} (h : cy ∈ ab_T) : ∀ x ∈ (cy :: ab_T), ∀ (a' : Array Value) (U : State), s.WarmedH U.vm → x.before a' U = true := by
  intro x hx a' U hW
  have hm : x ∈ ab_T := (List.mem_cons.mp hx).elim (fun e => e ▸ h) id
  exact word_at hW (ab_good hm) (C.2.2.2.2.1 x hm)
abbrev ab_CB (l : Launch) (d d' mcy n : Nat) (y : MethodName) (bytes : ByteArray) (maxL : Nat) (ret : Option FieldType) : Prop :=
  d' + 1 ≤ d ∧ maxL ≤ 11 ∧ Cond.code y bytes maxL ret ∈ ab_T ∧ Cond.initialized y.cls ∈ ab_T ∧ (y.cls ≠ "java/lang/invoke/MethodHandle" ∧ y.cls ≠ "java/lang/invoke/VarHandle" ∧ (parseMethodDescriptor y.desc).map (fun d => d.parameters.length) = some n)
theorem ab_callB (C : ab_Cx p l R s m args meth c w nL cc own d mc) {d' mcy n idx : Nat} {y : MethodName} {bytes : ByteArray} {maxL : Nat} {ret : Option FieldType} (hB : ab_CB l d d' mcy n y bytes maxL ret) (hlink : Cond.methodLink own idx y ∈ ab_T) : CallB R s args own idx y bytes maxL ret (Cond.code y bytes maxL ret :: ab_T) (ab_rm d' mcy) mcy (6 * mcy) n := by
  obtain ⟨h1, h2, h3, h4, h5, h6, h7⟩ := hB
  have hRR := C.2.2.2.2.2.2.2.2.2.2.1
  subst hRR
  refine ⟨rfl, rfl, h1, ?_, ab_pay C h3, List.mem_cons_self, C.2.2.2.2.1 _ h3, C.2.2.2.2.1 _ h4, ⟨h5, h6⟩, fun sig h => ?_, C.2.2.2.2.1 _ hlink⟩
  · show 8 + (maxL + 11) + 30 * d' ≤ 30 * d
    omega
  · rw [h] at h7
    exact (Option.some.inj h7).symm
theorem ab_callN (C : ab_Cx p l R s m args meth c w nL cc own d mc) {d' mcy n idx : Nat} {y : MethodName} {bytes : ByteArray} {maxL : Nat} {ret : Option FieldType} {host : String} (hB : ab_CB l d d' mcy n y bytes maxL ret) (hlink : Cond.methodLinkNest own idx y host ∈ ab_N) : va_CN R s args own idx y host bytes maxL ret (Cond.code y bytes maxL ret :: ab_T) (ab_rm d' mcy) mcy (6 * mcy) n := by
  obtain ⟨h1, h2, h3, h4, h5, h6, h7⟩ := hB
  have hRR := C.2.2.2.2.2.2.2.2.2.2.1
  subst hRR
  refine ⟨⟨rfl, rfl, h1, ?_, ab_pay C h3, List.mem_cons_self⟩, C.2.2.2.2.1 _ h3, C.2.2.2.2.1 _ h4, ⟨h5, h6⟩, fun sig h => ?_, (C.2.2.2.2.2.2.2.1.2.2.2.2.2 _ hlink).use rfl⟩
  · show 8 + (maxL + 11) + 30 * d' ≤ 30 * d
    omega
  · rw [h] at h7
    exact (Option.some.inj h7).symm
theorem ab_fix (C : ab_Cx p l R s m args meth c w nL cc own d mc) : CallFix p m c cc nL s args ab_T own := ⟨C.1, C.2.1, C.2.2.1, C.2.2.2.1, C.2.2.2.2.1⟩
theorem ab_stk (w : ab_W) (v : Option Value) (r : List Value) : (v.map (ab_rv w)).toList ++ r.map (ab_rv w) = (v.toList ++ r).map (ab_rv w) := by cases v <;> rfl
/-- behind a call that cannot throw -/
theorem ab_afterN {H : Heap} {locs : List Loc} {ls : Array Slot} {L r : List Value} {st0 : List Value} {a : Array Value} (hr : vx_Run p l e R s m args below meth c H locs 0 0 0 (6 * 0) (F0 m pc ls st0) (r.map (ab_rv w)) (ab_Qc w H.size Kn a) (ab_Xc w H.size (fun _ _ => False)) (ab_A w H.size)) (hS : va_S (ab_A w s.heap.size) s.heap H locs) (hL : ab_Lk w ls nL L)
    (kk : ∀ (v : Option Value) (σ' : ab_H), Kn v σ' → ab_M p l e R s m args below meth c w nL Q (pc + 3) L (v.toList ++ r) σ') : W p l e R s m args below meth c H locs 0 0 Q (F0 m pc ls st0) := by
  intro T hT X
  rcases hr T hT X with ⟨v, st₀, t, T', L2, h0, X', hL2, e1, e2, ⟨⟨v', σ', hv, hk, hrep⟩, hF⟩, st⟩ | ⟨q, st₀, t, T', L2, E, ce, h0, X', hL2, e1, e2, ⟨⟨σ', hf, -⟩, -⟩, -⟩
  · cases hv
    obtain ⟨-, -, k3⟩ := vx_keep h0 e1 hS (fun q _ h => ab_A.mono hS.1 h) (fun q h => ab_A.mono hS.1 h) hL2 hF
    have := kk v' σ' hk T'.heap (locs ++ L2) ls (by rw [e1]; exact hrep) k3 hL
    rw [← ab_stk] at this
    obtain ⟨t2, a1, b1⟩ := this T' rfl X'
    exact ⟨t2, st t2 a1, b1⟩
  · exact hf.elim
/-- behind a call that throws: out of the method -/
theorem ab_afterX (C : ab_Cx p l R s m args meth c w nL cc own d mc) (hno : ∀ x ∈ c.exceptionTable.toList, False) (hmc : mc = 1) {H : Heap} {locs : List Loc} {ls : Array Slot} {r : List Value} {st0 : List Value} {a : Array Value} (hr : vx_Run p l e R s m args below meth c H locs 0 0 1 (6 * 1) (F0 m pc ls st0) (r.map (ab_rv w)) (ab_Qc w H.size (fun _ _ => False) a) (ab_Xc w H.size Kx) (ab_A w H.size)) (hS : va_S (ab_A w s.heap.size) s.heap H locs) : W p l e R s m args below meth c H locs 0 0 (ab_Q below w s args mc Kn Kx) (F0 m pc ls st0) := by
  subst hmc
  intro T hT X
  rcases hr T hT X with ⟨v, st₀, t, T', L2, h0, X', hL2, e1, e2, ⟨⟨v', σ', hv, hk, hrep⟩, hF⟩, st⟩ | ⟨q, st₀, t, T', L2, E, ce, h0, X', hL2, e1, e2, ⟨⟨σ', hk, hrep⟩, hF⟩, hce, hcv, hcl, st⟩
  · exact hk.elim
  · obtain ⟨-, -, k3⟩ := vx_keep h0 e1 hS (fun q _ h => ab_A.mono hS.1 h) (fun q h => ab_A.mono hS.1 h) hL2 hF
    obtain ⟨t2, a1, b1⟩ := vx_out (p := p) (l := l) (e := e) (R := R) (s := s) (m := m) (args := args) (below := below) (meth := meth) (c := c) (Qc := ab_Qc w s.heap.size Kn) (XC := ab_Xc w s.heap.size Kx) (free := ab_A w s.heap.size) (ls := ls) (rest := r.map (ab_rv w)) (pc := pc) (E := E) (ce := ce) (q := q) (mc := 1) (ms := 6 * 1) (H := T'.heap) (locs := locs ++ L2) (cells := 0 + 1) (slots := 0 + 6 * 1)
      (fun x hx => (hno x hx).elim) C.2.2.2.2.2.1 (by rw [e1]; exact hce) hcv hcl (fun t9 h9 _ => ⟨⟨σ', hk, by rw [h9, e1]; exact hrep⟩, k3.F h9⟩) k3.2.2 (by omega) (by omega) T' rfl X'
    exact ⟨t2, st.trans a1, b1⟩
/-- the receiver's class -/
theorem ab_recv (C : ab_Cx p l R s m args meth c w nL cc own d mc) {H : Heap} {σ : ab_H} (hR : ab_Rep w σ H) {ci : Nat} {r : vw_C} (hci : vwCl[ci]? = some r) {a : Nat} (ha : ab_kd w a = ci) : ∃ cellB : Cell, H[ab_ad w a]? = some cellB ∧ cellB.vm.isStatics = false ∧ s.vm.findClass r.1 = some cellB.cls := by
  subst ha
  obtain ⟨r', q1, ⟨cell, g1, g2, g3, -⟩⟩ := (hR a).1 (ab_kd10 hci)
  obtain rfl : r' = r := Option.some.inj (q1.symm.trans hci)
  exact ⟨cell, g1, by rw [g3]; rfl, by rw [g2]; exact (C.2.2.2.2.2.2.1.1 _ _ hci).2.1⟩
def ab_cV (w : ab_W) (n ci : Nat) (sN : ab_S) (P : ab_P) : ab_P := fun L st σ => match ab_tk n st [] with
  | some (.ref a :: As, r) => ab_sh r = true ∧ ab_kd w a = ci ∧ sN w (.ref a :: As) σ (fun v σ' => P L (v.toList ++ r) σ')
  | _ => False
def ab_cVX (w : ab_W) (mc n ci : Nat) (sN : ab_S) (sX : ab_SX) (Kx : String → ab_H → Prop) (P : ab_P) : ab_P := fun L st σ => match ab_tk n st [] with
  | some (.ref a :: As, r) => ab_sh r = true ∧ ab_kd w a = ci ∧ (sN w (.ref a :: As) σ (fun v σ' => P L (v.toList ++ r) σ') ∨ (mc = 1 ∧ sX w (.ref a :: As) σ Kx))
  | _ => False
def ab_cSX (w : ab_W) (mc n : Nat) (sN : ab_S) (sX : ab_SX) (Kx : String → ab_H → Prop) (P : ab_P) : ab_P := fun L st σ => match ab_tk n st [] with
  | some (As, r) => ab_sh r = true ∧ (sN w As σ (fun v σ' => P L (v.toList ++ r) σ') ∨ (mc = 1 ∧ sX w As σ Kx))
  | none => False
theorem ab_runV (C : ab_Cx p l R s m args meth c w nL cc own d mc) {d' mcy n idx ci : Nat} {y : MethodName} {bytes : ByteArray} {maxL : Nat} {ret : Option FieldType} {row : vw_C} (hci : vwCl[ci]? = some row) (hy : row.1 = y.cls) (hB : ab_CB l d d' mcy n y bytes maxL ret) (hlink : Cond.methodLink own idx y ∈ ab_T) (hinst : Cond.instanceMethod y ∈ ab_T) (hsel : Cond.selects y.cls y y ∈ ab_T) (dg : decode cc pc = .ok (.invokevirtual idx, 3))
    {H : Heap} {locs : List Loc} {ls : Array Slot} {σ : ab_H} {L As r : List Value} {a : Nat} (hR : ab_Rep w σ H) (hS : va_S (ab_A w s.heap.size) s.heap H locs) (hL : ab_Lk w ls nL L) (hn : As.length = n) (hsh : ab_sh r = true) (ha : ab_kd w a = ci) (hmc : mcy ≤ mc) (hM : ab_Met l y (Cond.code y bytes maxL ret) d' mcy w σ (.ref a :: As) Kn Kx) :
    vx_Run p l e R s m args below meth c H locs 0 0 mcy (6 * mcy) (F0 m pc ls (((.ref a :: As).reverse ++ r).map (ab_rv w))) (r.map (ab_rv w)) (ab_Qc w H.size Kn ((Value.ref a :: As).map (ab_rv w)).toArray) (ab_Xc w H.size Kx) (ab_A w H.size) := by
  have hRR := C.2.2.2.2.2.2.2.2.2.2.1
  refine vx_runV (As := As.map (ab_rv w)) (b := ab_ad w a) (C := y.cls) (ab_fix C) (hM H.size) ⟨ab_callB C hB hlink, C.2.2.2.2.1 _ hinst, C.2.2.2.2.1 _ hsel⟩ ⟨ab_Pre_blind _ _ _ _, by rw [← hy]; exact ab_recv C hR hci ha, ab_Pre_at C hR hS (.ref a :: As)⟩ rfl (by simpa using hn) hL.1 ?_ (lv_room (ab_sh_cat hsh)) dg ?_
  · show (((Value.ref a :: As).reverse ++ r).map (ab_rv w)) = _
    simp [ab_rv]
  · subst hRR
    show 0 + mcy ≤ mc ∧ 0 + 6 * mcy ≤ 6 * mc
    omega
theorem sd_cV (C : ab_Cx p l R s m args meth c w nL cc own d mc) {d' n idx ci : Nat} {y : MethodName} {bytes : ByteArray} {maxL : Nat} {ret : Option FieldType} {row : vw_C} {sN : ab_S} (hok : ab_OkN l y (Cond.code y bytes maxL ret) d' sN) (hci : vwCl[ci]? = some row) (hy : row.1 = y.cls) (hB : ab_CB l d d' 0 n y bytes maxL ret) (hlink : Cond.methodLink own idx y ∈ ab_T) (hinst : Cond.instanceMethod y ∈ ab_T) (hsel : Cond.selects y.cls y y ∈ ab_T) (dg : decode cc pc = .ok (.invokevirtual idx, 3))
    (kk : ∀ L st σ, P L st σ → ab_M p l e R s m args below meth c w nL Q (pc + 3) L st σ) : ∀ L st σ, ab_cV w (n + 1) ci sN P L st σ → ab_M p l e R s m args below meth c w nL Q pc L st σ := by
  intro L st σ h H locs ls hR hS hL
  unfold ab_cV at h
  split at h
  · next a As r htk =>
    obtain ⟨h1, h2⟩ := ab_tk_0 htk
    subst h2
    have hr := ab_runV (p := p) (e := e) (below := below) (Kx := fun _ _ => False) C hci hy hB hlink hinst hsel dg hR hS hL (by simpa using h1) h.1 h.2.1 (Nat.zero_le _) (hok w σ _ _ C.2.2.2.2.2.2.2.2.1 h.2.2)
    exact ab_afterN hr hS hL (fun v σ' hk => kk _ _ _ hk)
  · exact h.elim
theorem sd_cVX (C : ab_Cx p l R s m args meth c w nL cc own d mc) (hno : ∀ x ∈ c.exceptionTable.toList, False) {d' n idx ci : Nat} {y : MethodName} {bytes : ByteArray} {maxL : Nat} {ret : Option FieldType} {row : vw_C} {sN : ab_S} {sX : ab_SX} (hok : ab_OkN l y (Cond.code y bytes maxL ret) d' sN) (hokX : ab_OkX l y (Cond.code y bytes maxL ret) d' sX) (hci : vwCl[ci]? = some row) (hy : row.1 = y.cls) (hB : ab_CB l d d' 0 n y bytes maxL ret) (hlink : Cond.methodLink own idx y ∈ ab_T) (hinst : Cond.instanceMethod y ∈ ab_T) (hsel : Cond.selects y.cls y y ∈ ab_T) (dg : decode cc pc = .ok (.invokevirtual idx, 3))
    (kk : ∀ L st σ, P L st σ → ab_M p l e R s m args below meth c w nL (ab_Q below w s args mc Kn Kx) (pc + 3) L st σ) : ∀ L st σ, ab_cVX w mc (n + 1) ci sN sX Kx P L st σ → ab_M p l e R s m args below meth c w nL (ab_Q below w s args mc Kn Kx) pc L st σ := by
  intro L st σ h H locs ls hR hS hL
  unfold ab_cVX at h
  split at h
  · next a As r htk =>
    obtain ⟨h1, h2⟩ := ab_tk_0 htk
    subst h2
    rcases h.2.2 with h3 | ⟨h3, h4⟩
    · have hr := ab_runV (p := p) (e := e) (below := below) (Kx := fun _ _ => False) C hci hy hB hlink hinst hsel dg hR hS hL (by simpa using h1) h.1 h.2.1 (Nat.zero_le _) (hok w σ _ _ C.2.2.2.2.2.2.2.2.1 h3)
      exact ab_afterN hr hS hL (fun v σ' hk => kk _ _ _ hk)
    · have hr := ab_runV (p := p) (e := e) (below := below) (Kn := fun _ _ => False) (mcy := 1) C hci hy hB hlink hinst hsel dg hR hS hL (by simpa using h1) h.1 h.2.1 (by omega) (hokX w σ _ _ C.2.2.2.2.2.2.2.2.1 h4)
      exact ab_afterX C hno h3 hr hS
  · exact h.elim
theorem ab_runS (C : ab_Cx p l R s m args meth c w nL cc own d mc) {d' mcy n idx : Nat} {y : MethodName} {bytes : ByteArray} {maxL : Nat} {ret : Option FieldType} (hB : ab_CB l d d' mcy n y bytes maxL ret) (hlink : Cond.methodLink own idx y ∈ ab_T) (hstat : Cond.static y ∈ ab_T) (dg : decode cc pc = .ok (.invokestatic idx, 3))
    {H : Heap} {locs : List Loc} {ls : Array Slot} {σ : ab_H} {L As r : List Value} (hR : ab_Rep w σ H) (hS : va_S (ab_A w s.heap.size) s.heap H locs) (hL : ab_Lk w ls nL L) (hn : As.length = n) (hsh : ab_sh r = true) (hmc : mcy ≤ mc) (hM : ab_Met l y (Cond.code y bytes maxL ret) d' mcy w σ As Kn Kx) :
    vx_Run p l e R s m args below meth c H locs 0 0 mcy (6 * mcy) (F0 m pc ls ((As.reverse ++ r).map (ab_rv w))) (r.map (ab_rv w)) (ab_Qc w H.size Kn (As.map (ab_rv w)).toArray) (ab_Xc w H.size Kx) (ab_A w H.size) := by
  have hRR := C.2.2.2.2.2.2.2.2.2.2.1
  refine vx_runS (As := As.map (ab_rv w)) (ab_fix C) (hM H.size) ⟨ab_callB C hB hlink, C.2.2.2.2.1 _ hstat⟩ ⟨ab_Pre_blind _ _ _ _, ab_Pre_at C hR hS As⟩ rfl (by simpa using hn) hL.1 ?_ (lv_room (ab_sh_cat hsh)) dg ?_
  · show ((As.reverse ++ r).map (ab_rv w)) = _
    simp
  · subst hRR
    show 0 + mcy ≤ mc ∧ 0 + 6 * mcy ≤ 6 * mc
    omega
theorem ab_runSN (C : ab_Cx p l R s m args meth c w nL cc own d mc) {d' mcy n idx : Nat} {y : MethodName} {bytes : ByteArray} {maxL : Nat} {ret : Option FieldType} {host : String} (hB : ab_CB l d d' mcy n y bytes maxL ret) (hlink : Cond.methodLinkNest own idx y host ∈ ab_N) (hstat : Cond.static y ∈ ab_T) (dg : decode cc pc = .ok (.invokestatic idx, 3))
    {H : Heap} {locs : List Loc} {ls : Array Slot} {σ : ab_H} {L As r : List Value} (hR : ab_Rep w σ H) (hS : va_S (ab_A w s.heap.size) s.heap H locs) (hL : ab_Lk w ls nL L) (hn : As.length = n) (hsh : ab_sh r = true) (hmc : mcy ≤ mc) (hM : ab_Met l y (Cond.code y bytes maxL ret) d' mcy w σ As Kn Kx) :
    vx_Run p l e R s m args below meth c H locs 0 0 mcy (6 * mcy) (F0 m pc ls ((As.reverse ++ r).map (ab_rv w))) (r.map (ab_rv w)) (ab_Qc w H.size Kn (As.map (ab_rv w)).toArray) (ab_Xc w H.size Kx) (ab_A w H.size) := by
  have hRR := C.2.2.2.2.2.2.2.2.2.2.1
  refine vx_runSN (As := As.map (ab_rv w)) (ab_fix C) (hM H.size) ⟨ab_callN C hB hlink, C.2.2.2.2.1 _ hstat, trivial⟩ ⟨ab_Pre_blind _ _ _ _, ab_Pre_at C hR hS As⟩ rfl (by simpa using hn) hL.1 ?_ (lv_room (ab_sh_cat hsh)) dg ?_
  · show ((As.reverse ++ r).map (ab_rv w)) = _
    simp
  · subst hRR
    show 0 + mcy ≤ mc ∧ 0 + 6 * mcy ≤ 6 * mc
    omega
theorem sd_cS (C : ab_Cx p l R s m args meth c w nL cc own d mc) {d' n idx : Nat} {y : MethodName} {bytes : ByteArray} {maxL : Nat} {ret : Option FieldType} {sN : ab_S} (hok : ab_OkN l y (Cond.code y bytes maxL ret) d' sN) (hB : ab_CB l d d' 0 n y bytes maxL ret) (hlink : Cond.methodLink own idx y ∈ ab_T) (hstat : Cond.static y ∈ ab_T) (dg : decode cc pc = .ok (.invokestatic idx, 3))
    (kk : ∀ L st σ, P L st σ → ab_M p l e R s m args below meth c w nL Q (pc + 3) L st σ) : ∀ L st σ, ab_cN w n sN P L st σ → ab_M p l e R s m args below meth c w nL Q pc L st σ := by
  intro L st σ h H locs ls hR hS hL
  unfold ab_cN at h
  split at h
  · next As r htk =>
    obtain ⟨h1, h2⟩ := ab_tk_0 htk
    subst h2
    have hr := ab_runS (p := p) (e := e) (below := below) (Kx := fun _ _ => False) C hB hlink hstat dg hR hS hL h1 h.1 (Nat.zero_le _) (hok w σ _ _ C.2.2.2.2.2.2.2.2.1 h.2)
    exact ab_afterN hr hS hL (fun v σ' hk => kk _ _ _ hk)
  · exact h.elim
theorem sd_cSX (C : ab_Cx p l R s m args meth c w nL cc own d mc) (hno : ∀ x ∈ c.exceptionTable.toList, False) {d' n idx : Nat} {y : MethodName} {bytes : ByteArray} {maxL : Nat} {ret : Option FieldType} {sN : ab_S} {sX : ab_SX} (hok : ab_OkN l y (Cond.code y bytes maxL ret) d' sN) (hokX : ab_OkX l y (Cond.code y bytes maxL ret) d' sX) (hB : ab_CB l d d' 0 n y bytes maxL ret) (hlink : Cond.methodLink own idx y ∈ ab_T) (hstat : Cond.static y ∈ ab_T) (dg : decode cc pc = .ok (.invokestatic idx, 3))
    (kk : ∀ L st σ, P L st σ → ab_M p l e R s m args below meth c w nL (ab_Q below w s args mc Kn Kx) (pc + 3) L st σ) : ∀ L st σ, ab_cSX w mc n sN sX Kx P L st σ → ab_M p l e R s m args below meth c w nL (ab_Q below w s args mc Kn Kx) pc L st σ := by
  intro L st σ h H locs ls hR hS hL
  unfold ab_cSX at h
  split at h
  · next As r htk =>
    obtain ⟨h1, h2⟩ := ab_tk_0 htk
    subst h2
    rcases h.2 with h3 | ⟨h3, h4⟩
    · have hr := ab_runS (p := p) (e := e) (below := below) (Kx := fun _ _ => False) C hB hlink hstat dg hR hS hL h1 h.1 (Nat.zero_le _) (hok w σ _ _ C.2.2.2.2.2.2.2.2.1 h3)
      exact ab_afterN hr hS hL (fun v σ' hk => kk _ _ _ hk)
    · have hr := ab_runS (p := p) (e := e) (below := below) (Kn := fun _ _ => False) (mcy := 1) C hB hlink hstat dg hR hS hL h1 h.1 (by omega) (hokX w σ _ _ C.2.2.2.2.2.2.2.2.1 h4)
      exact ab_afterX C hno h3 hr hS
  · exact h.elim
theorem sd_cSN (C : ab_Cx p l R s m args meth c w nL cc own d mc) {d' n idx : Nat} {y : MethodName} {bytes : ByteArray} {maxL : Nat} {ret : Option FieldType} {host : String} {sN : ab_S} (hok : ab_OkN l y (Cond.code y bytes maxL ret) d' sN) (hB : ab_CB l d d' 0 n y bytes maxL ret) (hlink : Cond.methodLinkNest own idx y host ∈ ab_N) (hstat : Cond.static y ∈ ab_T) (dg : decode cc pc = .ok (.invokestatic idx, 3))
    (kk : ∀ L st σ, P L st σ → ab_M p l e R s m args below meth c w nL Q (pc + 3) L st σ) : ∀ L st σ, ab_cN w n sN P L st σ → ab_M p l e R s m args below meth c w nL Q pc L st σ := by
  intro L st σ h H locs ls hR hS hL
  unfold ab_cN at h
  split at h
  · next As r htk =>
    obtain ⟨h1, h2⟩ := ab_tk_0 htk
    subst h2
    have hr := ab_runSN (p := p) (e := e) (below := below) (Kx := fun _ _ => False) C hB hlink hstat dg hR hS hL h1 h.1 (Nat.zero_le _) (hok w σ _ _ C.2.2.2.2.2.2.2.2.1 h.2)
    exact ab_afterN hr hS hL (fun v σ' hk => kk _ _ _ hk)
  · exact h.elim
/-- Math's own -/
theorem sd_mmin (C : ab_Cx p l R s m args meth c w nL cc own d mc) {idx : Nat} (hlink : Cond.methodLink own idx Lib.Math.min.name ∈ ab_T) (hstat : Cond.static Lib.Math.min.name ∈ ab_T) (hini : Cond.initialized "java/lang/Math" ∈ ab_T) (hcode : Cond.code Lib.Math.min.name Lib.Math.min.code 2 (some .int) ∈ ab_T) (dg : decode cc pc = .ok (.invokestatic idx, 3)) (kk : ∀ L st σ, P L st σ → ab_M p l e R s m args below meth c w nL Q (pc + 3) L st σ) : ∀ L st σ, ab_mth2 (fun x y => if y < x then y else x) P L st σ → ab_M p l e R s m args below meth c w nL Q pc L st σ := by
  intro L st σ h H locs ls hR hS hL
  unfold ab_mth2 at h
  split at h
  · have hRR := C.2.2.2.2.2.2.2.2.2.2
    have := ab_sh_cat (w := w) h.1
    exact va_mmin C.1 C.2.1 (by rw [C.2.2.1, hL.1]) C.2.2.2.1 (C.2.2.2.2.1 _ hlink) (C.2.2.2.2.1 _ hstat) (C.2.2.2.2.1 _ hini) (C.2.2.2.2.1 _ hcode) (by rw [hRR.1]; exact hRR.2) (by rw [hRR.1]; show _ + 13 ≤ 30 * d; omega) (Nat.zero_le _) (Nat.zero_le _) dg (kk _ _ _ h.2 H locs ls hR hS hL)
  · exact h.elim
theorem sd_mmax (C : ab_Cx p l R s m args meth c w nL cc own d mc) {idx : Nat} (hlink : Cond.methodLink own idx Lib.Math.max.name ∈ ab_T) (hstat : Cond.static Lib.Math.max.name ∈ ab_T) (hini : Cond.initialized "java/lang/Math" ∈ ab_T) (hcode : Cond.code Lib.Math.max.name Lib.Math.max.code 2 (some .int) ∈ ab_T) (dg : decode cc pc = .ok (.invokestatic idx, 3)) (kk : ∀ L st σ, P L st σ → ab_M p l e R s m args below meth c w nL Q (pc + 3) L st σ) : ∀ L st σ, ab_mth2 (fun x y => if x < y then y else x) P L st σ → ab_M p l e R s m args below meth c w nL Q pc L st σ := by
  intro L st σ h H locs ls hR hS hL
  unfold ab_mth2 at h
  split at h
  · have hRR := C.2.2.2.2.2.2.2.2.2.2
    have := ab_sh_cat (w := w) h.1
    exact va_mmax C.1 C.2.1 (by rw [C.2.2.1, hL.1]) C.2.2.2.1 (C.2.2.2.2.1 _ hlink) (C.2.2.2.2.1 _ hstat) (C.2.2.2.2.1 _ hini) (C.2.2.2.2.1 _ hcode) (by rw [hRR.1]; exact hRR.2) (by rw [hRR.1]; show _ + 13 ≤ 30 * d; omega) (Nat.zero_le _) (Nat.zero_le _) dg (kk _ _ _ h.2 H locs ls hR hS hL)
  · exact h.elim
theorem sd_mabs (C : ab_Cx p l R s m args meth c w nL cc own d mc) {idx : Nat} (hlink : Cond.methodLink own idx Lib.Math.abs.name ∈ ab_T) (hstat : Cond.static Lib.Math.abs.name ∈ ab_T) (hini : Cond.initialized "java/lang/Math" ∈ ab_T) (hcode : Cond.code Lib.Math.abs.name Lib.Math.abs.code 1 (some .int) ∈ ab_T) (dg : decode cc pc = .ok (.invokestatic idx, 3)) (kk : ∀ L st σ, P L st σ → ab_M p l e R s m args below meth c w nL Q (pc + 3) L st σ) : ∀ L st σ, ab_mth1 (fun x => if 0 ≤ x then x else 0 - x) P L st σ → ab_M p l e R s m args below meth c w nL Q pc L st σ := by
  intro L st σ h H locs ls hR hS hL
  unfold ab_mth1 at h
  split at h
  · have hRR := C.2.2.2.2.2.2.2.2.2.2
    have := ab_sh_cat (w := w) h.1
    exact va_mabs C.1 C.2.1 (by rw [C.2.2.1, hL.1]) C.2.2.2.1 (C.2.2.2.2.1 _ hlink) (C.2.2.2.2.1 _ hstat) (C.2.2.2.2.1 _ hini) (C.2.2.2.2.1 _ hcode) (by rw [hRR.1]; exact hRR.2) (by rw [hRR.1]; show _ + 13 ≤ 30 * d; omega) (Nat.zero_le _) (Nat.zero_le _) dg (kk _ _ _ h.2 H locs ls hR hS hL)
  · exact h.elim
end ABS3
