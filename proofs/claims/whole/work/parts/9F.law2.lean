/-! THE LAW'S OWN WALK: its frame and its room; the script lies at the address 19, which is no cell of the world -/
def lw_Cx (p : Program) (l : Launch) (s : State) (m : MethodId) (args : Array Value) (meth : Method) (c : Code) (w : ab_W) (sl : Nat) (xs : Nat → Int32) : Prop :=
  p.tables.exec = Jvm.exec ∧ c.code = cL_law ∧ c.maxLocals = 7 ∧ s.vm.findClass RL = some m.cls ∧ (∀ x ∈ ab_T, x.before args s = true) ∧ meth.locks = false ∧ ab_Kw w s ∧ ab_Zs w s.heap.size s s.heap ∧ ab_Inj w ∧ l.stackTraces = false ∧ lw_X s ∧ va_X (ab_ad w 19) sl xs s s.heap ∧ ab_ad w 19 < s.heap.size ∧ ¬ ab_A w s.heap.size (ab_ad w 19) ∧ sl ≤ 3072 ∧ wA w ∧ wD w ∧ ab_kd w 18 = 15 ∧ ab_ln w 18 = 1
section LRM
variable {p : Program} {l : Launch} {e : Env} {s : State} {m : MethodId} {args : Array Value} {below : List Frame} {meth : Method} {c : Code} {w : ab_W} {Q : State → Prop} {nc ns pc sl : Nat} {xs : Nat → Int32} {L L' st r : List Value} {σ : ab_H}
def lw_M (p : Program) (l : Launch) (e : Env) (s : State) (m : MethodId) (args : Array Value) (below : List Frame) (meth : Method) (c : Code) (w : ab_W) (Q : State → Prop) (nc ns pc : Nat) (L st : List Value) (σ : ab_H) : Prop :=
  ∀ (H : Heap) (locs : List Loc) (ls : Array Slot), ab_Rep w σ H → va_S (ab_A w s.heap.size) s.heap H locs → ab_Lk w ls 7 L → W p l e room_1 s m args below meth c H locs nc ns Q (F0 m pc ls (st.map (ab_rv w)))
theorem lr_weak (hw : ∀ j, ab_gl L j = .null ∨ ab_gl L' j = ab_gl L j) (k : lw_M p l e s m args below meth c w Q nc ns pc L st σ) : lw_M p l e s m args below meth c w Q nc ns pc L' st σ := fun H locs ls hR hS hL =>
  k H locs ls hR hS ⟨hL.1, hL.2.1, fun i v hv hn => (hw i).elim (fun q => absurd (hv.symm.trans q) hn) (fun q => hL.2.2 i v (q.trans hv) hn)⟩
theorem lr_aload (C : lw_Cx p l s m args meth c w sl xs) {kf : Fin 4} {i v : Nat} (dg : decode cL_law pc = .ok (.aload_n kf, 1)) (hi : (kf : Nat) = i) (hg : ab_gl L i = .ref v) (k : lw_M p l e s m args below meth c w Q nc ns (pc + 1) L (.ref v :: st) σ) : lw_M p l e s m args below meth c w Q nc ns pc L st σ := fun H locs ls hR hS hL =>
  lv_aload_n C.1 C.2.1 dg hi (hL.ref hg) (k H locs ls hR hS hL)
theorem lr_iload (C : lw_Cx p l s m args meth c w sl xs) {i : Nat} {x : Int32} (dg : decode cL_law pc = .ok (.iload i, 2)) (hg : ab_gl L i = .int x) (k : lw_M p l e s m args below meth c w Q nc ns (pc + 2) L (.int x :: st) σ) : lw_M p l e s m args below meth c w Q nc ns pc L st σ := fun H locs ls hR hS hL =>
  lv_iload C.1 C.2.1 dg (hL.int hg) (k H locs ls hR hS hL)
theorem lr_istore (C : lw_Cx p l s m args meth c w sl xs) {i : Nat} {x : Int32} (dg : decode cL_law pc = .ok (.istore i, 2)) (hn : i < 7) (hk : ab_k1 L i = true) (k : lw_M p l e s m args below meth c w Q nc ns (pc + 2) (ab_sl L i (.int x)) st σ) : lw_M p l e s m args below meth c w Q nc ns pc L (.int x :: st) σ := fun H locs ls hR hS hL =>
  lv_istore C.1 C.2.1 dg hL.has hn rfl (fun ls' hl => k H locs ls' hR hS (hL.st1 (v := .int x) hk hl))
theorem lr_iconst (C : lw_Cx p l s m args meth c w sl xs) {n : Int} {x : Int32} (dg : decode cL_law pc = .ok (.iconst n, 1)) (hv : Int32.ofInt n = x) (k : lw_M p l e s m args below meth c w Q nc ns (pc + 1) L (.int x :: st) σ) : lw_M p l e s m args below meth c w Q nc ns pc L st σ := fun H locs ls hR hS hL =>
  lv_iconst C.1 C.2.1 dg hv (k H locs ls hR hS hL)
theorem lr_bipush (C : lw_Cx p l s m args meth c w sl xs) {n : Int} {x : Int32} (dg : decode cL_law pc = .ok (.bipush n, 2)) (hv : (Int8.ofInt n).toInt32 = x) (k : lw_M p l e s m args below meth c w Q nc ns (pc + 2) L (.int x :: st) σ) : lw_M p l e s m args below meth c w Q nc ns pc L st σ := fun H locs ls hR hS hL =>
  lv_bipush C.1 C.2.1 dg hv (k H locs ls hR hS hL)
theorem lr_iadd (C : lw_Cx p l s m args meth c w sl xs) {x y : Int32} (dg : decode cL_law pc = .ok (.iadd, 1)) (k : lw_M p l e s m args below meth c w Q nc ns (pc + 1) L (.int (x + y) :: st) σ) : lw_M p l e s m args below meth c w Q nc ns pc L (.int y :: .int x :: st) σ := fun H locs ls hR hS hL =>
  lv_iadd C.1 C.2.1 dg (k H locs ls hR hS hL)
theorem lr_isub (C : lw_Cx p l s m args meth c w sl xs) {x y : Int32} (dg : decode cL_law pc = .ok (.isub, 1)) (k : lw_M p l e s m args below meth c w Q nc ns (pc + 1) L (.int (x - y) :: st) σ) : lw_M p l e s m args below meth c w Q nc ns pc L (.int y :: .int x :: st) σ := fun H locs ls hR hS hL =>
  lv_isub C.1 C.2.1 dg (k H locs ls hR hS hL)
theorem lr_iand (C : lw_Cx p l s m args meth c w sl xs) {x y : Int32} (dg : decode cL_law pc = .ok (.iand, 1)) (k : lw_M p l e s m args below meth c w Q nc ns (pc + 1) L (.int (x &&& y) :: st) σ) : lw_M p l e s m args below meth c w Q nc ns pc L (.int y :: .int x :: st) σ := fun H locs ls hR hS hL =>
  lv_iand C.1 C.2.1 dg (k H locs ls hR hS hL)
theorem lr_land (C : lw_Cx p l s m args meth c w sl xs) {x y : Int64} (dg : decode cL_law pc = .ok (.land, 1)) (k : lw_M p l e s m args below meth c w Q nc ns (pc + 1) L (.long (x &&& y) :: st) σ) : lw_M p l e s m args below meth c w Q nc ns pc L (.long y :: .long x :: st) σ := fun H locs ls hR hS hL =>
  lv_land C.1 C.2.1 dg (k H locs ls hR hS hL)
theorem lr_lor (C : lw_Cx p l s m args meth c w sl xs) {x y : Int64} (dg : decode cL_law pc = .ok (.lor, 1)) (k : lw_M p l e s m args below meth c w Q nc ns (pc + 1) L (.long (x ||| y) :: st) σ) : lw_M p l e s m args below meth c w Q nc ns pc L (.long y :: .long x :: st) σ := fun H locs ls hR hS hL =>
  lv_lor C.1 C.2.1 dg (k H locs ls hR hS hL)
theorem lr_lshl (C : lw_Cx p l s m args meth c w sl xs) {x : Int64} {y : Int32} (dg : decode cL_law pc = .ok (.lshl, 1)) (k : lw_M p l e s m args below meth c w Q nc ns (pc + 1) L (.long (x <<< (y.toInt64 &&& 63)) :: st) σ) : lw_M p l e s m args below meth c w Q nc ns pc L (.int y :: .long x :: st) σ := fun H locs ls hR hS hL =>
  lv_lshl C.1 C.2.1 dg rfl (k H locs ls hR hS hL)
theorem lr_ldc2 (C : lw_Cx p l s m args meth c w sl xs) {i : Nat} {x : Int64} (dg : decode cL_law pc = .ok (.ldc2_w i, 3)) (hv : Jvm.Cond.constantLong RL i x ∈ ab_T) (k : lw_M p l e s m args below meth c w Q nc ns (pc + 3) L (.long x :: st) σ) : lw_M p l e s m args below meth c w Q nc ns pc L st σ := fun H locs ls hR hS hL =>
  lv_ldc2 C.1 C.2.1 C.2.2.2.1 (C.2.2.2.2.1 _ hv) dg (k H locs ls hR hS hL)
theorem lr_i2l (C : lw_Cx p l s m args meth c w sl xs) {x : Int32} (dg : decode cL_law pc = .ok (.i2l, 1)) (k : lw_M p l e s m args below meth c w Q nc ns (pc + 1) L (.long x.toInt64 :: st) σ) : lw_M p l e s m args below meth c w Q nc ns pc L (.int x :: st) σ := fun H locs ls hR hS hL =>
  lv_i2l C.1 C.2.1 dg rfl (k H locs ls hR hS hL)
theorem lr_goto (C : lw_Cx p l s m args meth c w sl xs) {off : Int} {tgt : Nat} (dg : decode cL_law pc = .ok (.goto off, 3)) (ht : (pc : Int) + off = (tgt : Int)) (k : lw_M p l e s m args below meth c w Q nc ns tgt L st σ) : lw_M p l e s m args below meth c w Q nc ns pc L st σ := fun H locs ls hR hS hL =>
  lv_goto C.1 C.2.1 dg ht (k H locs ls hR hS hL)
/-- a cell of the script -/
theorem lr_ld (C : lw_Cx p l s m args meth c w sl xs) {i : Nat} (dg : decode cL_law pc = .ok (.iaload, 1)) (hi : i < sl) (k : lw_M p l e s m args below meth c w Q nc ns (pc + 1) L (.int (xs i) :: st) σ) : lw_M p l e s m args below meth c w Q nc ns pc L (.int (nI i) :: .ref 19 :: st) σ := fun H locs ls hR hS hL => by
  have hs : sl ≤ 3072 := C.2.2.2.2.2.2.2.2.2.2.2.2.2.2.1
  refine va_sld C.1 C.2.1 C.2.2.2.2.2.2.2.2.2.2.2.1 C.2.2.2.2.2.2.2.2.2.2.2.2.1 C.2.2.2.2.2.2.2.2.2.2.2.2.2.1 hS (vp_in_nI hi (by omega)) dg ?_
  rw [nI_clamp (by omega)]
  exact k H locs ls hR hS hL
theorem lr_len (C : lw_Cx p l s m args meth c w sl xs) (dg : decode cL_law pc = .ok (.arraylength, 1)) (k : lw_M p l e s m args below meth c w Q nc ns (pc + 1) L (.int (nI sl) :: st) σ) : lw_M p l e s m args below meth c w Q nc ns pc L (.ref 19 :: st) σ := fun H locs ls hR hS hL =>
  va_slen C.1 C.2.1 C.2.2.2.2.2.2.2.2.2.2.2.1 C.2.2.2.2.2.2.2.2.2.2.2.2.1 C.2.2.2.2.2.2.2.2.2.2.2.2.2.1 hS dg (k H locs ls hR hS hL)
def lw_Ds (pc j : Nat) : Prop := decode cL_law pc = .ok (.aload_n 0, 1) ∧ decode cL_law (pc + 1) = .ok (.iload 4, 2) ∧ (∃ kj : Int, decode cL_law (pc + 3) = .ok (.iconst kj, 1) ∧ Int32.ofInt kj = nI j) ∧ decode cL_law (pc + 4) = .ok (.iadd, 1) ∧ decode cL_law (pc + 5) = .ok (.iaload, 1)
theorem lr_sc (C : lw_Cx p l s m args meth c w sl xs) {i j : Nat} (D : lw_Ds pc j) (h0 : ab_gl L 0 = .ref 19) (h4 : ab_gl L 4 = .int (nI i)) (hij : i + j < sl) (k : lw_M p l e s m args below meth c w Q nc ns (pc + 6) L (.int (xs (i + j)) :: st) σ) : lw_M p l e s m args below meth c w Q nc ns pc L st σ := by
  obtain ⟨d0, d1, ⟨kj, d2, hj⟩, d3, d4⟩ := D
  refine lr_aload C d0 rfl h0 (lr_iload C d1 h4 (lr_iconst C d2 hj (lr_iadd C d3 ?_)))
  rw [nI_add]
  exact lr_ld C d4 hij k
theorem lw_fix (C : lw_Cx p l s m args meth c w sl xs) : CallFix p m c cL_law 7 s args ab_T RL := ⟨C.1, C.2.1, C.2.2.1, C.2.2.2.1, C.2.2.2.2.1⟩
theorem lw_pay (C : lw_Cx p l s m args meth c w sl xs) {cy : Cond} (h : cy ∈ ab_T) : ∀ x ∈ (cy :: ab_T), ∀ (a' : Array Value) (U : State), s.WarmedH U.vm → x.before a' U = true := by
  intro x hx a' U hW
  have hm : x ∈ ab_T := (List.mem_cons.mp hx).elim (fun e => e ▸ h) id
  exact word_at hW (ab_good hm) (C.2.2.2.2.1 x hm)
theorem lw_Pre_at (C : lw_Cx p l s m args meth c w sl xs) {H : Heap} {locs : List Loc} (hR : ab_Rep w σ H) (hS : va_S (ab_A w s.heap.size) s.heap H locs) (As : List Value) : ∀ U : State, U.heap = H → s.WarmedH U.vm → va_Pc (As.map (ab_rv w)) (ab_Pre w H.size σ) (As.map (ab_rv w)).toArray U := by
  intro U hU hW
  refine ⟨rfl, by rw [hU], by rw [hU]; exact hR, C.2.2.2.2.2.2.1.moved hW.alike, ?_⟩
  rw [hU]
  exact (C.2.2.2.2.2.2.2.1.kept hS.1 hS.2.1).warm hW
theorem lw_recv (C : lw_Cx p l s m args meth c w sl xs) {H : Heap} (hR : ab_Rep w σ H) {ci : Nat} {r : vw_C} (hci : vwCl[ci]? = some r) {a : Nat} (ha : ab_kd w a = ci) : ∃ cellB : Cell, H[ab_ad w a]? = some cellB ∧ cellB.vm.isStatics = false ∧ s.vm.findClass r.1 = some cellB.cls := by
  subst ha
  obtain ⟨r', q1, ⟨cell, g1, g2, g3, -⟩⟩ := (hR a).1 (ab_kd10 hci)
  obtain rfl : r' = r := Option.some.inj (q1.symm.trans hci)
  exact ⟨cell, g1, by rw [g3]; rfl, by rw [g2]; exact (C.2.2.2.2.2.2.1.1 _ _ hci).2.1⟩
/-- behind a call that cannot throw -/
theorem lr_after {mcy : Nat} {Kn : Option Value → ab_H → Prop} {H : Heap} {locs : List Loc} {ls : Array Slot} {st0 : List Value} {a : Array Value} (hr : vx_Run p l e room_1 s m args below meth c H locs nc ns mcy (6 * mcy) (F0 m pc ls st0) (r.map (ab_rv w)) (ab_Qc w H.size Kn a) (ab_Xc w H.size (fun _ _ => False)) (ab_A w H.size)) (hS : va_S (ab_A w s.heap.size) s.heap H locs) (hL : ab_Lk w ls 7 L)
    (kk : ∀ (v : Option Value) (σ' : ab_H), Kn v σ' → lw_M p l e s m args below meth c w Q (nc + mcy) (ns + 6 * mcy) (pc + 3) L (v.toList ++ r) σ') : W p l e room_1 s m args below meth c H locs nc ns Q (F0 m pc ls st0) := by
  intro T hT X
  rcases hr T hT X with ⟨v, st₀, t, T', L2, h0, X', hL2, e1, e2, ⟨⟨v', σ', hv, hk, hrep⟩, hF⟩, st⟩ | ⟨q, st₀, t, T', L2, E, ce, h0, X', hL2, e1, e2, ⟨⟨σ', hf, -⟩, -⟩, -⟩
  · cases hv
    obtain ⟨-, -, k3⟩ := vx_keep h0 e1 hS (fun q _ h => ab_A.mono hS.1 h) (fun q h => ab_A.mono hS.1 h) hL2 hF
    have := kk v' σ' hk T'.heap (locs ++ L2) ls (by rw [e1]; exact hrep) k3 hL
    rw [← ab_stk] at this
    obtain ⟨t2, a1, b1⟩ := this T' rfl X'
    exact ⟨t2, st t2 a1, b1⟩
  · exact hf.elim
theorem lr_callV (C : lw_Cx p l s m args meth c w sl xs) {d' mcy n idx ci : Nat} {y : MethodName} {bytes : ByteArray} {maxL : Nat} {ret : Option FieldType} {row : vw_C} (hci : vwCl[ci]? = some row) (hy : row.1 = y.cls) (hB : ab_CB l 12 d' mcy n y bytes maxL ret) (hlink : Cond.methodLink RL idx y ∈ ab_T) (hinst : Cond.instanceMethod y ∈ ab_T) (hsel : Cond.selects y.cls y y ∈ ab_T) (dg : decode cL_law pc = .ok (.invokevirtual idx, 3))
    {As : List Value} {a : Nat} {Kn : Option Value → ab_H → Prop} (hn : As.length = n) (hsh : ab_sh r = true) (ha : ab_kd w a = ci) (hmc : nc + mcy ≤ 601024 ∧ ns + 6 * mcy ≤ 7293034) (hM : ab_Met l y (Cond.code y bytes maxL ret) d' mcy w σ (.ref a :: As) Kn (fun _ _ => False))
    (kk : ∀ (v : Option Value) (σ' : ab_H), Kn v σ' → lw_M p l e s m args below meth c w Q (nc + mcy) (ns + 6 * mcy) (pc + 3) L (v.toList ++ r) σ') : lw_M p l e s m args below meth c w Q nc ns pc L ((.ref a :: As).reverse ++ r) σ := by
  intro H locs ls hR hS hL
  refine lr_after (a := ((Value.ref a :: As).map (ab_rv w)).toArray) ?_ hS hL kk
  obtain ⟨h1, h2, h3, h4, h5, h6, h7⟩ := hB
  refine vx_runV (As := As.map (ab_rv w)) (b := ab_ad w a) (C := y.cls) (lw_fix C) (hM H.size) ⟨⟨rfl, rfl, ?_, ?_, lw_pay C h3, List.mem_cons_self, C.2.2.2.2.1 _ h3, C.2.2.2.2.1 _ h4, ⟨h5, h6⟩, fun sig h => ?_, C.2.2.2.2.1 _ hlink⟩, C.2.2.2.2.1 _ hinst, C.2.2.2.2.1 _ hsel⟩ ⟨ab_Pre_blind _ _ _ _, by rw [← hy]; exact lw_recv C hR hci ha, lw_Pre_at C hR hS (.ref a :: As)⟩ rfl (by simpa using hn) hL.1 ?_ (lv_room (ab_sh_cat hsh)) dg hmc
  · show d' + 1 ≤ 12
    omega
  · show 8 + (maxL + 11) + 30 * d' ≤ 436
    omega
  · rw [h] at h7
    exact (Option.some.inj h7).symm
  · show (((Value.ref a :: As).reverse ++ r).map (ab_rv w)) = _
    simp [ab_rv]
theorem lr_callS (C : lw_Cx p l s m args meth c w sl xs) {d' n idx : Nat} {y : MethodName} {bytes : ByteArray} {maxL : Nat} {hh : List (Nat × Nat × Nat × Nat)} (hd : d' + 1 ≤ 12) (hm : maxL ≤ 11) (hcw : Cond.codeWith y bytes maxL (some .int) hh ∈ ab_T) (hini : Cond.initialized y.cls ∈ ab_T) (hyn : y.cls ≠ "java/lang/invoke/MethodHandle" ∧ y.cls ≠ "java/lang/invoke/VarHandle" ∧ (parseMethodDescriptor y.desc).map (fun d => d.parameters.length) = some n) (hlink : Cond.methodLink RL idx y ∈ ab_T) (hstat : Cond.static y ∈ ab_T) (dg : decode cL_law pc = .ok (.invokestatic idx, 3))
    {As : List Value} {K : Int32 → ab_H → Prop} (hn : As.length = n) (hsh : ab_sh r = true) (hmc : nc + 1 ≤ 601024 ∧ ns + 6 * 1 ≤ 7293034) (hM : lw_Met l y (Cond.codeWith y bytes maxL (some .int) hh) d' w σ As K)
    (kk : ∀ (x : Int32) (σ' : ab_H), K x σ' → lw_M p l e s m args below meth c w Q (nc + 1) (ns + 6 * 1) (pc + 3) L (.int x :: r) σ') : lw_M p l e s m args below meth c w Q nc ns pc L (As.reverse ++ r) σ := by
  intro H locs ls hR hS hL
  refine lr_after (mcy := 1) (Kn := fun v σ' => ∃ x : Int32, v = some (.int x) ∧ K x σ') (r := r) (a := (As.map (ab_rv w)).toArray) ?_ hS hL (fun v σ' hk => ?_)
  · refine vx_runSX (As := As.map (ab_rv w)) (lw_fix C) (hM H.size) ⟨⟨rfl, rfl, ?_, ?_, lw_pay C hcw, List.mem_cons_self⟩, C.2.2.2.2.1 _ hcw, C.2.2.2.2.1 _ hini, ⟨hyn.1, hyn.2.1⟩, fun sig h => ?_, C.2.2.2.2.1 _ hlink, C.2.2.2.2.1 _ hstat⟩ ⟨fun a U g mk q => ?_, fun U hU hW => ?_⟩ rfl (by simpa using hn) hL.1 ?_ (lv_room (ab_sh_cat hsh)) dg hmc
    · show d' + 1 ≤ 12
      omega
    · show 8 + (maxL + 11) + 30 * d' ≤ 436
      omega
    · have h7 := hyn.2.2
      rw [h] at h7
      exact (Option.some.inj h7).symm
    · exact ⟨q.1, ⟨(ab_Pre_blind w H.size σ (As.map (ab_rv w)) a U g mk ⟨q.1, q.2.1⟩).2, q.2.2.moved (u := U) (U := U.calling g mk a) (Vm.Alike.refl U.vm)⟩⟩
    · have := lw_Pre_at C hR hS As U hU hW
      exact ⟨this.1, this.2, C.2.2.2.2.2.2.2.2.2.2.1.moved hW.alike⟩
    · show ((As.reverse ++ r).map (ab_rv w)) = _
      simp
  · obtain ⟨x, rfl, hk⟩ := hk
    exact kk x σ' hk
end LRM
