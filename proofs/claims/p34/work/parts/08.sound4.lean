section ABS4
variable {p : Program} {l : Launch} {e : Env} {R : Room} {s : State} {m : MethodId} {args : Array Value} {below : List Frame} {meth : Method} {c : Code} {w : ab_W} {nL : Nat} {cc : ByteArray} {own : String} {Q : State → Prop} {pc d mc : Nat} {P P2 : ab_P} {Kn : Option Value → ab_H → Prop} {Kx : String → ab_H → Prop}
theorem ab_i0 : (0 : Int32).toNatClampNeg = 0 := by decide
/-- System.arraycopy of the first n ints -/
theorem sd_acp (C : ab_Cx p l R s m args meth c w nL cc own d mc) {idx : Nat} (hlink : Cond.methodLink own idx arraycopyName ∈ ab_T) (hnat : Cond.native arraycopyName ∈ ab_T) (hstat : Cond.static arraycopyName ∈ ab_T) (hini : Cond.initialized "java/lang/System" ∈ ab_T) (hd : 2 ≤ d) (dg : decode cc pc = .ok (.invokestatic idx, 3)) (kk : ∀ L st σ, P L st σ → ab_M p l e R s m args below meth c w nL Q (pc + 3) L st σ) : ∀ L st σ, ab_acp w P L st σ → ab_M p l e R s m args below meth c w nL Q pc L st σ := by
  intro L st σ h H locs ls hR hS hL
  unfold ab_acp at h
  split at h
  · next n dp b sp a r =>
    obtain ⟨hsh, ha, hb, rfl, rfl, hn, h4, h5, hP⟩ := h
    have hRR := C.2.2.2.2.2.2.2.2.2.2
    have hcat := ab_sh_cat (w := w) hsh
    have hzn : n.toInt = (n.toNatClampNeg : Int) := by
      have hz0 : (0 : Int) ≤ n.toInt := by
        have := Int32.not_lt.mp hn
        simpa using Int32.le_iff_toInt_le.mp this
      show n.toInt = ((n.toInt.toNat : Nat) : Int)
      omega
    have hnat5 : nativeFrameWords "java/lang/System" "arraycopy" 5 + 11 ≤ 52 := by decide +kernel
    intro T hT X
    have hc0 := hR.arr ha (Or.inl rfl)
    have hc1 := hR.arr hb (Or.inl rfl)
    obtain ⟨-, k0, hk0, cm0, hkk0⟩ := C.2.2.2.2.2.2.1.arr 0 rfl (ab_ln w a) (fun j => .int (σ a j))
    obtain ⟨-, k1, hk1, cm1, hkk1⟩ := C.2.2.2.2.2.2.1.arr 0 rfl (ab_ln w b) (fun j => .int (σ b j))
    have h0 : ¬ (0 : Int32) < 0 := by decide
    have h0i : (0 : Int32).toInt = 0 := by decide
    obtain ⟨vm', X', step⟩ := X.arraycopy C.1 C.2.2.2.1 (C.2.2.2.2.1 _ hlink) (C.2.2.2.2.1 _ hnat) (C.2.2.2.2.1 _ hstat) (C.2.2.2.2.1 _ hini) (src := ab_ad w a) (dst := ab_ad w b) (cs := arrV (ab_ca w 11) (ab_ln w a) (fun j => .int (σ a j))) (cd := arrV (ab_ca w 11) (ab_ln w b) (fun j => .int (σ b j))) (srcPos := 0) (destPos := 0) (n := n) (by rw [hT]; exact hc0) (by rw [hT]; exact hc1)
      (fun _ h => by cases h) (fun _ h => by cases h) (fun h => by cases h) (fun h => by cases h) hk0 hk1 hkk0 hkk1 (by simp) h0 h0 hn
      (by rw [h0i, hzn, arrV_size]; omega)
      (by rw [h0i, hzn, arrV_size]; omega)
      (fun vm₁ _ i hi => by
        have e1 : (arrV (ab_ca w 11) (ab_ln w a) (fun j => Value.int (σ a j))).slots.getD ((0 : Int32).toNatClampNeg + i) .null = .int (σ a ((0 : Int32).toNatClampNeg + i)) := by
          rw [Array.getD_eq_getD_getElem?, arrV_read _ _ (by rw [ab_i0]; omega)]
          rfl
        rw [e1]
        exact ⟨rfl, trivial⟩)
      (g := F0 m pc ls ((Value.int n :: .int 0 :: .ref b :: .int 0 :: .ref a :: r).map (ab_rv w))) rfl (by rw [C.2.2.1, hL.1]) (rest := r.map (ab_rv w)) rfl (by rw [C.2.1]; exact dg) (by rw [hRR.1]; exact hRR.2) (by rw [hRR.1]; show 2 * 0 + _ + _ ≤ 30 * d; omega)
    have e1 : copied (arrV (ab_ca w 11) (ab_ln w a) (fun j => .int (σ a j))) (arrV (ab_ca w 11) (ab_ln w b) (fun j => .int (σ b j))) 0 0 n = arrV (ab_ca w 11) (ab_ln w b) (fun j => .int (va_cpy (σ a) (σ b) (0 : Int32).toNatClampNeg (0 : Int32).toNatClampNeg n.toNatClampNeg j)) := va_copied (fun z => .int z) (ab_ca w 11) (ab_ca w 11) (σ a) (σ b) (by rw [ab_i0]; omega)
    have e2 : (fun j => Value.int (va_cpy (σ a) (σ b) (0 : Int32).toNatClampNeg (0 : Int32).toNatClampNeg n.toNatClampNeg j)) = fun j => .int (ab_cp σ a b n.toNatClampNeg b j) := by
      funext j
      simp [va_cpy, ab_cp, ab_i0]
    rw [e2] at e1
    rw [e1] at X' step
    have hl : ab_ad w b < H.size := (Array.getElem?_eq_some_iff.mp hc1).1
    generalize hHn : H.setIfInBounds (ab_ad w b) (arrV (ab_ca w 11) (ab_ln w b) (fun j => .int (ab_cp σ a b n.toNatClampNeg b j))) = Hn
    have hheap : ((T.setVm vm').setCell (ab_ad w b) (arrV (ab_ca w 11) (ab_ln w b) (fun j => .int (ab_cp σ a b n.toNatClampNeg b j)))).heap = Hn := by rw [← hHn, ← hT]; rfl
    have oq : ∀ q : Nat, q ≠ ab_ad w b → Hn[q]? = H[q]? := fun q hq => by rw [← hHn]; simp [Array.getElem?_setIfInBounds, Ne.symm hq]
    have hself : Hn[ab_ad w b]? = some (arrV (ab_ca w 11) (ab_ln w b) (fun j => .int (ab_cp σ a b n.toNatClampNeg b j))) := by rw [← hHn]; simp [Array.getElem?_setIfInBounds, hl]
    have hsz : Hn.size = H.size := by rw [← hHn]; simp
    have hR1 : ab_Rep w (ab_cp σ a b n.toNatClampNeg) Hn := by
      intro v
      by_cases hv : v = b
      · subst hv
        exact ⟨fun q => by omega, fun _ => by rw [hb]; exact hself, fun q => by omega, fun q => by omega, fun q => by omega⟩
      · have hr : ab_cp σ a b n.toNatClampNeg v = σ v := ab_cp_ne hv
        obtain ⟨h1, h2, h3, h4, h5⟩ := hR v
        have hne : ab_kd w v ≤ 21 → ab_ad w v ≠ ab_ad w b := fun hk q => hv (C.2.2.2.2.2.2.2.2.1 v b hk (by omega) q)
        refine ⟨fun hk => ?_, fun hk => ?_, fun hk => ?_, fun hk => ?_, fun hk => ?_⟩
        · obtain ⟨r, q1, q2⟩ := h1 hk
          refine ⟨r, q1, (q2.kept (oq _ (hne (by omega)))).to fun j _ => ?_⟩
          show ab_fv w σ v j = ab_fv w _ v j
          simp only [ab_fv, hr]
        · rw [oq _ (hne (by rcases hk with h | h | h <;> omega)), h2 hk, hr]
        · rw [oq _ (hne (by omega)), h3 hk]
        · rw [oq _ (hne (by omega)), h4 hk, hr]
        · rw [oq _ (hne (by omega)), hr]; exact h5 hk
    have hA : ab_A w s.heap.size (ab_ad w b) := Or.inl ⟨b, by omega, rfl⟩
    obtain ⟨t, a1, b1⟩ := kk _ _ _ hP Hn _ ls hR1 ⟨by rw [hsz]; exact hS.1, fun q g1 g2 => by
        rw [oq q (fun e => g2 (by rw [e]; exact hA))]
        exact hS.2.1 q g1 g2, fun q hq => by
        rcases List.mem_append.mp hq with h | h
        · exact hS.2.2 q h
        · obtain ⟨z, -, hz⟩ := List.mem_map.mp h
          rw [← hz]
          exact hA⟩ hL _ hheap X'
    exact ⟨t, step t a1, b1⟩
  · exact h.elim
/-- throw new E(text) -/
def ab_nm : List String := ["java/lang/RuntimeException", "java/lang/Exception"]
abbrev ab_TW (own : String) (ik ic : Nat) (E : String) : Prop := (vx_atS own ic E ab_nm).all (fun x => (decide (x ∈ tables_1) && goodWord x) || (decide (x ∈ tables_1) && ab_isN x)) = true ∧ (∀ x ∈ Cond.classLink own ik E :: Cond.initialized E :: vx_atS own ic E ab_nm, vx_ot x = true)
theorem ab_Rep.grow {σ : ab_H} {H H1 : Heap} (h : ab_Rep w σ H) (hq : ∀ q : Nat, q < H.size → H1[q]? = H[q]?) : ab_Rep w σ H1 := by
  intro v
  obtain ⟨h1, h2, h3, h4, h5⟩ := h v
  have lt : ∀ {q : Nat} {z : Cell}, H[q]? = some z → H1[q]? = some z := fun {q z} hz => by rw [hq q (Array.getElem?_eq_some_iff.mp hz).1]; exact hz
  refine ⟨fun hk => ?_, fun hk => lt (h2 hk), fun hk => lt (h3 hk), fun hk => lt (h4 hk), fun hk => ?_⟩
  · obtain ⟨r, q1, cell, q2, q3⟩ := h1 hk
    exact ⟨r, q1, cell, lt q2, q3⟩
  · obtain ⟨cell, q2, q3⟩ := h5 hk
    exact ⟨cell, lt q2, q3⟩
theorem ab_thW (C : ab_Cx p l R s m args meth c w nL cc own d mc) {ik ic : Nat} {E : String} (hW : ab_TW own ik ic E) : ∀ x ∈ vx_atS own ic E ab_nm, x.before args s = true := by
  intro x hx
  have h2 := List.all_eq_true.mp hW.1 x hx
  simp only [Bool.or_eq_true, Bool.and_eq_true, decide_eq_true_eq] at h2
  rcases h2 with ⟨h2, h3⟩ | ⟨h2, h3⟩
  · exact C.2.2.2.2.1 x (List.mem_filter.mpr ⟨List.mem_append_right _ h2, h3⟩)
  · exact (C.2.2.2.2.2.2.2.1.2.2.2.2.2 x (List.mem_filter.mpr ⟨h2, h3⟩)).use (ab_NwOn h3)
def ab_th (mc : Nat) (E : String) (Kx : String → ab_H → Prop) : ab_P := fun _ st σ => ab_sh st = true ∧ mc = 1 ∧ Kx E σ
theorem sd_th (C : ab_Cx p l R s m args meth c w nL cc own d mc) (hno : ∀ x ∈ c.exceptionTable.toList, False) {ik is ic : Nat} {E text : String} (hE : Bundle.fit E = true) (hW : ab_TW own ik ic E) (hk : Cond.classLink own ik E ∈ ab_T) (hini : Cond.initialized E ∈ ab_T) (hstr : (own, is, text) ∈ ab_strs) (hd : 6 ≤ d)
    (d0 : decode cc pc = .ok (.new ik, 3)) (d3 : decode cc (pc + 3) = .ok (.dup, 1)) (d4 : decode cc (pc + 4) = .ok (.ldc is, 2)) (d6 : decode cc (pc + 6) = .ok (.invokespecial ic, 3)) (d9 : decode cc (pc + 9) = .ok (.athrow, 1)) : ∀ L st σ, ab_th mc E Kx L st σ → ab_M p l e R s m args below meth c w nL (ab_Q below w s args mc Kn Kx) pc L st σ := by
  intro L st σ h H locs ls hR hS hL
  obtain ⟨hsh, hmc, hK⟩ := h
  subst hmc
  have hRR := C.2.2.2.2.2.2.2.2.2.2.1
  have hcat := ab_sh_cat (w := w) hsh
  have hZ := C.2.2.2.2.2.2.2.1
  obtain ⟨sa, hsa⟩ := hZ.2.2.2.2.1 _ hstr
  refine vx_throwS (names := ab_nm) (A := ab_A w s.heap.size) C.1 C.2.1 C.2.2.2.2.2.2.2.2.2.1 C.2.2.2.1 hE (by decide +kernel) (C.2.2.2.2.1 _ hk) (C.2.2.2.2.1 _ hini) hsa (ab_thW C hW) hW.2 hZ.2.2.1 hZ.2.2.2.1 hS (by rw [C.2.2.1, hL.1]) d0 d3 d4 d6 d9 (fun x hx => (hno x hx).elim) ?_ ?_ ?_ ?_ C.2.2.2.2.2.1 (fun t ht h1 h2 => ⟨⟨σ, hK, hR.grow h2⟩, Nat.le_trans hS.1 h1, fun q g1 g2 => by rw [h2 q (Nat.lt_of_lt_of_le g1 hS.1)]; exact hS.2.1 q g1 g2⟩) hS.2.2 (by omega) (by omega)
  · rw [hRR]; show 2 + 3 < d; omega
  · rw [hRR]; show _ + (13 * (2 + 1) + 43) ≤ 30 * d; omega
  · rw [hRR]; show 0 + 1 ≤ 1; omega
  · rw [hRR]; show 0 + 6 ≤ 6 * 1; omega
theorem sd_thW (C : ab_Cx p l R s m args meth c w nL cc own d mc) (hno : ∀ x ∈ c.exceptionTable.toList, False) {ik is ic : Nat} {E text : String} (hE : Bundle.fit E = true) (hW : ab_TW own ik ic E) (hk : Cond.classLink own ik E ∈ ab_T) (hini : Cond.initialized E ∈ ab_T) (hstr : (own, is, text) ∈ ab_strs) (hd : 6 ≤ d)
    (d0 : decode cc pc = .ok (.new ik, 3)) (d3 : decode cc (pc + 3) = .ok (.dup, 1)) (d4 : decode cc (pc + 4) = .ok (.ldc_w is, 3)) (d6 : decode cc (pc + 7) = .ok (.invokespecial ic, 3)) (d9 : decode cc (pc + 10) = .ok (.athrow, 1)) : ∀ L st σ, ab_th mc E Kx L st σ → ab_M p l e R s m args below meth c w nL (ab_Q below w s args mc Kn Kx) pc L st σ := by
  intro L st σ h H locs ls hR hS hL
  obtain ⟨hsh, hmc, hK⟩ := h
  subst hmc
  have hRR := C.2.2.2.2.2.2.2.2.2.2.1
  have hcat := ab_sh_cat (w := w) hsh
  have hZ := C.2.2.2.2.2.2.2.1
  obtain ⟨sa, hsa⟩ := hZ.2.2.2.2.1 _ hstr
  refine vx_throwSW (names := ab_nm) (A := ab_A w s.heap.size) C.1 C.2.1 C.2.2.2.2.2.2.2.2.2.1 C.2.2.2.1 hE (by decide +kernel) (C.2.2.2.2.1 _ hk) (C.2.2.2.2.1 _ hini) hsa (ab_thW C hW) hW.2 hZ.2.2.1 hZ.2.2.2.1 hS (by rw [C.2.2.1, hL.1]) d0 d3 d4 d6 d9 (fun x hx => (hno x hx).elim) ?_ ?_ ?_ ?_ C.2.2.2.2.2.1 (fun t ht h1 h2 => ⟨⟨σ, hK, hR.grow h2⟩, Nat.le_trans hS.1 h1, fun q g1 g2 => by rw [h2 q (Nat.lt_of_lt_of_le g1 hS.1)]; exact hS.2.1 q g1 g2⟩) hS.2.2 (by omega) (by omega)
  · rw [hRR]; show 2 + 3 < d; omega
  · rw [hRR]; show _ + (13 * (2 + 1) + 43) ≤ 30 * d; omega
  · rw [hRR]; show 0 + 1 ≤ 1; omega
  · rw [hRR]; show 0 + 6 ≤ 6 * 1; omega
theorem ab_tw_1 : ab_TW "SondeStations" 50 54 "java/lang/IllegalArgumentException" := ⟨by decide +kernel, by decide +kernel⟩
/-- a method's entry -/
def ab_pd : Nat → List Value → List Value
  | 0, _ => []
  | n + 1, [] => .null :: ab_pd n []
  | n + 1, a :: l => a :: ab_pd n l
theorem ab_gl_pd : ∀ (n : Nat) (l : List Value) (i : Nat), ab_gl (ab_pd n l) i ≠ .null → ab_gl (ab_pd n l) i = ab_gl l i
  | 0, _, _, h => absurd rfl h
  | n + 1, [], 0, h => absurd rfl h
  | n + 1, [], i + 1, h => by
    have := ab_gl_pd n [] i h
    show ab_gl (ab_pd n []) i = _
    rw [this]; rfl
  | n + 1, a :: l, 0, _ => rfl
  | n + 1, a :: l, i + 1, h => ab_gl_pd n l i h
theorem ab_lg_cat (v : Value) : v.category = if ab_lg v then 2 else 1 := by cases v <;> rfl
theorem ab_xl_args : ∀ (As : List Value) (k i : Nat) (v : Value), ab_gl (ab_xl As) i = v → v ≠ .null → (k + i, ab_rv w v) ∈ lv_args k (As.map (ab_rv w))
  | [], _, _, _, h, hn => absurd h.symm hn
  | a :: r, k, i, v, h, hn => by
    rw [List.map_cons, lv_args]
    have hc : (ab_rv w a).category = if ab_lg a then 2 else 1 := by rw [ab_rv_cat]; exact ab_lg_cat a
    by_cases hl : ab_lg a = true
    · rw [ab_xl, if_pos hl] at h
      rw [if_pos (by rw [hc, if_pos hl])]
      match i, h with
      | 0, h => 
        obtain rfl : a = v := h
        exact List.mem_cons_self
      | 1, h => exact absurd h.symm hn
      | i + 2, h =>
        have := ab_xl_args r (k + 2) i v h hn
        rw [show k + (i + 2) = k + 2 + i by omega]
        exact List.mem_cons_of_mem _ this
    · rw [ab_xl, if_neg hl] at h
      rw [if_neg (by rw [hc, if_neg hl]; decide)]
      match i, h with
      | 0, h =>
        obtain rfl : a = v := h
        exact List.mem_cons_self
      | i + 1, h =>
        have := ab_xl_args r (k + 1) i v h hn
        rw [show k + (i + 1) = k + 1 + i by omega]
        exact List.mem_cons_of_mem _ this
theorem ab_sl_len : ∀ (As : List Value), (lg_sl (As.map (ab_rv w))).length = (ab_xl As).length
  | [] => rfl
  | a :: r => by
    have ih := ab_sl_len r
    have hc : (ab_rv w a).category = if ab_lg a then 2 else 1 := by rw [ab_rv_cat]; exact ab_lg_cat a
    simp only [lg_sl] at ih
    rw [List.map_cons, lg_sl, List.flatMap_cons, List.length_append, ih, ab_xl]
    by_cases hl : ab_lg a = true
    · rw [if_pos (by rw [hc, if_pos hl]), if_pos hl]; simp; omega
    · rw [if_neg (by rw [hc, if_neg hl]; decide), if_neg hl]; simp; omega
theorem ab_enter {y : MethodName} {bytes : ByteArray} {maxL : Nat} {ret : Option FieldType} {σ : ab_H} {As : List Value} (hy : plainName y.cls = true) (hl : l.stackTraces = false) (hI : ab_Inj w) (hlen : (ab_xl As).length ≤ maxL) (hd : 1 ≤ d)
    (h : ∀ (p : Program) (e : Env) (R : Room) (s : State) (m : MethodId) (args : Array Value) (below : List Frame) (meth : Method) (c : Code), ab_Cx p l R s m args meth c w maxL bytes y.cls d mc → (∀ x ∈ c.exceptionTable.toList, False) → meth.sig.returnType = ret →
      ab_M p l e R s m args below meth c w maxL (ab_Q below w s args mc Kn Kx) 0 (ab_pd maxL (ab_xl As)) [] σ) : ab_Met l y (Cond.code y bytes maxL ret) d mc w σ As Kn Kx := by
  intro sz
  refine vx_ofW (cc := bytes) (maxL := maxL) (ret := ret) hy rfl ?_
  intro p e s m args below meth c s₁ B hml hno hv
  obtain ⟨rfl, hsz, hR, hK, hZ⟩ := hv
  have hts := atoms_spec (ws := Cond.code y bytes maxL ret :: ab_T) B.pre
  subst hsz
  have hC : ab_Cx p l (headSpec (Cond.code y bytes maxL ret :: ab_T) (ab_rm d mc)).room s m (As.map (ab_rv w)).toArray meth c w maxL bytes y.cls d mc := ⟨B.exec, B.bytes, hml, findClass_of_methodNamed B.named, fun x hx => hts x (List.mem_cons_of_mem _ hx), B.notSynchronized, hK, hZ, hI, hl, rfl, hd⟩
  have hle : (lg_sl (As.map (ab_rv w))).length ≤ maxL := by rw [ab_sl_len]; exact hlen
  have hlv := lv_entry (As.map (ab_rv w)) hle
  rw [lg_entry_eq]
  refine h p e _ s m _ below meth c hC hno B.returns s.heap [] _ hR va_S.rf ⟨hlv.1, hlv.2.1, fun i v hv hn => ?_⟩
  have h1 : ab_gl (ab_xl As) i = v := by rw [← ab_gl_pd maxL (ab_xl As) i (by rw [hv]; exact hn)]; exact hv
  have h2 := ab_xl_args (w := w) As 0 i v h1 hn
  rw [Nat.zero_add] at h2
  exact hlv.2.2 _ h2
end ABS4
