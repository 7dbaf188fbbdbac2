/-! methods of the JDK that no row of the natives names -/
theorem ab_ofWF {l : Launch} {y : MethodName} {ws ws' : List Cond} {rm : Room} {Pc : Array Value → State → Prop} {Qc : Array Value → State → Outcome → State → Prop} {XC : String → State → State → Prop} {mc ms : Nat} {free : Addr → Prop} {cc : ByteArray} {maxL : Nat} {ret : Option FieldType}
    (hy : plainFor y = true) (hw : ws = Cond.code y cc maxL ret :: ws')
    (body : ∀ p e s m args below meth c s₁, BodyLoose p l y (headSpec ws rm) cc maxL ret e s m args below meth c s₁ → c.maxLocals = maxL → (∀ x ∈ c.exceptionTable.toList, False) → Pc args s →
      W p l e (headSpec ws rm).room s m args below meth c s.heap [] 0 0 (vx_MQ below Qc XC args s mc ms free) (entryFrame m args maxL)) : vx_Met l y ws rm Pc Qc XC mc ms free := by
  refine MetFree.of_bodySF (code := cc) (maxLocals := maxL) (ret := ret) hy ?_ ?_
  · intro args s m h hn
    obtain ⟨meth, c, h1, h2, h3, h4, h5, h6, -, -⟩ := Cond.code_spec hn (atoms_spec (ws := ws) h _ (by rw [hw]; exact List.mem_cons_self))
    exact ⟨meth, c, h1, h2, h3, h4, h5, h6⟩
  · intro p e s m args below meth c s₁ B hml hP _
    have hh0 : s₁.heap = s.heap := by rw [B.state]; rfl
    have ht : ∀ x ∈ c.exceptionTable.toList, False := by
      obtain ⟨meth9, c9, h1, h2, -, -, -, -, h7, -⟩ := Cond.code_spec B.named (atoms_spec (ws := ws) B.pre _ (by rw [hw]; exact List.mem_cons_self))
      cases Option.some.inj (h1.symm.trans B.method)
      cases Option.some.inj (h2.symm.trans (Stand.of_body B).code)
      intro x hx
      rw [Array.isEmpty_iff.mp h7] at hx
      cases hx
    obtain ⟨t, a1, o, b1, b2, b3⟩ := body p e s m args below meth c s₁ B hml ht hP s₁ hh0 (Stand.of_body B)
    exact ⟨t, o, a1, b1, b2, b3⟩
section ABS5
variable {p : Program} {l : Launch} {e : Env} {R : Room} {s : State} {m : MethodId} {args : Array Value} {below : List Frame} {meth : Method} {c : Code} {w : ab_W} {nL : Nat} {cc : ByteArray} {own : String} {Q : State → Prop} {pc d mc : Nat} {P P2 : ab_P} {Kn : Option Value → ab_H → Prop} {Kx : String → ab_H → Prop}
theorem ab_enterF {y : MethodName} {bytes : ByteArray} {maxL : Nat} {ret : Option FieldType} {σ : ab_H} {As : List Value} (hy : plainFor y = true) (hl : l.stackTraces = false) (hI : ab_Inj w) (hlen : (ab_xl As).length ≤ maxL) (hd : 1 ≤ d)
    (h : ∀ (p : Program) (e : Env) (R : Room) (s : State) (m : MethodId) (args : Array Value) (below : List Frame) (meth : Method) (c : Code), ab_Cx p l R s m args meth c w maxL bytes y.cls d mc → (∀ x ∈ c.exceptionTable.toList, False) → meth.sig.returnType = ret →
      ab_M p l e R s m args below meth c w maxL (ab_Q below w s args mc Kn Kx) 0 (ab_pd maxL (ab_xl As)) [] σ) : ab_Met l y (Cond.code y bytes maxL ret) d mc w σ As Kn Kx := by
  intro sz
  refine ab_ofWF (cc := bytes) (maxL := maxL) (ret := ret) hy rfl ?_
  intro p e s m args below meth c s₁ B hml hno hv
  obtain ⟨rfl, hsz, hR, hK, hZ⟩ := hv
  have hts := atoms_spec (ws := Cond.code y bytes maxL ret :: ab_T) B.pre
  subst hsz
  have hC : ab_Cx p l (headSpec (Cond.code y bytes maxL ret :: ab_T) (ab_rm d mc)).room s m (As.map (ab_rv w)).toArray meth c w maxL bytes y.cls d mc := ⟨B.exec, B.bytes, hml, findClass_of_methodNamed B.named, fun x hx => hts x (List.mem_cons_of_mem _ hx), B.notSynchronized, hK, hZ, hI, hl, rfl, hd⟩
  have hle : (lg_sl (As.map (ab_rv w))).length ≤ maxL := by rw [ab_sl_len]; exact hlen
  have hlv := lv_entry (As.map (ab_rv w)) hle
  rw [lg_entry_eq]
  refine h p e _ s m _ below meth c hC hno B.returns s.heap [] _ hR va_S.rf ⟨hlv.1, hlv.2.1, fun i v hv hn => ?_⟩
  have h1 : ab_gl (ab_xl As) i = v := by rw [← ab_gl_pd maxL (ab_xl As) i (by rw [hv]; exact hn)]; exact hv
  have h2 := ab_xl_args (w := w) As 0 i v h1 hn
  rw [Nat.zero_add] at h2
  exact hlv.2.2 _ h2
end ABS5
theorem dJ9_floorMod_7cf53_0 : decode cJ9_floorMod_7cf53 0 = .ok (.iload_n 0, 1) := by decide +kernel
theorem dJ9_floorMod_7cf53_1 : decode cJ9_floorMod_7cf53 1 = .ok (.iload_n 1, 1) := by decide +kernel
theorem dJ9_floorMod_7cf53_2 : decode cJ9_floorMod_7cf53 2 = .ok (.irem, 1) := by decide +kernel
theorem dJ9_floorMod_7cf53_3 : decode cJ9_floorMod_7cf53 3 = .ok (.istore_n 2, 1) := by decide +kernel
theorem dJ9_floorMod_7cf53_4 : decode cJ9_floorMod_7cf53 4 = .ok (.iload_n 0, 1) := by decide +kernel
theorem dJ9_floorMod_7cf53_5 : decode cJ9_floorMod_7cf53 5 = .ok (.iload_n 1, 1) := by decide +kernel
theorem dJ9_floorMod_7cf53_6 : decode cJ9_floorMod_7cf53 6 = .ok (.ixor, 1) := by decide +kernel
theorem dJ9_floorMod_7cf53_7 : decode cJ9_floorMod_7cf53 7 = .ok (.ifCond .ge 11, 3) := by decide +kernel
theorem dJ9_floorMod_7cf53_10 : decode cJ9_floorMod_7cf53 10 = .ok (.iload_n 2, 1) := by decide +kernel
theorem dJ9_floorMod_7cf53_11 : decode cJ9_floorMod_7cf53 11 = .ok (.ifCond .eq 7, 3) := by decide +kernel
theorem dJ9_floorMod_7cf53_14 : decode cJ9_floorMod_7cf53 14 = .ok (.iload_n 2, 1) := by decide +kernel
theorem dJ9_floorMod_7cf53_15 : decode cJ9_floorMod_7cf53 15 = .ok (.iload_n 1, 1) := by decide +kernel
theorem dJ9_floorMod_7cf53_16 : decode cJ9_floorMod_7cf53 16 = .ok (.iadd, 1) := by decide +kernel
theorem dJ9_floorMod_7cf53_17 : decode cJ9_floorMod_7cf53 17 = .ok (.ireturn, 1) := by decide +kernel
theorem dJ9_floorMod_7cf53_18 : decode cJ9_floorMod_7cf53 18 = .ok (.iload_n 2, 1) := by decide +kernel
theorem dJ9_floorMod_7cf53_19 : decode cJ9_floorMod_7cf53 19 = .ok (.ireturn, 1) := by decide +kernel
def bJ9_floorMod_7cf53_0 (w : ab_W) (M : Nat → ab_P) (Kn : Option Value → ab_H → Prop) : ab_P := ab_ild 0 (ab_ild 1 (ab_d2 (fun x y => x - x / y * y) (ab_ist 2 (ab_ild 0 (ab_ild 1 (ab_b2 (fun x y => x ^^^ y) (ab_if1 (fun x => 0 ≤ x) (M 18) (ab_ild 2 (ab_if1 (fun x => x = 0) (M 18) (ab_ild 2 (ab_ild 1 (ab_b2 (fun x y => x + y) (ab_ir Kn)))))))))))))
def bJ9_floorMod_7cf53_18 (w : ab_W) (M : Nat → ab_P) (Kn : Option Value → ab_H → Prop) : ab_P := ab_ild 2 (ab_ir Kn)
set_option maxRecDepth 20000 in
set_option maxHeartbeats 2000000 in
theorem vc_J9_floorMod_7cf53 {l : Launch} (hl : l.stackTraces = false) {w : ab_W} (hI : ab_Inj w) {mc : Nat} {σ : ab_H} {As : List Value} {Kn : Option Value → ab_H → Prop} {Kx : String → ab_H → Prop} (hlen : (ab_xl As).length ≤ 3) (h : ∀ M : Nat → ab_P, (∀ L st σ, bJ9_floorMod_7cf53_0 w M Kn L st σ → M 0 L st σ) → (∀ L st σ, bJ9_floorMod_7cf53_18 w M Kn L st σ → M 18 L st σ) → M 0 (ab_pd 3 (ab_xl As)) [] σ) : ab_Met l yJ9_floorMod_7cf53 (Cond.code yJ9_floorMod_7cf53 cJ9_floorMod_7cf53 3 (some .int)) 1 mc w σ As Kn Kx := by
  refine ab_enterF (by decide +kernel) hl hI hlen (by decide) ?_
  intro p e R s m args below meth c C hno hr
  exact h _ (sd_iload_n C (i := 0) dJ9_floorMod_7cf53_0 rfl (sd_iload_n C (i := 1) dJ9_floorMod_7cf53_1 rfl (sd_irem C dJ9_floorMod_7cf53_2 (sd_istore_n C (i := 2) dJ9_floorMod_7cf53_3 rfl (by decide) (sd_iload_n C (i := 0) dJ9_floorMod_7cf53_4 rfl (sd_iload_n C (i := 1) dJ9_floorMod_7cf53_5 rfl (sd_ixor C dJ9_floorMod_7cf53_6 (sd_if_ge C dJ9_floorMod_7cf53_7 (tgt := 18) (by decide) (fun _ _ _ h => h) (sd_iload_n C (i := 2) dJ9_floorMod_7cf53_10 rfl (sd_if_eq C dJ9_floorMod_7cf53_11 (tgt := 18) (by decide) (fun _ _ _ h => h) (sd_iload_n C (i := 2) dJ9_floorMod_7cf53_14 rfl (sd_iload_n C (i := 1) dJ9_floorMod_7cf53_15 rfl (sd_iadd C dJ9_floorMod_7cf53_16 (sd_ir C hr dJ9_floorMod_7cf53_17))))))))))))))
    (sd_iload_n C (i := 2) dJ9_floorMod_7cf53_18 rfl (sd_ir C hr dJ9_floorMod_7cf53_19))
