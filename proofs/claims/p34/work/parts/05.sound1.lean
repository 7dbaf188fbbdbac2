section ABS
variable {p : Program} {l : Launch} {e : Env} {R : Room} {s : State} {m : MethodId} {args : Array Value} {below : List Frame} {meth : Method} {c : Code} {w : ab_W} {nL : Nat} {cc : ByteArray} {own : String} {Q : State → Prop} {pc : Nat} {P P2 : ab_P}
/-- what a walk knows of its method and of the world throughout -/
def ab_Cx (p : Program) (l : Launch) (R : Room) (s : State) (m : MethodId) (args : Array Value) (meth : Method) (c : Code) (w : ab_W) (nL : Nat) (cc : ByteArray) (own : String) (d mc : Nat) : Prop :=
  p.tables.exec = Jvm.exec ∧ c.code = cc ∧ c.maxLocals = nL ∧ s.vm.findClass own = some m.cls ∧ (∀ x ∈ ab_T, x.before args s = true) ∧ meth.locks = false ∧ ab_Kw w s ∧ ab_Zs w s.heap.size s s.heap ∧ ab_Inj w ∧ l.stackTraces = false ∧ R = ab_rm d mc ∧ 1 ≤ d
def ab_M (p : Program) (l : Launch) (e : Env) (R : Room) (s : State) (m : MethodId) (args : Array Value) (below : List Frame) (meth : Method) (c : Code) (w : ab_W) (nL : Nat) (Q : State → Prop) (pc : Nat) : ab_P := fun L st σ =>
  ∀ (H : Heap) (locs : List Loc) (ls : Array Slot), ab_Rep w σ H → va_S (ab_A w s.heap.size) s.heap H locs → ab_Lk w ls nL L → W p l e R s m args below meth c H locs 0 0 Q (F0 m pc ls (st.map (ab_rv w)))
theorem ab_Lk.int {ls : Array Slot} {L : List Value} {i : Nat} {x : Int32} (h : ab_Lk w ls nL L) (hg : ab_gl L i = .int x) : ls[i]? = some (.val (.int x)) := h.2.2 i _ hg (fun q => by cases q)
theorem ab_Lk.long {ls : Array Slot} {L : List Value} {i : Nat} {x : Int64} (h : ab_Lk w ls nL L) (hg : ab_gl L i = .long x) : ls[i]? = some (.val (.long x)) := h.2.2 i _ hg (fun q => by cases q)
theorem ab_Lk.ref {ls : Array Slot} {L : List Value} {i : Nat} {x : Nat} (h : ab_Lk w ls nL L) (hg : ab_gl L i = .ref x) : ls[i]? = some (.val (.ref (ab_ad w x))) := h.2.2 i _ hg (fun q => by cases q)
def ab_ll (w : ab_W) (nL : Nat) (L : List Value) : List (Nat × Value) := (List.range nL).filterMap (fun j => if ab_gl L j = .null then none else some (j, ab_rv w (ab_gl L j)))
theorem ab_ll_in {L : List Value} {j : Nat} (hj : j < nL) (h : ab_gl L j ≠ .null) : (j, ab_rv w (ab_gl L j)) ∈ ab_ll w nL L := List.mem_filterMap.mpr ⟨j, List.mem_range.mpr hj, by rw [if_neg h]⟩
theorem ab_Lk.has {ls : Array Slot} {L : List Value} (h : ab_Lk w ls nL L) : lv_has ls nL (ab_ll w nL L) := by
  refine ⟨h.1, h.2.1, fun q hq => ?_⟩
  obtain ⟨j, -, hj⟩ := List.mem_filterMap.mp hq
  by_cases h0 : ab_gl L j = .null
  · rw [if_pos h0] at hj; cases hj
  · rw [if_neg h0] at hj; cases hj; exact h.2.2 j _ rfl h0
theorem ab_gl_sl_ne : ∀ (L : List Value) (i j : Nat) (v : Value), j ≠ i → ab_gl (ab_sl L i v) j = ab_gl L j
  | [], _, _, _, _ => rfl
  | _ :: _, 0, 0, _, h => absurd rfl h
  | _ :: _, 0, _ + 1, _, _ => rfl
  | _ :: _, _ + 1, 0, _, _ => rfl
  | _ :: l, i + 1, j + 1, v, h => ab_gl_sl_ne l i j v (fun q => h (by rw [q]))
theorem ab_gl_sl : ∀ (L : List Value) (i : Nat) (v : Value), ab_gl (ab_sl L i v) i = v ∨ ab_gl (ab_sl L i v) i = .null
  | [], _, _ => Or.inr rfl
  | _ :: _, 0, _ => Or.inl rfl
  | _ :: l, i + 1, v => ab_gl_sl l i v
theorem ab_cat2 {w : ab_W} {v : Value} (h : (ab_rv w v).category = 2) : ab_lg v = true := by cases v <;> first | rfl | (exact absurd (show (1 : Nat) = 2 from h) (by decide))
theorem ab_k1_at {L : List Value} {i j : Nat} (hk : ab_k1 L i = true) (hj : j + 1 = i) : ab_lg (ab_gl L j) = false := by
  subst hj
  simpa [ab_k1] using hk
theorem ab_Lk.st1 {ls ls' : Array Slot} {L : List Value} {i : Nat} {v : Value} (h : ab_Lk w ls nL L) (hk : ab_k1 L i = true) (hv : lv_has ls' nL ((i, ab_rv w v) :: (ab_ll w nL L).filter (fun q => !(q.1 == i) && !(q.1 + 1 == i && q.2.category == 2)))) : ab_Lk w ls' nL (ab_sl L i v) := by
  refine ⟨hv.1, hv.2.1, fun j u hu hn => ?_⟩
  by_cases hj : j = i
  · subst hj
    rcases ab_gl_sl L j v with q | q
    · rw [q] at hu; subst hu; exact hv.2.2 (j, _) List.mem_cons_self
    · rw [q] at hu; exact absurd hu.symm hn
  · rw [ab_gl_sl_ne _ _ _ _ hj] at hu
    have hlt : j < nL := by rw [← h.1]; exact lv_lt (h.2.2 j u hu hn)
    subst hu
    refine hv.2.2 (j, _) (List.mem_cons_of_mem _ (List.mem_filter.mpr ⟨ab_ll_in hlt hn, ?_⟩))
    have e1 : (j == i) = false := by simpa using hj
    by_cases h2 : j + 1 = i
    · have := ab_k1_at hk h2
      have h3 : ((ab_rv w (ab_gl L j)).category == 2) = false := by
        rw [beq_eq_false_iff_ne]; exact fun q => by rw [ab_cat2 q] at this; cases this
      show (!(j == i) && !(j + 1 == i && (ab_rv w (ab_gl L j)).category == 2)) = true
      rw [e1, h3]; simp
    · simp [e1, h2]
theorem ab_Lk.st2 {ls ls' : Array Slot} {L : List Value} {i : Nat} {v : Value} (h : ab_Lk w ls nL L) (hk : ab_k1 L i = true) (hv : lv_has ls' nL ((i, ab_rv w v) :: (ab_ll w nL L).filter (fun q => !(q.1 == i) && (!(q.1 == i + 1) && !(q.1 + 1 == i && q.2.category == 2))))) : ab_Lk w ls' nL (ab_sl (ab_sl L (i + 1) .null) i v) := by
  refine ⟨hv.1, hv.2.1, fun j u hu hn => ?_⟩
  by_cases hj : j = i
  · subst hj
    rcases ab_gl_sl (ab_sl L (j + 1) .null) j v with q | q
    · rw [q] at hu; subst hu; exact hv.2.2 (j, _) List.mem_cons_self
    · rw [q] at hu; exact absurd hu.symm hn
  · rw [ab_gl_sl_ne _ _ _ _ hj] at hu
    by_cases hj1 : j = i + 1
    · subst hj1
      rcases ab_gl_sl L (i + 1) .null with q | q <;> (rw [q] at hu; exact absurd hu.symm hn)
    · rw [ab_gl_sl_ne _ _ _ _ hj1] at hu
      have hlt : j < nL := by rw [← h.1]; exact lv_lt (h.2.2 j u hu hn)
      subst hu
      refine hv.2.2 (j, _) (List.mem_cons_of_mem _ (List.mem_filter.mpr ⟨ab_ll_in hlt hn, ?_⟩))
      have e1 : (j == i) = false := by simpa using hj
      have e2 : (j == i + 1) = false := by simpa using hj1
      by_cases h2 : j + 1 = i
      · have := ab_k1_at hk h2
        have h3 : ((ab_rv w (ab_gl L j)).category == 2) = false := by
          rw [beq_eq_false_iff_ne]; exact fun q => by rw [ab_cat2 q] at this; cases this
        show (!(j == i) && (!(j == i + 1) && !(j + 1 == i && (ab_rv w (ab_gl L j)).category == 2))) = true
        rw [e1, e2, h3]; simp
      · simp [e1, e2, h2]
theorem ab_sh_cat {w : ab_W} {r : List Value} (h : ab_sh r = true) : ((r.map (ab_rv w)).map fun v => v.category).sum ≤ 8 := by
  have hc : ∀ v : Value, (ab_rv w v).category ≤ 2 := fun v => by cases v <;> simp [ab_rv, Value.category]
  match r, h with
  | [], _ => simp
  | [a], _ => have := hc a; simp; omega
  | [a, b], _ => have := hc a; have := hc b; simp; omega
  | [a, b, c], _ => have := hc a; have := hc b; have := hc c; simp; omega
  | [a, b, c, d], _ => have := hc a; have := hc b; have := hc c; have := hc d; simp; omega
/-- a write of one int -/
theorem ab_Rep.put {σ : ab_H} {H H1 : Heap} {a k : Nat} {x : Int32} (h : ab_Rep w σ H) (hI : ab_Inj w) (ha : ab_kd w a ≤ 21) (hself : ab_ok w (ab_up σ a k x) a H1) (oq : ∀ q, q ≠ ab_ad w a → H1[q]? = H[q]?) : ab_Rep w (ab_up σ a k x) H1 := by
  intro v
  by_cases hv : v = a
  · subst hv; exact hself
  · have hr : ab_up σ a k x v = σ v := ab_up_ne hv
    obtain ⟨h1, h2, h3, h4, h5⟩ := h v
    have hne : ab_kd w v ≤ 21 → ab_ad w v ≠ ab_ad w a := fun hk q => hv (hI v a hk ha q)
    refine ⟨fun hk => ?_, fun hk => ?_, fun hk => ?_, fun hk => ?_, fun hk => ?_⟩
    · obtain ⟨r, q1, q2⟩ := h1 hk
      refine ⟨r, q1, (q2.kept (oq _ (hne (by omega)))).to fun j _ => ?_⟩
      show ab_fv w σ v j = ab_fv w _ v j
      simp only [ab_fv, hr]
    · rw [oq _ (hne (by rcases hk with h | h | h <;> omega)), h2 hk, hr]
    · rw [oq _ (hne (by omega)), h3 hk]
    · rw [oq _ (hne (by omega)), h4 hk, hr]
    · rw [oq _ (hne (by omega)), hr]; exact h5 hk
theorem ab_Rep.arr {σ : ab_H} {H : Heap} {a : Nat} (h : ab_Rep w σ H) {k : Nat} (ha : ab_kd w a = k) (hk : ab_ai k) : H[ab_ad w a]? = some (arrV (ab_ca w k) (ab_ln w a) (fun j => .int (σ a j))) := by
  subst ha
  exact (h a).2.1 hk
theorem ab_arr_st {cA : ClassId} {n k : Nat} {σ : ab_H} {a : Nat} {x : Int32} : (arrV cA n (fun j => Value.int (σ a j))).setSlot k (.int x) = arrV cA n (fun j => .int (ab_up σ a k x a j)) := by
  rw [arrV_store]
  congr 1
  funext j
  rw [ab_up_row]
  by_cases hj : j = k <;> simp [updV, upd, hj]
theorem ab_kept {H H1 : Heap} {locs : List Loc} (hS : va_S (ab_A w s.heap.size) s.heap H locs) : ∀ a : Nat, a < s.heap.size → ¬ ab_A w s.heap.size a → H[a]? = s.heap[a]? := fun a h1 h2 => hS.2.1 a h1 h2

theorem sd_iadd {d mc : Nat} (C : ab_Cx p l R s m args meth c w nL cc own d mc) (dg : decode cc pc = .ok (.iadd, 1)) (kk : ∀ L st σ, P L st σ → ab_M p l e R s m args below meth c w nL Q (pc + 1) L st σ) : ∀ L st σ, ab_b2 (fun x y => x + y) P L st σ → ab_M p l e R s m args below meth c w nL Q pc L st σ := by
  intro L st σ h H locs ls hR hS hL
  unfold ab_b2 at h
  split at h
  · exact lv_iadd C.1 C.2.1 dg (kk _ _ _ h H locs ls hR hS hL)
  · exact h.elim
theorem sd_isub {d mc : Nat} (C : ab_Cx p l R s m args meth c w nL cc own d mc) (dg : decode cc pc = .ok (.isub, 1)) (kk : ∀ L st σ, P L st σ → ab_M p l e R s m args below meth c w nL Q (pc + 1) L st σ) : ∀ L st σ, ab_b2 (fun x y => x - y) P L st σ → ab_M p l e R s m args below meth c w nL Q pc L st σ := by
  intro L st σ h H locs ls hR hS hL
  unfold ab_b2 at h
  split at h
  · exact lv_isub C.1 C.2.1 dg (kk _ _ _ h H locs ls hR hS hL)
  · exact h.elim
theorem sd_imul {d mc : Nat} (C : ab_Cx p l R s m args meth c w nL cc own d mc) (dg : decode cc pc = .ok (.imul, 1)) (kk : ∀ L st σ, P L st σ → ab_M p l e R s m args below meth c w nL Q (pc + 1) L st σ) : ∀ L st σ, ab_b2 (fun x y => x * y) P L st σ → ab_M p l e R s m args below meth c w nL Q pc L st σ := by
  intro L st σ h H locs ls hR hS hL
  unfold ab_b2 at h
  split at h
  · exact lv_imul C.1 C.2.1 dg (kk _ _ _ h H locs ls hR hS hL)
  · exact h.elim
theorem sd_iand {d mc : Nat} (C : ab_Cx p l R s m args meth c w nL cc own d mc) (dg : decode cc pc = .ok (.iand, 1)) (kk : ∀ L st σ, P L st σ → ab_M p l e R s m args below meth c w nL Q (pc + 1) L st σ) : ∀ L st σ, ab_b2 (fun x y => x &&& y) P L st σ → ab_M p l e R s m args below meth c w nL Q pc L st σ := by
  intro L st σ h H locs ls hR hS hL
  unfold ab_b2 at h
  split at h
  · exact lv_iand C.1 C.2.1 dg (kk _ _ _ h H locs ls hR hS hL)
  · exact h.elim
theorem sd_ixor {d mc : Nat} (C : ab_Cx p l R s m args meth c w nL cc own d mc) (dg : decode cc pc = .ok (.ixor, 1)) (kk : ∀ L st σ, P L st σ → ab_M p l e R s m args below meth c w nL Q (pc + 1) L st σ) : ∀ L st σ, ab_b2 (fun x y => x ^^^ y) P L st σ → ab_M p l e R s m args below meth c w nL Q pc L st σ := by
  intro L st σ h H locs ls hR hS hL
  unfold ab_b2 at h
  split at h
  · exact lv_ixor C.1 C.2.1 dg (kk _ _ _ h H locs ls hR hS hL)
  · exact h.elim
theorem sd_ishr {d mc : Nat} (C : ab_Cx p l R s m args meth c w nL cc own d mc) (dg : decode cc pc = .ok (.ishr, 1)) (kk : ∀ L st σ, P L st σ → ab_M p l e R s m args below meth c w nL Q (pc + 1) L st σ) : ∀ L st σ, ab_b2 (fun x y => x >>> (y &&& 31)) P L st σ → ab_M p l e R s m args below meth c w nL Q pc L st σ := by
  intro L st σ h H locs ls hR hS hL
  unfold ab_b2 at h
  split at h
  · exact lv_ishr C.1 C.2.1 dg (kk _ _ _ h H locs ls hR hS hL)
  · exact h.elim
theorem sd_idiv {d mc : Nat} (C : ab_Cx p l R s m args meth c w nL cc own d mc) (dg : decode cc pc = .ok (.idiv, 1)) (kk : ∀ L st σ, P L st σ → ab_M p l e R s m args below meth c w nL Q (pc + 1) L st σ) : ∀ L st σ, ab_d2 (fun x y => x / y) P L st σ → ab_M p l e R s m args below meth c w nL Q pc L st σ := by
  intro L st σ h H locs ls hR hS hL
  unfold ab_d2 at h
  split at h
  · exact lv_idiv C.1 C.2.1 dg h.1 (kk _ _ _ h.2 H locs ls hR hS hL)
  · exact h.elim
theorem sd_irem {d mc : Nat} (C : ab_Cx p l R s m args meth c w nL cc own d mc) (dg : decode cc pc = .ok (.irem, 1)) (kk : ∀ L st σ, P L st σ → ab_M p l e R s m args below meth c w nL Q (pc + 1) L st σ) : ∀ L st σ, ab_d2 (fun x y => x - x / y * y) P L st σ → ab_M p l e R s m args below meth c w nL Q pc L st σ := by
  intro L st σ h H locs ls hR hS hL
  unfold ab_d2 at h
  split at h
  · exact lv_irem C.1 C.2.1 dg h.1 (kk _ _ _ h.2 H locs ls hR hS hL)
  · exact h.elim
theorem sd_ldiv {d mc : Nat} (C : ab_Cx p l R s m args meth c w nL cc own d mc) (dg : decode cc pc = .ok (.ldiv, 1)) (kk : ∀ L st σ, P L st σ → ab_M p l e R s m args below meth c w nL Q (pc + 1) L st σ) : ∀ L st σ, ab_ld2 (fun x y => x / y) P L st σ → ab_M p l e R s m args below meth c w nL Q pc L st σ := by
  intro L st σ h H locs ls hR hS hL
  unfold ab_ld2 at h
  split at h
  · exact lv_ldiv C.1 C.2.1 dg h.1 (kk _ _ _ h.2 H locs ls hR hS hL)
  · exact h.elim
theorem sd_lrem {d mc : Nat} (C : ab_Cx p l R s m args meth c w nL cc own d mc) (dg : decode cc pc = .ok (.lrem, 1)) (kk : ∀ L st σ, P L st σ → ab_M p l e R s m args below meth c w nL Q (pc + 1) L st σ) : ∀ L st σ, ab_ld2 (fun x y => x - x / y * y) P L st σ → ab_M p l e R s m args below meth c w nL Q pc L st σ := by
  intro L st σ h H locs ls hR hS hL
  unfold ab_ld2 at h
  split at h
  · exact lv_lrem C.1 C.2.1 dg h.1 (kk _ _ _ h.2 H locs ls hR hS hL)
  · exact h.elim
theorem sd_ladd {d mc : Nat} (C : ab_Cx p l R s m args meth c w nL cc own d mc) (dg : decode cc pc = .ok (.ladd, 1)) (kk : ∀ L st σ, P L st σ → ab_M p l e R s m args below meth c w nL Q (pc + 1) L st σ) : ∀ L st σ, ab_l2 (fun x y => x + y) P L st σ → ab_M p l e R s m args below meth c w nL Q pc L st σ := by
  intro L st σ h H locs ls hR hS hL
  unfold ab_l2 at h
  split at h
  · exact lv_ladd C.1 C.2.1 dg (kk _ _ _ h H locs ls hR hS hL)
  · exact h.elim
theorem sd_lsub {d mc : Nat} (C : ab_Cx p l R s m args meth c w nL cc own d mc) (dg : decode cc pc = .ok (.lsub, 1)) (kk : ∀ L st σ, P L st σ → ab_M p l e R s m args below meth c w nL Q (pc + 1) L st σ) : ∀ L st σ, ab_l2 (fun x y => x - y) P L st σ → ab_M p l e R s m args below meth c w nL Q pc L st σ := by
  intro L st σ h H locs ls hR hS hL
  unfold ab_l2 at h
  split at h
  · exact lv_lsub C.1 C.2.1 dg (kk _ _ _ h H locs ls hR hS hL)
  · exact h.elim
theorem sd_lmul {d mc : Nat} (C : ab_Cx p l R s m args meth c w nL cc own d mc) (dg : decode cc pc = .ok (.lmul, 1)) (kk : ∀ L st σ, P L st σ → ab_M p l e R s m args below meth c w nL Q (pc + 1) L st σ) : ∀ L st σ, ab_l2 (fun x y => x * y) P L st σ → ab_M p l e R s m args below meth c w nL Q pc L st σ := by
  intro L st σ h H locs ls hR hS hL
  unfold ab_l2 at h
  split at h
  · exact lv_lmul C.1 C.2.1 dg (kk _ _ _ h H locs ls hR hS hL)
  · exact h.elim
theorem sd_land {d mc : Nat} (C : ab_Cx p l R s m args meth c w nL cc own d mc) (dg : decode cc pc = .ok (.land, 1)) (kk : ∀ L st σ, P L st σ → ab_M p l e R s m args below meth c w nL Q (pc + 1) L st σ) : ∀ L st σ, ab_l2 (fun x y => x &&& y) P L st σ → ab_M p l e R s m args below meth c w nL Q pc L st σ := by
  intro L st σ h H locs ls hR hS hL
  unfold ab_l2 at h
  split at h
  · exact lv_land C.1 C.2.1 dg (kk _ _ _ h H locs ls hR hS hL)
  · exact h.elim
theorem sd_lor {d mc : Nat} (C : ab_Cx p l R s m args meth c w nL cc own d mc) (dg : decode cc pc = .ok (.lor, 1)) (kk : ∀ L st σ, P L st σ → ab_M p l e R s m args below meth c w nL Q (pc + 1) L st σ) : ∀ L st σ, ab_l2 (fun x y => x ||| y) P L st σ → ab_M p l e R s m args below meth c w nL Q pc L st σ := by
  intro L st σ h H locs ls hR hS hL
  unfold ab_l2 at h
  split at h
  · exact lv_lor C.1 C.2.1 dg (kk _ _ _ h H locs ls hR hS hL)
  · exact h.elim
theorem sd_lushr {d mc : Nat} (C : ab_Cx p l R s m args meth c w nL cc own d mc) (dg : decode cc pc = .ok (.lushr, 1)) (kk : ∀ L st σ, P L st σ → ab_M p l e R s m args below meth c w nL Q (pc + 1) L st σ) : ∀ L st σ, ab_lsh (fun x y => (x.toUInt64 >>> (y.toInt64.toUInt64 &&& Int64.toUInt64 63)).toInt64) P L st σ → ab_M p l e R s m args below meth c w nL Q pc L st σ := by
  intro L st σ h H locs ls hR hS hL
  unfold ab_lsh at h
  split at h
  · exact lv_lushr C.1 C.2.1 dg rfl (kk _ _ _ h H locs ls hR hS hL)
  · exact h.elim
theorem sd_lcmp {d mc : Nat} (C : ab_Cx p l R s m args meth c w nL cc own d mc) (dg : decode cc pc = .ok (.lcmp, 1)) (kk : ∀ L st σ, P L st σ → ab_M p l e R s m args below meth c w nL Q (pc + 1) L st σ) : ∀ L st σ, ab_lcmp P L st σ → ab_M p l e R s m args below meth c w nL Q pc L st σ := by
  intro L st σ h H locs ls hR hS hL
  unfold ab_lcmp at h
  split at h
  · exact W.lcmp C.1 C.2.1 dg  (kk _ _ _ h H locs ls hR hS hL)
  · exact h.elim
theorem sd_i2l {d mc : Nat} (C : ab_Cx p l R s m args meth c w nL cc own d mc) (dg : decode cc pc = .ok (.i2l, 1)) (kk : ∀ L st σ, P L st σ → ab_M p l e R s m args below meth c w nL Q (pc + 1) L st σ) : ∀ L st σ, ab_i2l P L st σ → ab_M p l e R s m args below meth c w nL Q pc L st σ := by
  intro L st σ h H locs ls hR hS hL
  unfold ab_i2l at h
  split at h
  · exact lv_i2l C.1 C.2.1 dg rfl (kk _ _ _ h H locs ls hR hS hL)
  · exact h.elim
theorem sd_l2i {d mc : Nat} (C : ab_Cx p l R s m args meth c w nL cc own d mc) (dg : decode cc pc = .ok (.l2i, 1)) (kk : ∀ L st σ, P L st σ → ab_M p l e R s m args below meth c w nL Q (pc + 1) L st σ) : ∀ L st σ, ab_l2i P L st σ → ab_M p l e R s m args below meth c w nL Q pc L st σ := by
  intro L st σ h H locs ls hR hS hL
  unfold ab_l2i at h
  split at h
  · exact lv_l2i C.1 C.2.1 dg rfl (kk _ _ _ h H locs ls hR hS hL)
  · exact h.elim
theorem sd_ineg {d mc : Nat} (C : ab_Cx p l R s m args meth c w nL cc own d mc) (dg : decode cc pc = .ok (.ineg, 1)) (kk : ∀ L st σ, P L st σ → ab_M p l e R s m args below meth c w nL Q (pc + 1) L st σ) : ∀ L st σ, ab_u1 (fun x => -x) P L st σ → ab_M p l e R s m args below meth c w nL Q pc L st σ := by
  intro L st σ h H locs ls hR hS hL
  unfold ab_u1 at h
  split at h
  · exact lv_ineg C.1 C.2.1 dg  (kk _ _ _ h H locs ls hR hS hL)
  · exact h.elim
theorem sd_i2c {d mc : Nat} (C : ab_Cx p l R s m args meth c w nL cc own d mc) (dg : decode cc pc = .ok (.i2c, 1)) (kk : ∀ L st σ, P L st σ → ab_M p l e R s m args below meth c w nL Q (pc + 1) L st σ) : ∀ L st σ, ab_u1 (fun x => (x.toUInt32 % 65536).toInt32) P L st σ → ab_M p l e R s m args below meth c w nL Q pc L st σ := by
  intro L st σ h H locs ls hR hS hL
  unfold ab_u1 at h
  split at h
  · exact lv_i2c C.1 C.2.1 dg rfl (kk _ _ _ h H locs ls hR hS hL)
  · exact h.elim
theorem sd_lshl {d mc : Nat} (C : ab_Cx p l R s m args meth c w nL cc own d mc) (dg : decode cc pc = .ok (.lshl, 1)) (kk : ∀ L st σ, P L st σ → ab_M p l e R s m args below meth c w nL Q (pc + 1) L st σ) : ∀ L st σ, ab_lsh (fun x y => x <<< (y.toInt64 &&& 63)) P L st σ → ab_M p l e R s m args below meth c w nL Q pc L st σ := by
  intro L st σ h H locs ls hR hS hL
  unfold ab_lsh at h
  split at h
  · exact lv_lshl C.1 C.2.1 dg rfl (kk _ _ _ h H locs ls hR hS hL)
  · exact h.elim
theorem sd_dup {d mc : Nat} (C : ab_Cx p l R s m args meth c w nL cc own d mc) (dg : decode cc pc = .ok (.dup, 1)) (kk : ∀ L st σ, P L st σ → ab_M p l e R s m args below meth c w nL Q (pc + 1) L st σ) : ∀ L st σ, ab_dup P L st σ → ab_M p l e R s m args below meth c w nL Q pc L st σ := by
  intro L st σ h H locs ls hR hS hL
  unfold ab_dup at h
  split at h
  · exact lv_dup C.1 C.2.1 dg rfl (kk _ _ _ h H locs ls hR hS hL)
  · exact lv_dup C.1 C.2.1 dg rfl (kk _ _ _ h H locs ls hR hS hL)
  · exact h.elim
theorem sd_dup2 {d mc : Nat} (C : ab_Cx p l R s m args meth c w nL cc own d mc) (dg : decode cc pc = .ok (.dup2, 1)) (kk : ∀ L st σ, P L st σ → ab_M p l e R s m args below meth c w nL Q (pc + 1) L st σ) : ∀ L st σ, ab_dup2 P L st σ → ab_M p l e R s m args below meth c w nL Q pc L st σ := by
  intro L st σ h H locs ls hR hS hL
  unfold ab_dup2 at h
  split at h
  · exact lv_dup2_11 C.1 C.2.1 dg rfl rfl (kk _ _ _ h H locs ls hR hS hL)
  · exact h.elim
theorem sd_pop {d mc : Nat} (C : ab_Cx p l R s m args meth c w nL cc own d mc) (dg : decode cc pc = .ok (.pop, 1)) (kk : ∀ L st σ, P L st σ → ab_M p l e R s m args below meth c w nL Q (pc + 1) L st σ) : ∀ L st σ, ab_pop P L st σ → ab_M p l e R s m args below meth c w nL Q pc L st σ := by
  intro L st σ h H locs ls hR hS hL
  unfold ab_pop at h
  split at h
  · exact lv_pop C.1 C.2.1 dg rfl (kk _ _ _ h H locs ls hR hS hL)
  · exact lv_pop C.1 C.2.1 dg rfl (kk _ _ _ h H locs ls hR hS hL)
  · exact h.elim

theorem sd_iconst {d mc : Nat} (C : ab_Cx p l R s m args meth c w nL cc own d mc) {n : Int} {x : Int32} (dg : decode cc pc = .ok (.iconst n, 1)) (hv : Int32.ofInt n = x) (kk : ∀ L st σ, P L st σ → ab_M p l e R s m args below meth c w nL Q (pc + 1) L st σ) : ∀ L st σ, ab_ci x P L st σ → ab_M p l e R s m args below meth c w nL Q pc L st σ := by
  intro L st σ h H locs ls hR hS hL
  exact lv_iconst C.1 C.2.1 dg hv (kk _ _ _ h H locs ls hR hS hL)
theorem sd_bipush {d mc : Nat} (C : ab_Cx p l R s m args meth c w nL cc own d mc) {n : Int} {x : Int32} (dg : decode cc pc = .ok (.bipush n, 2)) (hv : (Int8.ofInt n).toInt32 = x) (kk : ∀ L st σ, P L st σ → ab_M p l e R s m args below meth c w nL Q (pc + 2) L st σ) : ∀ L st σ, ab_ci x P L st σ → ab_M p l e R s m args below meth c w nL Q pc L st σ := by
  intro L st σ h H locs ls hR hS hL
  exact lv_bipush C.1 C.2.1 dg hv (kk _ _ _ h H locs ls hR hS hL)
theorem sd_sipush {d mc : Nat} (C : ab_Cx p l R s m args meth c w nL cc own d mc) {n : Int} {x : Int32} (dg : decode cc pc = .ok (.sipush n, 3)) (hv : (Int16.ofInt n).toInt32 = x) (kk : ∀ L st σ, P L st σ → ab_M p l e R s m args below meth c w nL Q (pc + 3) L st σ) : ∀ L st σ, ab_ci x P L st σ → ab_M p l e R s m args below meth c w nL Q pc L st σ := by
  intro L st σ h H locs ls hR hS hL
  exact lv_sipush C.1 C.2.1 dg hv (kk _ _ _ h H locs ls hR hS hL)
theorem sd_lconst {d mc : Nat} (C : ab_Cx p l R s m args meth c w nL cc own d mc) {n : Fin 2} {x : Int64} (dg : decode cc pc = .ok (.lconst n, 1)) (hv : Int64.ofNat (n : Nat) = x) (kk : ∀ L st σ, P L st σ → ab_M p l e R s m args below meth c w nL Q (pc + 1) L st σ) : ∀ L st σ, ab_cl x P L st σ → ab_M p l e R s m args below meth c w nL Q pc L st σ := by
  intro L st σ h H locs ls hR hS hL
  exact lv_lconst C.1 C.2.1 dg hv (kk _ _ _ h H locs ls hR hS hL)
theorem sd_ldc2 {d mc : Nat} (C : ab_Cx p l R s m args meth c w nL cc own d mc) {i : Nat} {x : Int64} (dg : decode cc pc = .ok (.ldc2_w i, 3)) (hv : Jvm.Cond.constantLong own i x ∈ ab_T) (kk : ∀ L st σ, P L st σ → ab_M p l e R s m args below meth c w nL Q (pc + 3) L st σ) : ∀ L st σ, ab_cl x P L st σ → ab_M p l e R s m args below meth c w nL Q pc L st σ := by
  intro L st σ h H locs ls hR hS hL
  exact lv_ldc2 C.1 C.2.1 C.2.2.2.1 (C.2.2.2.2.1 _ hv) dg (kk _ _ _ h H locs ls hR hS hL)

theorem sd_iload {d mc : Nat} (C : ab_Cx p l R s m args meth c w nL cc own d mc) {i : Nat} (dg : decode cc pc = .ok (.iload i, 2)) (kk : ∀ L st σ, P L st σ → ab_M p l e R s m args below meth c w nL Q (pc + 2) L st σ) : ∀ L st σ, ab_ild i P L st σ → ab_M p l e R s m args below meth c w nL Q pc L st σ := by
  intro L st σ h H locs ls hR hS hL
  unfold ab_ild at h
  split at h
  · next hg => exact lv_iload C.1 C.2.1 dg (hL.int hg) (kk _ _ _ h H locs ls hR hS hL)
  · exact h.elim
theorem sd_iload_n {d mc : Nat} (C : ab_Cx p l R s m args meth c w nL cc own d mc) {k : Fin 4} {i : Nat} (dg : decode cc pc = .ok (.iload_n k, 1)) (hi : (k : Nat) = i) (kk : ∀ L st σ, P L st σ → ab_M p l e R s m args below meth c w nL Q (pc + 1) L st σ) : ∀ L st σ, ab_ild i P L st σ → ab_M p l e R s m args below meth c w nL Q pc L st σ := by
  intro L st σ h H locs ls hR hS hL
  unfold ab_ild at h
  split at h
  · next hg => exact lv_iload_n C.1 C.2.1 dg hi (hL.int hg) (kk _ _ _ h H locs ls hR hS hL)
  · exact h.elim
theorem sd_lload {d mc : Nat} (C : ab_Cx p l R s m args meth c w nL cc own d mc) {i : Nat} (dg : decode cc pc = .ok (.lload i, 2)) (kk : ∀ L st σ, P L st σ → ab_M p l e R s m args below meth c w nL Q (pc + 2) L st σ) : ∀ L st σ, ab_lld i P L st σ → ab_M p l e R s m args below meth c w nL Q pc L st σ := by
  intro L st σ h H locs ls hR hS hL
  unfold ab_lld at h
  split at h
  · next hg => exact lv_lload C.1 C.2.1 dg (hL.long hg) (kk _ _ _ h H locs ls hR hS hL)
  · exact h.elim
theorem sd_lload_n {d mc : Nat} (C : ab_Cx p l R s m args meth c w nL cc own d mc) {k : Fin 4} {i : Nat} (dg : decode cc pc = .ok (.lload_n k, 1)) (hi : (k : Nat) = i) (kk : ∀ L st σ, P L st σ → ab_M p l e R s m args below meth c w nL Q (pc + 1) L st σ) : ∀ L st σ, ab_lld i P L st σ → ab_M p l e R s m args below meth c w nL Q pc L st σ := by
  intro L st σ h H locs ls hR hS hL
  unfold ab_lld at h
  split at h
  · next hg => exact lv_lload_n C.1 C.2.1 dg hi (hL.long hg) (kk _ _ _ h H locs ls hR hS hL)
  · exact h.elim
theorem sd_aload {d mc : Nat} (C : ab_Cx p l R s m args meth c w nL cc own d mc) {i : Nat} (dg : decode cc pc = .ok (.aload i, 2)) (kk : ∀ L st σ, P L st σ → ab_M p l e R s m args below meth c w nL Q (pc + 2) L st σ) : ∀ L st σ, ab_ald i P L st σ → ab_M p l e R s m args below meth c w nL Q pc L st σ := by
  intro L st σ h H locs ls hR hS hL
  unfold ab_ald at h
  split at h
  · next hg => exact lv_aload C.1 C.2.1 dg (hL.ref hg) (kk _ _ _ h H locs ls hR hS hL)
  · exact h.elim
theorem sd_aload_n {d mc : Nat} (C : ab_Cx p l R s m args meth c w nL cc own d mc) {k : Fin 4} {i : Nat} (dg : decode cc pc = .ok (.aload_n k, 1)) (hi : (k : Nat) = i) (kk : ∀ L st σ, P L st σ → ab_M p l e R s m args below meth c w nL Q (pc + 1) L st σ) : ∀ L st σ, ab_ald i P L st σ → ab_M p l e R s m args below meth c w nL Q pc L st σ := by
  intro L st σ h H locs ls hR hS hL
  unfold ab_ald at h
  split at h
  · next hg => exact lv_aload_n C.1 C.2.1 dg hi (hL.ref hg) (kk _ _ _ h H locs ls hR hS hL)
  · exact h.elim
theorem sd_istore {d mc : Nat} (C : ab_Cx p l R s m args meth c w nL cc own d mc) {i : Nat} (dg : decode cc pc = .ok (.istore i, 2)) (hn : i < nL) (kk : ∀ L st σ, P L st σ → ab_M p l e R s m args below meth c w nL Q (pc + 2) L st σ) : ∀ L st σ, ab_ist i P L st σ → ab_M p l e R s m args below meth c w nL Q pc L st σ := by
  intro L st σ h H locs ls hR hS hL
  unfold ab_ist at h
  split at h
  · next hk => exact lv_istore C.1 C.2.1 dg hL.has hn rfl (fun ls' hl => kk _ _ _ h H locs ls' hR hS (hL.st1 hk hl))
  · exact h.elim
theorem sd_istore_n {d mc : Nat} (C : ab_Cx p l R s m args meth c w nL cc own d mc) {k : Fin 4} {i : Nat} (dg : decode cc pc = .ok (.istore_n k, 1)) (hi : (k : Nat) = i) (hn : i < nL) (kk : ∀ L st σ, P L st σ → ab_M p l e R s m args below meth c w nL Q (pc + 1) L st σ) : ∀ L st σ, ab_ist i P L st σ → ab_M p l e R s m args below meth c w nL Q pc L st σ := by
  intro L st σ h H locs ls hR hS hL
  unfold ab_ist at h
  split at h
  · next hk => exact lv_istore_n C.1 C.2.1 dg hi hL.has hn rfl (fun ls' hl => kk _ _ _ h H locs ls' hR hS (hL.st1 hk hl))
  · exact h.elim
theorem sd_lstore {d mc : Nat} (C : ab_Cx p l R s m args meth c w nL cc own d mc) {i : Nat} (dg : decode cc pc = .ok (.lstore i, 2)) (hn : i + 1 < nL) (kk : ∀ L st σ, P L st σ → ab_M p l e R s m args below meth c w nL Q (pc + 2) L st σ) : ∀ L st σ, ab_lst i P L st σ → ab_M p l e R s m args below meth c w nL Q pc L st σ := by
  intro L st σ h H locs ls hR hS hL
  unfold ab_lst at h
  split at h
  · next hk => exact lv_lstore C.1 C.2.1 dg hL.has hn rfl (fun ls' hl => kk _ _ _ h H locs ls' hR hS (hL.st2 hk hl))
  · exact h.elim
theorem sd_lstore_n {d mc : Nat} (C : ab_Cx p l R s m args meth c w nL cc own d mc) {k : Fin 4} {i : Nat} (dg : decode cc pc = .ok (.lstore_n k, 1)) (hi : (k : Nat) = i) (hn : i + 1 < nL) (kk : ∀ L st σ, P L st σ → ab_M p l e R s m args below meth c w nL Q (pc + 1) L st σ) : ∀ L st σ, ab_lst i P L st σ → ab_M p l e R s m args below meth c w nL Q pc L st σ := by
  intro L st σ h H locs ls hR hS hL
  unfold ab_lst at h
  split at h
  · next hk => exact lv_lstore_n C.1 C.2.1 dg hi hL.has hn rfl (fun ls' hl => kk _ _ _ h H locs ls' hR hS (hL.st2 hk hl))
  · exact h.elim
theorem sd_astore {d mc : Nat} (C : ab_Cx p l R s m args meth c w nL cc own d mc) {i : Nat} (dg : decode cc pc = .ok (.astore i, 2)) (hn : i < nL) (kk : ∀ L st σ, P L st σ → ab_M p l e R s m args below meth c w nL Q (pc + 2) L st σ) : ∀ L st σ, ab_ast i P L st σ → ab_M p l e R s m args below meth c w nL Q pc L st σ := by
  intro L st σ h H locs ls hR hS hL
  unfold ab_ast at h
  split at h
  · next hk => exact lv_astore C.1 C.2.1 dg hL.has hn rfl (fun ls' hl => kk _ _ _ h H locs ls' hR hS (hL.st1 hk hl))
  · exact h.elim
theorem sd_astore_n {d mc : Nat} (C : ab_Cx p l R s m args meth c w nL cc own d mc) {k : Fin 4} {i : Nat} (dg : decode cc pc = .ok (.astore_n k, 1)) (hi : (k : Nat) = i) (hn : i < nL) (kk : ∀ L st σ, P L st σ → ab_M p l e R s m args below meth c w nL Q (pc + 1) L st σ) : ∀ L st σ, ab_ast i P L st σ → ab_M p l e R s m args below meth c w nL Q pc L st σ := by
  intro L st σ h H locs ls hR hS hL
  unfold ab_ast at h
  split at h
  · next hk => exact lv_astore_n C.1 C.2.1 dg hi hL.has hn rfl (fun ls' hl => kk _ _ _ h H locs ls' hR hS (hL.st1 hk hl))
  · exact h.elim
theorem sd_iinc {d mc : Nat} (C : ab_Cx p l R s m args meth c w nL cc own d mc) {i : Nat} {n : Int} {x : Int32} (dg : decode cc pc = .ok (.iinc i n, 3)) (hx : Int32.ofInt n = x) (hn : i < nL) (kk : ∀ L st σ, P L st σ → ab_M p l e R s m args below meth c w nL Q (pc + 3) L st σ) : ∀ L st σ, ab_inc i x P L st σ → ab_M p l e R s m args below meth c w nL Q pc L st σ := by
  intro L st σ h H locs ls hR hS hL
  unfold ab_inc at h
  split at h
  · next z hg hk =>
    have hm : (i, Value.int z) ∈ ab_ll w nL L := by
      have := ab_ll_in (w := w) (L := L) hn (by rw [hg]; exact fun q => by cases q)
      rwa [hg] at this
    obtain ⟨k, hk2⟩ := List.getElem?_of_mem hm
    exact lv_iinc (v := z + x) C.1 C.2.1 dg hL.has hk2 (by rw [hx]) hn rfl (fun ls' hl => kk _ _ _ h H locs ls' hR hS (hL.st1 (v := .int (z + x)) hk hl))
  · exact h.elim
theorem sd_goto {d mc : Nat} (C : ab_Cx p l R s m args meth c w nL cc own d mc) {off : Int} {tgt : Nat} (dg : decode cc pc = .ok (.goto off, 3)) (ht : (pc : Int) + off = (tgt : Int)) (kk : ∀ L st σ, P L st σ → ab_M p l e R s m args below meth c w nL Q tgt L st σ) : ∀ L st σ, P L st σ → ab_M p l e R s m args below meth c w nL Q pc L st σ := by
  intro L st σ h H locs ls hR hS hL
  exact lv_goto C.1 C.2.1 dg ht (kk _ _ _ h H locs ls hR hS hL)
theorem sd_ifnull {d mc : Nat} (C : ab_Cx p l R s m args meth c w nL cc own d mc) {off : Int} (dg : decode cc pc = .ok (.ifnull off, 3)) (kk : ∀ L st σ, P L st σ → ab_M p l e R s m args below meth c w nL Q (pc + 3) L st σ) : ∀ L st σ, ab_nn P L st σ → ab_M p l e R s m args below meth c w nL Q pc L st σ := by
  intro L st σ h H locs ls hR hS hL
  unfold ab_nn at h
  split at h
  · exact lv_ifnull C.1 C.2.1 dg (kk _ _ _ h H locs ls hR hS hL)
  · exact h.elim

theorem sd_if_eq {d mc : Nat} (C : ab_Cx p l R s m args meth c w nL cc own d mc) {off : Int} {tgt : Nat} (dg : decode cc pc = .ok (.ifCond .eq off, 3)) (ht : (pc : Int) + off = (tgt : Int)) (kt : ∀ L st σ, P L st σ → ab_M p l e R s m args below meth c w nL Q tgt L st σ) (kf : ∀ L st σ, P2 L st σ → ab_M p l e R s m args below meth c w nL Q (pc + 3) L st σ) : ∀ L st σ, ab_if1 (fun x => x = 0) P P2 L st σ → ab_M p l e R s m args below meth c w nL Q pc L st σ := by
  intro L st σ h H locs ls hR hS hL
  unfold ab_if1 at h
  split at h
  · exact lv_if_eq C.1 C.2.1 dg ht (fun q => kt _ _ _ (h.1 q) H locs ls hR hS hL) (fun q => kf _ _ _ (h.2 q) H locs ls hR hS hL)
  · exact h.elim
theorem sd_icmp_eq {d mc : Nat} (C : ab_Cx p l R s m args meth c w nL cc own d mc) {off : Int} {tgt : Nat} (dg : decode cc pc = .ok (.if_icmp .eq off, 3)) (ht : (pc : Int) + off = (tgt : Int)) (kt : ∀ L st σ, P L st σ → ab_M p l e R s m args below meth c w nL Q tgt L st σ) (kf : ∀ L st σ, P2 L st σ → ab_M p l e R s m args below meth c w nL Q (pc + 3) L st σ) : ∀ L st σ, ab_if2 (fun x y => x = y) P P2 L st σ → ab_M p l e R s m args below meth c w nL Q pc L st σ := by
  intro L st σ h H locs ls hR hS hL
  unfold ab_if2 at h
  split at h
  · exact lv_icmp_eq C.1 C.2.1 dg ht (fun q => kt _ _ _ (h.1 q) H locs ls hR hS hL) (fun q => kf _ _ _ (h.2 q) H locs ls hR hS hL)
  · exact h.elim
theorem sd_if_ne {d mc : Nat} (C : ab_Cx p l R s m args meth c w nL cc own d mc) {off : Int} {tgt : Nat} (dg : decode cc pc = .ok (.ifCond .ne off, 3)) (ht : (pc : Int) + off = (tgt : Int)) (kt : ∀ L st σ, P L st σ → ab_M p l e R s m args below meth c w nL Q tgt L st σ) (kf : ∀ L st σ, P2 L st σ → ab_M p l e R s m args below meth c w nL Q (pc + 3) L st σ) : ∀ L st σ, ab_if1 (fun x => ¬ x = 0) P P2 L st σ → ab_M p l e R s m args below meth c w nL Q pc L st σ := by
  intro L st σ h H locs ls hR hS hL
  unfold ab_if1 at h
  split at h
  · exact lv_if_ne C.1 C.2.1 dg ht (fun q => kt _ _ _ (h.1 q) H locs ls hR hS hL) (fun q => kf _ _ _ (h.2 (fun z => z q)) H locs ls hR hS hL)
  · exact h.elim
theorem sd_icmp_ne {d mc : Nat} (C : ab_Cx p l R s m args meth c w nL cc own d mc) {off : Int} {tgt : Nat} (dg : decode cc pc = .ok (.if_icmp .ne off, 3)) (ht : (pc : Int) + off = (tgt : Int)) (kt : ∀ L st σ, P L st σ → ab_M p l e R s m args below meth c w nL Q tgt L st σ) (kf : ∀ L st σ, P2 L st σ → ab_M p l e R s m args below meth c w nL Q (pc + 3) L st σ) : ∀ L st σ, ab_if2 (fun x y => ¬ x = y) P P2 L st σ → ab_M p l e R s m args below meth c w nL Q pc L st σ := by
  intro L st σ h H locs ls hR hS hL
  unfold ab_if2 at h
  split at h
  · exact lv_icmp_ne C.1 C.2.1 dg ht (fun q => kt _ _ _ (h.1 q) H locs ls hR hS hL) (fun q => kf _ _ _ (h.2 (fun z => z q)) H locs ls hR hS hL)
  · exact h.elim
theorem sd_if_lt {d mc : Nat} (C : ab_Cx p l R s m args meth c w nL cc own d mc) {off : Int} {tgt : Nat} (dg : decode cc pc = .ok (.ifCond .lt off, 3)) (ht : (pc : Int) + off = (tgt : Int)) (kt : ∀ L st σ, P L st σ → ab_M p l e R s m args below meth c w nL Q tgt L st σ) (kf : ∀ L st σ, P2 L st σ → ab_M p l e R s m args below meth c w nL Q (pc + 3) L st σ) : ∀ L st σ, ab_if1 (fun x => x < 0) P P2 L st σ → ab_M p l e R s m args below meth c w nL Q pc L st σ := by
  intro L st σ h H locs ls hR hS hL
  unfold ab_if1 at h
  split at h
  · exact lv_if_lt C.1 C.2.1 dg ht (fun q => kt _ _ _ (h.1 q) H locs ls hR hS hL) (fun q => kf _ _ _ (h.2 q) H locs ls hR hS hL)
  · exact h.elim
theorem sd_icmp_lt {d mc : Nat} (C : ab_Cx p l R s m args meth c w nL cc own d mc) {off : Int} {tgt : Nat} (dg : decode cc pc = .ok (.if_icmp .lt off, 3)) (ht : (pc : Int) + off = (tgt : Int)) (kt : ∀ L st σ, P L st σ → ab_M p l e R s m args below meth c w nL Q tgt L st σ) (kf : ∀ L st σ, P2 L st σ → ab_M p l e R s m args below meth c w nL Q (pc + 3) L st σ) : ∀ L st σ, ab_if2 (fun x y => x < y) P P2 L st σ → ab_M p l e R s m args below meth c w nL Q pc L st σ := by
  intro L st σ h H locs ls hR hS hL
  unfold ab_if2 at h
  split at h
  · exact lv_icmp_lt C.1 C.2.1 dg ht (fun q => kt _ _ _ (h.1 q) H locs ls hR hS hL) (fun q => kf _ _ _ (h.2 q) H locs ls hR hS hL)
  · exact h.elim
theorem sd_if_ge {d mc : Nat} (C : ab_Cx p l R s m args meth c w nL cc own d mc) {off : Int} {tgt : Nat} (dg : decode cc pc = .ok (.ifCond .ge off, 3)) (ht : (pc : Int) + off = (tgt : Int)) (kt : ∀ L st σ, P L st σ → ab_M p l e R s m args below meth c w nL Q tgt L st σ) (kf : ∀ L st σ, P2 L st σ → ab_M p l e R s m args below meth c w nL Q (pc + 3) L st σ) : ∀ L st σ, ab_if1 (fun x => 0 ≤ x) P P2 L st σ → ab_M p l e R s m args below meth c w nL Q pc L st σ := by
  intro L st σ h H locs ls hR hS hL
  unfold ab_if1 at h
  split at h
  · exact lv_if_ge C.1 C.2.1 dg ht (fun q => kt _ _ _ (h.1 q) H locs ls hR hS hL) (fun q => kf _ _ _ (h.2 q) H locs ls hR hS hL)
  · exact h.elim
theorem sd_icmp_ge {d mc : Nat} (C : ab_Cx p l R s m args meth c w nL cc own d mc) {off : Int} {tgt : Nat} (dg : decode cc pc = .ok (.if_icmp .ge off, 3)) (ht : (pc : Int) + off = (tgt : Int)) (kt : ∀ L st σ, P L st σ → ab_M p l e R s m args below meth c w nL Q tgt L st σ) (kf : ∀ L st σ, P2 L st σ → ab_M p l e R s m args below meth c w nL Q (pc + 3) L st σ) : ∀ L st σ, ab_if2 (fun x y => y ≤ x) P P2 L st σ → ab_M p l e R s m args below meth c w nL Q pc L st σ := by
  intro L st σ h H locs ls hR hS hL
  unfold ab_if2 at h
  split at h
  · exact lv_icmp_ge C.1 C.2.1 dg ht (fun q => kt _ _ _ (h.1 q) H locs ls hR hS hL) (fun q => kf _ _ _ (h.2 q) H locs ls hR hS hL)
  · exact h.elim
theorem sd_if_gt {d mc : Nat} (C : ab_Cx p l R s m args meth c w nL cc own d mc) {off : Int} {tgt : Nat} (dg : decode cc pc = .ok (.ifCond .gt off, 3)) (ht : (pc : Int) + off = (tgt : Int)) (kt : ∀ L st σ, P L st σ → ab_M p l e R s m args below meth c w nL Q tgt L st σ) (kf : ∀ L st σ, P2 L st σ → ab_M p l e R s m args below meth c w nL Q (pc + 3) L st σ) : ∀ L st σ, ab_if1 (fun x => 0 < x) P P2 L st σ → ab_M p l e R s m args below meth c w nL Q pc L st σ := by
  intro L st σ h H locs ls hR hS hL
  unfold ab_if1 at h
  split at h
  · exact lv_if_gt C.1 C.2.1 dg ht (fun q => kt _ _ _ (h.1 q) H locs ls hR hS hL) (fun q => kf _ _ _ (h.2 q) H locs ls hR hS hL)
  · exact h.elim
theorem sd_icmp_gt {d mc : Nat} (C : ab_Cx p l R s m args meth c w nL cc own d mc) {off : Int} {tgt : Nat} (dg : decode cc pc = .ok (.if_icmp .gt off, 3)) (ht : (pc : Int) + off = (tgt : Int)) (kt : ∀ L st σ, P L st σ → ab_M p l e R s m args below meth c w nL Q tgt L st σ) (kf : ∀ L st σ, P2 L st σ → ab_M p l e R s m args below meth c w nL Q (pc + 3) L st σ) : ∀ L st σ, ab_if2 (fun x y => y < x) P P2 L st σ → ab_M p l e R s m args below meth c w nL Q pc L st σ := by
  intro L st σ h H locs ls hR hS hL
  unfold ab_if2 at h
  split at h
  · exact lv_icmp_gt C.1 C.2.1 dg ht (fun q => kt _ _ _ (h.1 q) H locs ls hR hS hL) (fun q => kf _ _ _ (h.2 q) H locs ls hR hS hL)
  · exact h.elim
theorem sd_if_le {d mc : Nat} (C : ab_Cx p l R s m args meth c w nL cc own d mc) {off : Int} {tgt : Nat} (dg : decode cc pc = .ok (.ifCond .le off, 3)) (ht : (pc : Int) + off = (tgt : Int)) (kt : ∀ L st σ, P L st σ → ab_M p l e R s m args below meth c w nL Q tgt L st σ) (kf : ∀ L st σ, P2 L st σ → ab_M p l e R s m args below meth c w nL Q (pc + 3) L st σ) : ∀ L st σ, ab_if1 (fun x => x ≤ 0) P P2 L st σ → ab_M p l e R s m args below meth c w nL Q pc L st σ := by
  intro L st σ h H locs ls hR hS hL
  unfold ab_if1 at h
  split at h
  · exact lv_if_le C.1 C.2.1 dg ht (fun q => kt _ _ _ (h.1 q) H locs ls hR hS hL) (fun q => kf _ _ _ (h.2 q) H locs ls hR hS hL)
  · exact h.elim
theorem sd_icmp_le {d mc : Nat} (C : ab_Cx p l R s m args meth c w nL cc own d mc) {off : Int} {tgt : Nat} (dg : decode cc pc = .ok (.if_icmp .le off, 3)) (ht : (pc : Int) + off = (tgt : Int)) (kt : ∀ L st σ, P L st σ → ab_M p l e R s m args below meth c w nL Q tgt L st σ) (kf : ∀ L st σ, P2 L st σ → ab_M p l e R s m args below meth c w nL Q (pc + 3) L st σ) : ∀ L st σ, ab_if2 (fun x y => x ≤ y) P P2 L st σ → ab_M p l e R s m args below meth c w nL Q pc L st σ := by
  intro L st σ h H locs ls hR hS hL
  unfold ab_if2 at h
  split at h
  · exact lv_icmp_le C.1 C.2.1 dg ht (fun q => kt _ _ _ (h.1 q) H locs ls hR hS hL) (fun q => kf _ _ _ (h.2 q) H locs ls hR hS hL)
  · exact h.elim
end ABS
