/-! the reference's clean() on a new array -/
theorem arrV_cg {cI : ClassId} {N : Nat} {f g : Nat → Value} (h : ∀ j, j < N → f j = g j) : arrV cI N f = arrV cI N g := by
  unfold arrV
  have : (fun j : Fin N => f j.val) = fun j => g j.val := funext fun j => h j.val j.isLt
  rw [this]
abbrev bClean (cI : ClassId) (a sz : Nat) (f : Nat → Value) (U : State) : Prop := U.heap.size = sz ∧ U.heap[a]? = some (arrV cI 304 f) ∧ ArrOfT U cI .int
set_option maxRecDepth 20000 in
set_option maxHeartbeats 4000000 in
theorem mk_clean {l : Launch} (cI : ClassId) (a sz : Nat) (f : Nat → Value) : Met l yX10_clean (Cond.code yX10_clean cX10_clean 2 none :: ab_T) (bRm 1 0 0) (va_Pc [.ref a] (bClean cI a sz f)) (va_Qv (fun _ : Nat => True) (fun _ t => t.heap.size = sz ∧ t.heap[a]? = some (arrV cI 304 (fun j => .int (n_new.1 j)))) (fun q => q = a)) 0 0 (fun q => q = a) := by
  refine Met.ofW (cc := cX10_clean) (maxL := 2) (ret := none) (by decide) rfl ?_
  intro p e s m args below meth c s₁ B hml hv
  obtain ⟨rfl, rfl, hcell, hArr⟩ := hv
  have hx := B.exec
  have hb := B.bytes
  have hr := B.returns
  have hlocks := B.notSynchronized
  have hl := lv_entry ([.ref a]) (n := 2) (Nat.le_of_ble_eq_true rfl)
  rw [lg_entry_eq]
  generalize (lg_sl ([.ref a]) ++ List.replicate (2 - (lg_sl ([.ref a])).length) Slot.unset).toArray = ls at hl ⊢
  have hl : lv_has ls 2 [(0, .ref a)] := hl
  have hS0 : va_S (fun q => q = a) s.heap s.heap [] := va_S.rf
  have stp : ∀ {pc i : Nat} {x : Int32} {H : Heap} {locs : List Loc} {ls : Array Slot} {g : Nat → Value}, decode cX10_clean pc = .ok (.iastore, 1) → i < 304 → H.size = s.heap.size → H[a]? = some (arrV cI 304 g) → va_S (fun q => q = a) s.heap H locs → (∀ H1 locs1, H1.size = s.heap.size → H1[a]? = some (arrV cI 304 (updV g i (.int x))) → va_S (fun q => q = a) s.heap H1 locs1 → W p l e (headSpec (Cond.code yX10_clean cX10_clean 2 none :: ab_T) (bRm 1 0 0)).room s m #[.ref a] below meth c H1 locs1 0 0 (MQ below (va_Qv (fun _ : Nat => True) (fun _ t => t.heap.size = s.heap.size ∧ t.heap[a]? = some (arrV cI 304 (fun j => .int (n_new.1 j)))) (fun q => q = a)) #[.ref a] s 0 0 (fun q => q = a)) (F0 m (pc + 1) ls [])) → W p l e (headSpec (Cond.code yX10_clean cX10_clean 2 none :: ab_T) (bRm 1 0 0)).room s m #[.ref a] below meth c H locs 0 0 (MQ below (va_Qv (fun _ : Nat => True) (fun _ t => t.heap.size = s.heap.size ∧ t.heap[a]? = some (arrV cI 304 (fun j => .int (n_new.1 j)))) (fun q => q = a)) #[.ref a] s 0 0 (fun q => q = a)) (F0 m pc ls [.int x, .int (nI i), .ref a]) := by
    intro pc i x H locs ls g dg hi hz hc hS kk
    have hi2 : i < 2 ^ 31 := by omega
    have hn : (nI i).toNatClampNeg = i := cl_nI hi2
    refine W.iast hx hb hc (hArr _ _) (fun q => by cases q) (by rw [hn, arrV_size]; exact fun q => q.elim (nI_pos hi2) (fun q => absurd q (Nat.not_le.mpr hi))) rfl rfl dg fun H1 e1 z oq => ?_
    rw [hn, arrV_store] at e1
    exact kk H1 _ (z.trans hz) e1 (hS.put z oq rfl)
  refine lv_iconst (v := nI 0) hx hb dX10_clean_0 (by decide) ?_
  refine lv_istore_n (lv' := [(1, .int (nI 0)), (0, .ref a)]) hx hb dX10_clean_1 rfl hl (by decide) rfl (fun ls hl => ?_)
  have loop : ∀ d i H locs ls (g : Nat → Value), i + d = 304 → H.size = s.heap.size → H[a]? = some (arrV cI 304 g) → (∀ j, j < i → g j = .int 0) → va_S (fun q => q = a) s.heap H locs → lv_has ls 2 [(1, .int (nI i)), (0, .ref a)] → W p l e (headSpec (Cond.code yX10_clean cX10_clean 2 none :: ab_T) (bRm 1 0 0)).room s m #[.ref a] below meth c H locs 0 0 (MQ below (va_Qv (fun _ : Nat => True) (fun _ t => t.heap.size = s.heap.size ∧ t.heap[a]? = some (arrV cI 304 (fun j => .int (n_new.1 j)))) (fun q => q = a)) #[.ref a] s 0 0 (fun q => q = a)) (F0 m 2 ls []) := by
    intro d
    induction d with
    | zero =>
      intro i H locs ls g hi hz hc hg hS hl
      obtain rfl : i = 304 := by omega
      refine lv_iload_n hx hb dX10_clean_2 rfl (lv_at hl 0 rfl) ?_
      refine lv_sipush (v := nI 304) hx hb dX10_clean_3 (by decide +kernel) ?_
      refine lv_icmp_ge (tgt := 19) hx hb dX10_clean_6 (by decide) (fun _ => ?_) (fun q => absurd (by first | exact Int32.le_refl _ | decide +kernel) q)
      refine lv_aload_n hx hb dX10_clean_19 rfl (lv_at hl 1 rfl) ?_
      refine lv_bipush (v := nI 12) hx hb dX10_clean_20 (by decide +kernel) ?_
      refine lv_iconst (v := nI 4) hx hb dX10_clean_22 (by decide +kernel) ?_
      refine stp dX10_clean_23 (by decide) hz hc hS (fun H locs hz hc hS => ?_)
      refine lv_aload_n hx hb dX10_clean_24 rfl (lv_at hl 1 rfl) ?_
      refine lv_bipush (v := nI 13) hx hb dX10_clean_25 (by decide +kernel) ?_
      refine lv_iconst (v := nI 3) hx hb dX10_clean_27 (by decide +kernel) ?_
      refine stp dX10_clean_28 (by decide) hz hc hS (fun H locs hz hc hS => ?_)
      refine lv_aload_n hx hb dX10_clean_29 rfl (lv_at hl 1 rfl) ?_
      refine lv_bipush (v := nI 14) hx hb dX10_clean_30 (by decide +kernel) ?_
      refine lv_iconst (v := nI 2) hx hb dX10_clean_32 (by decide +kernel) ?_
      refine stp dX10_clean_33 (by decide) hz hc hS (fun H locs hz hc hS => ?_)
      refine lv_aload_n hx hb dX10_clean_34 rfl (lv_at hl 1 rfl) ?_
      refine lv_bipush (v := nI 15) hx hb dX10_clean_35 (by decide +kernel) ?_
      refine lv_bipush (v := nI 20) hx hb dX10_clean_37 (by decide +kernel) ?_
      refine stp dX10_clean_39 (by decide) hz hc hS (fun H locs hz hc hS => ?_)
      refine lv_aload_n hx hb dX10_clean_40 rfl (lv_at hl 1 rfl) ?_
      refine lv_bipush (v := nI 16) hx hb dX10_clean_41 (by decide +kernel) ?_
      refine lv_iconst (v := nI 5) hx hb dX10_clean_43 (by decide +kernel) ?_
      refine stp dX10_clean_44 (by decide) hz hc hS (fun H locs hz hc hS => ?_)
      refine W.vret hx hb hr (fun t ht hW => ⟨⟨0, rfl, trivial, ?_⟩, hS.F ht⟩) hS.2.2 dX10_clean_45
      show t.heap.size = s.heap.size ∧ t.heap[a]? = _
      rw [ht]
      refine ⟨hz, hc.trans (congrArg some (arrV_cg (fun j hj => ?_)))⟩
      have h0 := hg j hj
      unfold updV n_new
      dsimp only
      by_cases q16 : j = 16
      · subst q16; rfl
      by_cases q15 : j = 15
      · subst q15; rfl
      by_cases q14 : j = 14
      · subst q14; rfl
      by_cases q13 : j = 13
      · subst q13; rfl
      by_cases q12 : j = 12
      · subst q12; rfl
      rw [if_neg q16, if_neg q15, if_neg q14, if_neg q13, if_neg q12, h0, if_neg q12, if_neg q13, if_neg q14, if_neg q15, if_neg q16]
    | succ d ih =>
      intro i H locs ls g hi hz hc hg hS hl
      refine lv_iload_n hx hb dX10_clean_2 rfl (lv_at hl 0 rfl) ?_
      refine lv_sipush (v := nI 304) hx hb dX10_clean_3 (by decide +kernel) ?_
      refine lv_icmp_ge (tgt := 19) hx hb dX10_clean_6 (by decide) (fun q => absurd ((nI_leI (by omega) (by omega)).mp q) (by omega)) (fun _ => ?_)
      refine lv_aload_n hx hb dX10_clean_9 rfl (lv_at hl 1 rfl) ?_
      refine lv_iload_n hx hb dX10_clean_10 rfl (lv_at hl 0 rfl) ?_
      refine lv_iconst (v := 0) hx hb dX10_clean_11 (by decide +kernel) ?_
      refine stp dX10_clean_12 (by omega) hz hc hS (fun H locs hz hc hS => ?_)
      refine lv_iinc (v := nI (i + 1)) (lv' := [(1, .int (nI (i + 1))), (0, .ref a)]) hx hb dX10_clean_13 hl (k := 0) rfl (nI_1 i) (by decide) rfl (fun ls hl => ?_)
      refine lv_goto (tgt := 2) hx hb dX10_clean_16 (by decide) ?_
      refine ih (i + 1) H locs ls _ (by omega) hz hc (fun j hj => ?_) hS hl
      unfold updV
      by_cases h : j = i
      · rw [if_pos h]
      · rw [if_neg h]; exact hg j (by omega)
  exact loop 304 0 s.heap [] ls f rfl rfl hcell (fun j hj => absurd hj (Nat.not_lt_zero _)) hS0 hl
