section ABS2
variable {p : Program} {l : Launch} {e : Env} {R : Room} {s : State} {m : MethodId} {args : Array Value} {below : List Frame} {meth : Method} {c : Code} {w : ab_W} {nL : Nat} {cc : ByteArray} {own : String} {Q : State → Prop} {pc d mc : Nat} {P P2 : ab_P}
/-- class facts, once for all -/
theorem ab_lay : ∀ r ∈ vwCl, ∀ x ∈ u_ws r.1 r.2.1 r.2.2, x ∈ ab_T := by
  have h : (vwCl.all fun r => (u_ws r.1 r.2.1 r.2.2).all fun x => decide (x ∈ tables_1) && goodWord x) = true := by decide +kernel
  intro r hr x hx
  have h2 := List.all_eq_true.mp (List.all_eq_true.mp h r hr) x hx
  simp only [Bool.and_eq_true, decide_eq_true_eq] at h2
  exact List.mem_filter.mpr ⟨List.mem_append_right _ h2.1, h2.2⟩
def ab_tyc (r : vw_C) (k : Nat) : FieldType := (parseFieldDescriptor (r.2.1 k).2.2.1).getD .int
theorem ab_tyok : ∀ r ∈ vwCl, ∀ k, k < r.2.2 → parseFieldDescriptor (r.2.1 k).2.2.1 = some (ab_tyc r k) := by
  have h : (vwCl.all fun r => (List.range r.2.2).all fun k => (parseFieldDescriptor (r.2.1 k).2.2.1).isSome) = true := by decide +kernel
  intro r hr k hk
  have h2 := List.all_eq_true.mp (List.all_eq_true.mp h r hr) k (List.mem_range.mpr hk)
  obtain ⟨z, hz⟩ := Option.isSome_iff_exists.mp h2
  rw [ab_tyc, hz]; rfl
theorem ab_nmok : ∀ r ∈ vwCl, ∀ a, a < r.2.2 → ∀ b, b < r.2.2 → a ≠ b → (r.2.1 a).2.1 ≠ (r.2.1 b).2.1 := by
  have h : (vwCl.all fun r => (List.range r.2.2).all fun a => (List.range r.2.2).all fun b => decide (a = b) || decide ((r.2.1 a).2.1 ≠ (r.2.1 b).2.1)) = true := by decide +kernel
  intro r hr a ha b hb hab
  have h2 := List.all_eq_true.mp (List.all_eq_true.mp (List.all_eq_true.mp h r hr) a (List.mem_range.mpr ha)) b (List.mem_range.mpr hb)
  simp only [Bool.or_eq_true, decide_eq_true_eq] at h2
  exact h2.resolve_left hab
theorem ab_kd10 {ci : Nat} {r : vw_C} (h : vwCl[ci]? = some r) : ci ≤ 10 := by
  have := (List.getElem?_eq_some_iff.mp h).1
  simp [vwCl] at this; omega
/-- a field read -/
theorem ab_getf (C : ab_Cx p l R s m args meth c w nL cc own d mc) {ci k idx : Nat} {r : vw_C} (hci : vwCl[ci]? = some r) (hk : k < r.2.2) (hlink : Cond.fieldLink own idx (r.2.1 k).1 (r.2.1 k).2.1 (r.2.1 k).2.2.1 ∈ ab_T) (dg : decode cc pc = .ok (.getfield idx, 3)) {H : Heap} {locs : List Loc} {ls : Array Slot} {rest : List Value} {σ : ab_H} {a : Nat} (hR : ab_Rep w σ H) (ha : ab_kd w a = ci)
    (kk : W p l e R s m args below meth c H locs 0 0 Q (F0 m (pc + 3) ls (ab_fv w σ a k :: rest))) : W p l e R s m args below meth c H locs 0 0 Q (F0 m pc ls (.ref (ab_ad w a) :: rest)) := by
  subst ha
  obtain ⟨r', q1, q2⟩ := (hR a).1 (ab_kd10 hci)
  obtain rfl : r' = r := Option.some.inj (q1.symm.trans hci)
  obtain ⟨cell, g1, g2, g3, g4⟩ := q2
  obtain ⟨hS, hfc, kC, hkC, hkind⟩ := C.2.2.2.2.2.2.1.1 _ _ hci
  obtain ⟨cf, kf, fi, f, hi, hsl⟩ := hS k hk
  refine W.getf C.1 C.2.1 C.2.2.2.1 (C.2.2.2.2.1 _ hlink) hi (u_facts hfc hkC (u_lays C.2.2.2.2.1 (ab_lay _ (List.mem_of_getElem? hci)) hk) hi).1 g1 (by rw [g3]; exact fun h => by cases h) (v := ab_fv w σ a k) ?_ rfl rfl dg kk
  rw [hsl]; exact g4 k hk
theorem sd_gf (C : ab_Cx p l R s m args meth c w nL cc own d mc) {ci k idx : Nat} {r : vw_C} (hci : vwCl[ci]? = some r) (hk : k < r.2.2) (hfo : ab_fo ci k = none) (hlink : Cond.fieldLink own idx (r.2.1 k).1 (r.2.1 k).2.1 (r.2.1 k).2.2.1 ∈ ab_T) (dg : decode cc pc = .ok (.getfield idx, 3)) (kk : ∀ L st σ, P L st σ → ab_M p l e R s m args below meth c w nL Q (pc + 3) L st σ) : ∀ L st σ, ab_gf w ci k P L st σ → ab_M p l e R s m args below meth c w nL Q pc L st σ := by
  intro L st σ h H locs ls hR hS hL
  unfold ab_gf at h
  split at h
  · next a r' =>
    refine ab_getf C hci hk hlink dg hR h.1 ?_
    have e1 : ab_fv w σ a k = .int (σ a k) := by rw [ab_fv, h.1, hfo]
    rw [e1]
    exact kk _ _ _ h.2 H locs ls hR hS hL
  · exact h.elim
theorem sd_gr (C : ab_Cx p l R s m args meth c w nL cc own d mc) {ci k idx o : Nat} {r : vw_C} (hci : vwCl[ci]? = some r) (hk : k < r.2.2) (hfo : ab_fo ci k = some o) (hlink : Cond.fieldLink own idx (r.2.1 k).1 (r.2.1 k).2.1 (r.2.1 k).2.2.1 ∈ ab_T) (dg : decode cc pc = .ok (.getfield idx, 3)) (kk : ∀ L st σ, P L st σ → ab_M p l e R s m args below meth c w nL Q (pc + 3) L st σ) : ∀ L st σ, ab_gr w ci o P L st σ → ab_M p l e R s m args below meth c w nL Q pc L st σ := by
  intro L st σ h H locs ls hR hS hL
  unfold ab_gr at h
  split at h
  · next a r' =>
    refine ab_getf C hci hk hlink dg hR h.1 ?_
    have e1 : ab_fv w σ a k = .ref (ab_ad w (a + o)) := by rw [ab_fv, h.1, hfo]
    rw [e1]
    exact kk _ _ _ h.2 H locs ls hR hS hL
  · exact h.elim
/-- a field write -/
theorem ab_putf (C : ab_Cx p l R s m args meth c w nL cc own d mc) {ci k idx : Nat} {r : vw_C} (hci : vwCl[ci]? = some r) (hk : k < r.2.2) (hfin : (r.2.1 k).2.2.2 = false) (hfo : ab_fo ci k = none) {ty : FieldType} (hd : parseFieldDescriptor (r.2.1 k).2.2.1 = some ty) (hlink : Cond.fieldLink own idx (r.2.1 k).1 (r.2.1 k).2.1 (r.2.1 k).2.2.1 ∈ ab_T) (dg : decode cc pc = .ok (.putfield idx, 3)) {H : Heap} {locs : List Loc} {ls : Array Slot} {rest : List Value} {σ : ab_H} {a : Nat} {x : Int32} (hR : ab_Rep w σ H) (hS0 : va_S (ab_A w s.heap.size) s.heap H locs) (ha : ab_kd w a = ci) (hn : narrow ty (.int x) = .int x) (hfit : fits ty (.int x) = true)
    (kk : ∀ (H1 : Heap) (locs1 : List Loc), ab_Rep w (ab_up σ a k x) H1 → va_S (ab_A w s.heap.size) s.heap H1 locs1 → W p l e R s m args below meth c H1 locs1 0 0 Q (F0 m (pc + 3) ls rest)) : W p l e R s m args below meth c H locs 0 0 Q (F0 m pc ls (.int x :: .ref (ab_ad w a) :: rest)) := by
  subst ha
  have hmem := List.mem_of_getElem? hci
  have hle := ab_kd10 hci
  obtain ⟨r', q1, q2⟩ := (hR a).1 hle
  obtain rfl : r' = r := Option.some.inj (q1.symm.trans hci)
  obtain ⟨cell, g1, g2, g3, g4⟩ := q2
  have hts := C.2.2.2.2.1
  have hKc := C.2.2.2.2.2.2.1.1 _ _ hci
  have hap : ∀ x y, x < r'.2.2 → y < r'.2.2 → x ≠ y → ((ab_dd w).2 (ab_kd w a)) x ≠ ((ab_dd w).2 (ab_kd w a)) y := by
    intro x y hx hy hne
    obtain ⟨_, _, _, fa, hia, ea⟩ := hKc.1 x hx
    obtain ⟨_, _, _, fb, hib, eb⟩ := hKc.1 y hy
    rw [← ea, ← eb]
    refine u_apart (u_lays hts (ab_lay _ hmem) hx) (u_lays hts (ab_lay _ hmem) hy) hia hib ?_
    rw [(State.fieldFound?_type hia (ab_tyok _ hmem x hx)).1, (State.fieldFound?_type hib (ab_tyok _ hmem y hy)).1]
    exact ab_nmok _ hmem x hx y hy hne
  obtain ⟨hS, hfc, kC, hkC, hkind⟩ := hKc
  obtain ⟨cf, kf, fi, f, hi, hsl⟩ := hS k hk
  have hlay := hts _ (ab_lay _ hmem _ (u_in_lay hk))
  unfold u_lay at hlay
  rw [if_neg (by rw [hfin]; decide)] at hlay
  have hst := (u_facts hfc hkC (u_lays hts (ab_lay _ hmem) hk) hi).1
  have h6 := u_store hfc hkC hkind hlay hi hd hn hfit
  refine W.putK C.1 C.2.1 (f := f) ⟨C.2.2.2.1, hts _ hlink, ⟨_, _, _, hi⟩, hst⟩ (by rw [g2]; exact h6) g1 g3 (by rw [hsl]; exact k2_hasslot (g4 k hk)) rfl rfl dg fun H' e1 e2 e3 => ?_
  rw [hsl] at e1 ⊢
  refine kk H' _ (hR.put C.2.2.2.2.2.2.2.2.1 (by omega) ⟨fun _ => ⟨r', q1, ⟨_, e1, g2, g3, fun j hj => ?_⟩⟩, fun h => ?_, fun h => ?_, fun h => ?_, fun h => ?_⟩ e3) (hS0.put e2 e3 (Or.inl ⟨a, by omega, rfl⟩))
  · rw [t_set g4 hap hk (.int x) j hj]
    by_cases hjk : j = k
    · subst hjk
      simp [updV, ab_fv, hfo, ab_up]
    · simp only [updV, if_neg hjk, ab_fv]
      congr 1
      split <;> simp [ab_up, hjk]
  · rcases h with h | h | h <;> omega
  · omega
  · omega
  · omega
theorem sd_pf (C : ab_Cx p l R s m args meth c w nL cc own d mc) {ci k idx : Nat} {r : vw_C} (hci : vwCl[ci]? = some r) (hk : k < r.2.2) (hfin : (r.2.1 k).2.2.2 = false) (hfo : ab_fo ci k = none) (hd : parseFieldDescriptor (r.2.1 k).2.2.1 = some .int) (hlink : Cond.fieldLink own idx (r.2.1 k).1 (r.2.1 k).2.1 (r.2.1 k).2.2.1 ∈ ab_T) (dg : decode cc pc = .ok (.putfield idx, 3)) (kk : ∀ L st σ, P L st σ → ab_M p l e R s m args below meth c w nL Q (pc + 3) L st σ) : ∀ L st σ, ab_pf w ci k P L st σ → ab_M p l e R s m args below meth c w nL Q pc L st σ := by
  intro L st σ h H locs ls hR hS hL
  unfold ab_pf at h
  split at h
  · exact ab_putf C hci hk hfin hfo hd hlink dg hR hS h.1 rfl rfl (fun H1 locs1 hR1 hS1 => kk _ _ _ h.2 H1 locs1 ls hR1 hS1 hL)
  · exact h.elim
theorem ab_nz {x : Int32} (h : x = 0 ∨ x = 1) : narrow .boolean (.int x) = .int x ∧ fits .boolean (.int x) = true := by
  rcases h with rfl | rfl <;> exact ⟨rfl, rfl⟩
theorem ab_nc {x : Int32} (h : ∃ n, n < 65536 ∧ x = nI n) : narrow .char (.int x) = .int x ∧ fits .char (.int x) = true := by
  obtain ⟨n, hn, rfl⟩ := h
  exact pk_charN hn
theorem sd_pz (C : ab_Cx p l R s m args meth c w nL cc own d mc) {ci k idx : Nat} {r : vw_C} (hci : vwCl[ci]? = some r) (hk : k < r.2.2) (hfin : (r.2.1 k).2.2.2 = false) (hfo : ab_fo ci k = none) (hd : parseFieldDescriptor (r.2.1 k).2.2.1 = some .boolean) (hlink : Cond.fieldLink own idx (r.2.1 k).1 (r.2.1 k).2.1 (r.2.1 k).2.2.1 ∈ ab_T) (dg : decode cc pc = .ok (.putfield idx, 3)) (kk : ∀ L st σ, P L st σ → ab_M p l e R s m args below meth c w nL Q (pc + 3) L st σ) : ∀ L st σ, ab_pz w ci k P L st σ → ab_M p l e R s m args below meth c w nL Q pc L st σ := by
  intro L st σ h H locs ls hR hS hL
  unfold ab_pz at h
  split at h
  · exact ab_putf C hci hk hfin hfo hd hlink dg hR hS h.1 (ab_nz h.2.1).1 (ab_nz h.2.1).2 (fun H1 locs1 hR1 hS1 => kk _ _ _ h.2.2 H1 locs1 ls hR1 hS1 hL)
  · exact h.elim
theorem sd_pc (C : ab_Cx p l R s m args meth c w nL cc own d mc) {ci k idx : Nat} {r : vw_C} (hci : vwCl[ci]? = some r) (hk : k < r.2.2) (hfin : (r.2.1 k).2.2.2 = false) (hfo : ab_fo ci k = none) (hd : parseFieldDescriptor (r.2.1 k).2.2.1 = some .char) (hlink : Cond.fieldLink own idx (r.2.1 k).1 (r.2.1 k).2.1 (r.2.1 k).2.2.1 ∈ ab_T) (dg : decode cc pc = .ok (.putfield idx, 3)) (kk : ∀ L st σ, P L st σ → ab_M p l e R s m args below meth c w nL Q (pc + 3) L st σ) : ∀ L st σ, ab_pc w ci k P L st σ → ab_M p l e R s m args below meth c w nL Q pc L st σ := by
  intro L st σ h H locs ls hR hS hL
  unfold ab_pc at h
  split at h
  · exact ab_putf C hci hk hfin hfo hd hlink dg hR hS h.1 (ab_nc h.2.1).1 (ab_nc h.2.1).2 (fun H1 locs1 hR1 hS1 => kk _ _ _ h.2.2 H1 locs1 ls hR1 hS1 hL)
  · exact h.elim
/-- arrays -/
theorem ab_in_sz {cA : ClassId} {n : Nat} {f : Nat → Value} {i : Int32} (h : vp_in i n) : ¬ (i < 0 ∨ (arrV cA n f).slots.size ≤ i.toNatClampNeg) := by rw [arrV_size]; exact h
theorem ab_in_rd {cA : ClassId} {n : Nat} {f : Nat → Value} {i : Int32} (h : vp_in i n) : (arrV cA n f).slots[i.toNatClampNeg]? = some (f i.toNatClampNeg) := arrV_read _ _ (Nat.not_le.mp fun q => h (Or.inr q))
theorem sd_iaw (C : ab_Cx p l R s m args meth c w nL cc own d mc) (kd i0 : Nat) (hk : ab_ai kd) (ht : (ab_tys w)[i0]? = some (ab_ca w kd, .int)) (dg : decode cc pc = .ok (.iaload, 1)) (kk : ∀ L st σ, P L st σ → ab_M p l e R s m args below meth c w nL Q (pc + 1) L st σ) : ∀ L st σ, ab_ia w kd P L st σ → ab_M p l e R s m args below meth c w nL Q pc L st σ := by
  intro L st σ h H locs ls hR hS hL
  unfold ab_ia at h
  split at h
  · exact W.iald (v := .int _) C.1 C.2.1 (hR.arr h.1 hk) (C.2.2.2.2.2.2.1.arr i0 ht _ _) (fun q => by cases q) (ab_in_sz h.2.1) (ab_in_rd h.2.1) rfl rfl dg (kk _ _ _ h.2.2 H locs ls hR hS hL)
  · exact h.elim
theorem sd_ia (C : ab_Cx p l R s m args meth c w nL cc own d mc) (dg : decode cc pc = .ok (.iaload, 1)) (kk : ∀ L st σ, P L st σ → ab_M p l e R s m args below meth c w nL Q (pc + 1) L st σ) : ∀ L st σ, ab_ia w 11 P L st σ → ab_M p l e R s m args below meth c w nL Q pc L st σ := sd_iaw C 11 0 (Or.inl rfl) rfl dg kk
theorem sd_ia20 (C : ab_Cx p l R s m args meth c w nL cc own d mc) (dg : decode cc pc = .ok (.iaload, 1)) (kk : ∀ L st σ, P L st σ → ab_M p l e R s m args below meth c w nL Q (pc + 1) L st σ) : ∀ L st σ, ab_ia w 20 P L st σ → ab_M p l e R s m args below meth c w nL Q pc L st σ := by
  intro L st σ h H locs ls hR hS hL
  unfold ab_ia at h
  split at h
  · next i a r =>
    obtain ⟨cell, g1, g2, g3, g4, g5, g6⟩ := (hR a).2.2.2.2 h.1
    have hi : i.toNatClampNeg < ab_ln w a := Nat.not_le.mp fun q => h.2.1 (Or.inr q)
    have hin : ¬ (i < 0 ∨ cell.slots.size ≤ i.toNatClampNeg) := fun q => q.elim (fun q => h.2.1 (Or.inl q)) (fun q => absurd (Nat.lt_of_lt_of_le hi g5) (Nat.not_lt.mpr q))
    have hty : s.isArrayOf cell .int := ⟨g4, by
      rw [g2]
      unfold ab_cr
      split
      · exact (C.2.2.2.2.2.2.1.arr 6 rfl 0 (fun _ => .int 0)).2
      · exact (C.2.2.2.2.2.2.1.arr 5 rfl 0 (fun _ => .int 0)).2⟩
    exact W.iald (v := .int _) C.1 C.2.1 g1 hty g3 hin (g6 _ hi) rfl rfl dg (kk _ _ _ h.2.2 H locs ls hR hS hL)
  · exact h.elim
theorem sd_ca (C : ab_Cx p l R s m args meth c w nL cc own d mc) (dg : decode cc pc = .ok (.caload, 1)) (kk : ∀ L st σ, P L st σ → ab_M p l e R s m args below meth c w nL Q (pc + 1) L st σ) : ∀ L st σ, ab_ia w 12 P L st σ → ab_M p l e R s m args below meth c w nL Q pc L st σ := by
  intro L st σ h H locs ls hR hS hL
  unfold ab_ia at h
  split at h
  · exact W.cald (v := .int _) C.1 C.2.1 (hR.arr h.1 (Or.inr (Or.inl rfl))) (C.2.2.2.2.2.2.1.arr 1 rfl _ _) (fun q => by cases q) (ab_in_sz h.2.1) (ab_in_rd h.2.1) rfl rfl dg (kk _ _ _ h.2.2 H locs ls hR hS hL)
  · exact h.elim
theorem sd_aa (C : ab_Cx p l R s m args meth c w nL cc own d mc) (dg : decode cc pc = .ok (.aaload, 1)) (kk : ∀ L st σ, P L st σ → ab_M p l e R s m args below meth c w nL Q (pc + 1) L st σ) : ∀ L st σ, ab_aa w P L st σ → ab_M p l e R s m args below meth c w nL Q pc L st σ := by
  intro L st σ h H locs ls hR hS hL
  unfold ab_aa at h
  split at h
  · next i a r => exact W.aald (v := .ref _) (ty := .object "SondeStations$Net") C.1 C.2.1 ((hR a).2.2.1 h.1) (C.2.2.2.2.2.2.1.arr 3 rfl _ _) rfl (fun q => by cases q) (ab_in_sz h.2.1) (ab_in_rd h.2.1) rfl rfl dg (kk _ _ _ h.2.2 H locs ls hR hS hL)
  · exact h.elim
theorem ab_Rep.sta {σ : ab_H} {H H1 : Heap} {a k : Nat} {x : Int32} (h : ab_Rep w σ H) (hI : ab_Inj w) {kd : Nat} (ha : ab_kd w a = kd) (hk : ab_ai kd) (hself : H1[ab_ad w a]? = some ((arrV (ab_ca w kd) (ab_ln w a) (fun j => .int (σ a j))).setSlot k (.int x))) (oq : ∀ q, q ≠ ab_ad w a → H1[q]? = H[q]?) : ab_Rep w (ab_up σ a k x) H1 := by
  subst ha
  refine h.put hI (by rcases hk with h | h | h <;> omega) ⟨fun q => ?_, fun _ => ?_, fun q => ?_, fun q => ?_, fun q => ?_⟩ oq
  · rcases hk with h | h | h <;> omega
  · rw [hself, ab_arr_st]
  · rcases hk with h | h | h <;> omega
  · rcases hk with h | h | h <;> omega
  · rcases hk with h | h | h <;> omega
theorem sd_is (C : ab_Cx p l R s m args meth c w nL cc own d mc) (dg : decode cc pc = .ok (.iastore, 1)) (kk : ∀ L st σ, P L st σ → ab_M p l e R s m args below meth c w nL Q (pc + 1) L st σ) : ∀ L st σ, ab_is w P L st σ → ab_M p l e R s m args below meth c w nL Q pc L st σ := by
  intro L st σ h H locs ls hR hS hL
  unfold ab_is at h
  split at h
  · next x i a r =>
    refine W.iast C.1 C.2.1 (hR.arr h.1 (Or.inl rfl)) (C.2.2.2.2.2.2.1.arr 0 rfl _ _) (fun q => by cases q) (ab_in_sz h.2.1) rfl rfl dg fun H1 e1 z oq => ?_
    exact kk _ _ _ h.2.2 H1 _ ls (hR.sta C.2.2.2.2.2.2.2.2.1 h.1 (Or.inl rfl) e1 oq) (hS.put z oq (Or.inl ⟨a, by omega, rfl⟩)) hL
  · exact h.elim
theorem sd_cs (C : ab_Cx p l R s m args meth c w nL cc own d mc) (dg : decode cc pc = .ok (.castore, 1)) (kk : ∀ L st σ, P L st σ → ab_M p l e R s m args below meth c w nL Q (pc + 1) L st σ) : ∀ L st σ, ab_cs w P L st σ → ab_M p l e R s m args below meth c w nL Q pc L st σ := by
  intro L st σ h H locs ls hR hS hL
  unfold ab_cs at h
  split at h
  · next x i a r =>
    refine W.cast C.1 C.2.1 (hR.arr h.1 (Or.inr (Or.inl rfl))) (C.2.2.2.2.2.2.1.arr 1 rfl _ _) (fun q => by cases q) (ab_in_sz h.2.1) rfl rfl dg fun H1 e1 z oq => ?_
    rw [(ab_nc h.2.2.1).1] at e1
    exact kk _ _ _ h.2.2.2 H1 _ ls (hR.sta C.2.2.2.2.2.2.2.2.1 h.1 (Or.inr (Or.inl rfl)) e1 oq) (hS.put z oq (Or.inl ⟨a, by omega, rfl⟩)) hL
  · exact h.elim
theorem sd_alw (C : ab_Cx p l R s m args meth c w nL cc own d mc) (kd i0 : Nat) (hk : ab_ai kd) (ty : FieldType) (ht : (ab_tys w)[i0]? = some (ab_ca w kd, ty)) (dg : decode cc pc = .ok (.arraylength, 1)) (kk : ∀ L st σ, P L st σ → ab_M p l e R s m args below meth c w nL Q (pc + 1) L st σ) : ∀ L st σ, ab_al w kd P L st σ → ab_M p l e R s m args below meth c w nL Q pc L st σ := by
  intro L st σ h H locs ls hR hS hL
  unfold ab_al at h
  split at h
  · next a r => exact W.alen (n := nI (ab_ln w a)) C.1 C.2.1 (hR.arr h.1 hk) (C.2.2.2.2.2.2.1.arr i0 ht _ _) (by rw [arrV_size]; rfl) rfl rfl dg (kk _ _ _ h.2 H locs ls hR hS hL)
  · exact h.elim
theorem sd_gs (C : ab_Cx p l R s m args meth c w nL cc own d mc) {v idx : Nat} {host nm : String} (hZ : ab_kd w v = 20 → va_Z "SondeStations" nm "[I" (.ref (ab_ad w v)) (ab_A w s.heap.size) s s.heap) (hlink : Cond.fieldLinkNest own idx "SondeStations" nm "[I" host ∈ ab_N) (dg : decode cc pc = .ok (.getstatic idx, 3)) (kk : ∀ L st σ, P L st σ → ab_M p l e R s m args below meth c w nL Q (pc + 3) L st σ) : ∀ L st σ, ab_gs w v P L st σ → ab_M p l e R s m args below meth c w nL Q pc L st σ := by
  intro L st σ h H locs ls hR hS hL
  exact va_getsN C.1 C.2.1 (hZ h.1) hS C.2.2.2.1 ((C.2.2.2.2.2.2.2.1.2.2.2.2.2 _ hlink).use rfl) (fun x hx => hx) dg (kk _ _ _ h.2 H locs ls hR hS hL)
/-- switches -/
theorem ab_swl_cases {D : ab_P} {x : Int32} {L st : List Value} {σ : ab_H} : ∀ (cs : List (Int32 × ab_P)), ab_swl cs D x L st σ → (∃ q ∈ cs, x = q.1 ∧ q.2 L st σ) ∨ ((∀ q ∈ cs, ¬ x = q.1) ∧ D L st σ)
  | [], h => Or.inr ⟨fun _ q => (nomatch q), h⟩
  | (k, Pk) :: r, h => by
    obtain ⟨h1, h2⟩ := h
    by_cases hx : x = k
    · exact Or.inl ⟨_, List.mem_cons_self, hx, h1 hx⟩
    · rcases ab_swl_cases r (h2 hx) with ⟨q, q1, q2⟩ | ⟨q1, q2⟩
      · exact Or.inl ⟨q, List.mem_cons_of_mem _ q1, q2⟩
      · exact Or.inr ⟨fun q hq => (List.mem_cons.mp hq).elim (fun e => by rw [e]; exact hx) (q1 q), q2⟩
theorem sd_table (C : ab_Cx p l R s m args meth c w nL cc own d mc) {df lo hi : Int} {offs : Array Int} {len td : Nat} {cs : List (Int32 × ab_P)} {D : ab_P} (dg : decode cc pc = .ok (.tableswitch df lo hi offs, len)) (n : Nat) (hkeys : cs.map (fun q => q.1) = (List.range n).map (fun j : Nat => Int32.ofInt (lo + j))) (hhi : hi = lo + n - 1)
    (hc : ∀ q ∈ cs, ∃ (off : Int) (tgt : Nat), ¬ q.1.toInt < lo ∧ ¬ hi < q.1.toInt ∧ offs[(q.1.toInt - lo).toNat]? = some off ∧ (pc : Int) + off = (tgt : Int) ∧ ∀ L st σ, q.2 L st σ → ab_M p l e R s m args below meth c w nL Q tgt L st σ)
    (htd : (pc : Int) + df = (td : Int)) (kd : ∀ L st σ, D L st σ → ab_M p l e R s m args below meth c w nL Q td L st σ) : ∀ L st σ, ab_sw cs D L st σ → ab_M p l e R s m args below meth c w nL Q pc L st σ := by
  intro L st σ h H locs ls hR hS hL
  unfold ab_sw at h
  split at h
  · next x r =>
    rcases ab_swl_cases cs h with ⟨q, q1, rfl, q2⟩ | ⟨q1, q2⟩
    · obtain ⟨off, tgt, a1, a2, a3, a4, a5⟩ := hc q q1
      exact lv_tableIn C.1 C.2.1 dg a1 a2 a3 a4 (a5 _ _ _ q2 H locs ls hR hS hL)
    · refine lv_tableOut C.1 C.2.1 dg ?_ htd (kd _ _ _ q2 H locs ls hR hS hL)
      refine Classical.byContradiction fun hn => ?_
      simp only [not_or, Int.not_lt] at hn
      have hm : x ∈ (List.range n).map (fun j : Nat => Int32.ofInt (lo + j)) := by
        refine List.mem_map.mpr ⟨(x.toInt - lo).toNat, List.mem_range.mpr (by omega), ?_⟩
        rw [show lo + (((x.toInt - lo).toNat : Nat) : Int) = x.toInt by omega]
        simp
      rw [← hkeys] at hm
      obtain ⟨q, b1, b2⟩ := List.mem_map.mp hm
      exact q1 q b1 b2.symm
  · exact h.elim
theorem ab_off_none {df : Int} {x : Int} : ∀ (ps : List (Int × Int)), (∀ q ∈ ps, ¬ q.1 = x) → Op.lookupswitch.offset ps df x = df
  | [], _ => rfl
  | (a, o) :: r, h => by
    rw [Op.lookupswitch.offset_cons, if_neg (h (a, o) List.mem_cons_self)]
    exact ab_off_none r fun q hq => h q (List.mem_cons_of_mem _ hq)
theorem sd_lookup (C : ab_Cx p l R s m args meth c w nL cc own d mc) {df : Int} {ps : Array (Int × Int)} {len td : Nat} {cs : List (Int32 × ab_P)} {D : ab_P} (dg : decode cc pc = .ok (.lookupswitch df ps, len)) (hp : (ps.toList.zip (ps.toList.drop 1)).all (fun (a, next) => a.1 < next.1) = true) (hkeys : ps.toList.map (fun q => q.1) = cs.map (fun q => q.1.toInt))
    (hc : ∀ q ∈ cs, ∃ (off : Int) (tgt : Nat), Op.lookupswitch.offset ps.toList df q.1.toInt = off ∧ (pc : Int) + off = (tgt : Int) ∧ ∀ L st σ, q.2 L st σ → ab_M p l e R s m args below meth c w nL Q tgt L st σ)
    (htd : (pc : Int) + df = (td : Int)) (kd : ∀ L st σ, D L st σ → ab_M p l e R s m args below meth c w nL Q td L st σ) : ∀ L st σ, ab_sw cs D L st σ → ab_M p l e R s m args below meth c w nL Q pc L st σ := by
  intro L st σ h H locs ls hR hS hL
  unfold ab_sw at h
  split at h
  · next x r =>
    rcases ab_swl_cases cs h with ⟨q, q1, rfl, q2⟩ | ⟨q1, q2⟩
    · obtain ⟨off, tgt, a3, a4, a5⟩ := hc q q1
      exact lv_lookup C.1 C.2.1 dg hp a3 a4 (a5 _ _ _ q2 H locs ls hR hS hL)
    · refine lv_lookup C.1 C.2.1 dg hp (ab_off_none _ fun q hq he => ?_) htd (kd _ _ _ q2 H locs ls hR hS hL)
      have hm : q.1 ∈ ps.toList.map (fun q => q.1) := List.mem_map.mpr ⟨q, hq, rfl⟩
      rw [hkeys] at hm
      obtain ⟨z, b1, b2⟩ := List.mem_map.mp hm
      exact q1 z b1 (Int32.toInt_inj.mp (he.symm.trans b2.symm))
  · exact h.elim
end ABS2
