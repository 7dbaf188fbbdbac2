section BLD3
variable {p : Program} {l : Launch} {e : Env} {R : Room} {s : State} {m : MethodId} {args : Array Value} {below : List Frame} {meth : Method} {c : Code} {nL : Nat} {cc : ByteArray} {own : String} {Q : State → Prop} {pc : Nat} {w : bW} {h0 ci : Nat} {lv : List (Nat × Value)} {st : List Value} {fs : List Value} {cs : List bC} {k n d mc ms : Nat}
theorem bs_ild (C : bCx p R s m args meth c w nL cc own h0 d mc ms) (q : Nat) {kf : Fin 4} {i : Nat} {x : Int32} (dg : decode cc pc = .ok (.iload_n kf, 1)) (hi : (kf : Nat) = i) (hl : lv[q]? = some (i, .int x)) (kk : bM p l e R s m args below meth c w nL Q h0 ci lv (.int x :: st) fs cs k n (pc + 1)) : bM p l e R s m args below meth c w nL Q h0 ci lv st fs cs k n pc :=
  fun H locs ls hR hS hL => lv_iload_n C.1 C.2.1 dg hi (lv_at hL q hl) (kk H locs ls hR hS hL)
theorem bs_ist (C : bCx p R s m args meth c w nL cc own h0 d mc ms) {kf : Fin 4} {i : Nat} {x : Int32} {lv' : List (Nat × Value)} (dg : decode cc pc = .ok (.istore_n kf, 1)) (hi : (kf : Nat) = i) (hn : i < nL) (hl : (i, Value.int x) :: lv.filter (fun q => !(q.1 == i) && !(q.1 + 1 == i && q.2.category == 2)) = lv') (kk : bM p l e R s m args below meth c w nL Q h0 ci lv' st fs cs k n (pc + 1)) : bM p l e R s m args below meth c w nL Q h0 ci lv (.int x :: st) fs cs k n pc :=
  fun H locs ls hR hS hL => lv_istore_n C.1 C.2.1 dg hi hL hn hl (fun ls' hl' => kk H locs ls' hR hS hl')
theorem bs_inc (C : bCx p R s m args meth c w nL cc own h0 d mc ms) (q : Nat) {i : Nat} {v : Int} {x y : Int32} {lv' : List (Nat × Value)} (dg : decode cc pc = .ok (.iinc i v, 3)) (hk : lv[q]? = some (i, .int x)) (hv : x + Int32.ofInt v = y) (hn : i < nL) (hl : (i, Value.int y) :: lv.filter (fun q => !(q.1 == i) && !(q.1 + 1 == i && q.2.category == 2)) = lv') (kk : bM p l e R s m args below meth c w nL Q h0 ci lv' st fs cs k n (pc + 3)) : bM p l e R s m args below meth c w nL Q h0 ci lv st fs cs k n pc :=
  fun H locs ls hR hS hL => lv_iinc C.1 C.2.1 dg hL hk hv hn hl (fun ls' hl' => kk H locs ls' hR hS hl')
theorem bs_ge (C : bCx p R s m args meth c w nL cc own h0 d mc ms) {x y : Int32} {off : Int} {tgt : Nat} (dg : decode cc pc = .ok (.if_icmp .ge off, 3)) (ht : (pc : Int) + off = (tgt : Int)) (kt : y ≤ x → bM p l e R s m args below meth c w nL Q h0 ci lv st fs cs k n tgt) (kf : ¬ y ≤ x → bM p l e R s m args below meth c w nL Q h0 ci lv st fs cs k n (pc + 3)) : bM p l e R s m args below meth c w nL Q h0 ci lv (.int y :: .int x :: st) fs cs k n pc :=
  fun H locs ls hR hS hL => lv_icmp_ge C.1 C.2.1 dg ht (fun q => kt q H locs ls hR hS hL) (fun q => kf q H locs ls hR hS hL)
theorem bs_goto (C : bCx p R s m args meth c w nL cc own h0 d mc ms) {off : Int} {tgt : Nat} (dg : decode cc pc = .ok (.goto off, 3)) (ht : (pc : Int) + off = (tgt : Int)) (kk : bM p l e R s m args below meth c w nL Q h0 ci lv st fs cs k n tgt) : bM p l e R s m args below meth c w nL Q h0 ci lv st fs cs k n pc :=
  fun H locs ls hR hS hL => lv_goto C.1 C.2.1 dg ht (kk H locs ls hR hS hL)
theorem bs_getF (C : bCx p R s m args meth c w nL cc own h0 d mc ms) {f index : Nat} {r : vw_C} {v : Value} (hr : vwCl[ci]? = some r) (dg : decode cc pc = .ok (.getfield index, 3)) (hf : f < r.2.2) (hlink : Cond.fieldLink own index (r.2.1 f).1 (r.2.1 f).2.1 (r.2.1 f).2.2.1 ∈ ab_T) (hv : fs[f]? = some v) (kk : bM p l e R s m args below meth c w nL Q h0 ci lv (v :: st) fs cs k n (pc + 3)) : bM p l e R s m args below meth c w nL Q h0 ci lv (.ref h0 :: st) fs cs k n pc := by
  intro H locs ls hR hS hL
  have hts := C.2.2.2.2.1
  have hP : va_P w.1 vwCl [(h0, .inr (ci, fs))] H := fun j q hq => by
    have hlt := (List.getElem?_eq_some_iff.mp hq).1
    rw [List.length_singleton] at hlt
    obtain rfl : j = 0 := by omega
    cases hq
    exact hR.1
  exact va_get (C := r.1) (T := r.2.1) (N := r.2.2) C.1 C.2.1 hts (ab_lay _ (List.mem_of_getElem? hr)) C.2.2.2.1 C.2.2.2.2.2.2.1 hP 0 rfl hr f hf (hts _ hlink) (fun _ h => h) hv dg (kk H locs ls hR hS hL)
theorem bs_newq (C : bCx p R s m args meth c w nL cc own h0 d mc ms) {index N : Nat} {x : Int32} (dg : decode cc pc = .ok (.anewarray index, 3)) (hcl : Cond.classLink own index "SondeStations$Net" ∈ ab_T) (hn : ¬ x < 0) (hN : x.toNatClampNeg = N) (hby : N * 4 ≤ 536870912) (hk : k + 1 ≤ mc) (hs : n + N ≤ ms) (kk : bM p l e R s m args below meth c w nL Q h0 ci lv (.ref (s.heap.size + cs.length) :: st) fs (cs ++ [.inr (w.2 14, N, fun _ => .null)]) (k + 1) (n + N) (pc + 3)) : bM p l e R s m args below meth c w nL Q h0 ci lv (.int x :: st) fs cs k n pc := by
  intro H locs ls hR hS hL
  have hRR := C.2.2.2.2.2.2.2.2.2.2.1
  subst hRR
  subst hN
  have hz := hR.2.1
  refine W.anew C.1 C.2.1 C.2.2.2.1 (C.2.2.2.2.1 _ hcl) (va_AO.use C.2.2.2.2.2.2.2.1.2) rfl dg rfl hn hby hk hs fun cA kA comp f1 f2 f3 f4 => ?_
  obtain ⟨kA', comp', g1, g2, g3, g4⟩ := (C.2.2.2.2.2.2.1.2 3 _ rfl).2
  have hcA : cA = w.2 14 := Option.some.inj (f1.symm.trans g4)
  subst hcA
  generalize hH1 : H.push ({ cls := w.2 14, slots := Array.replicate x.toNatClampNeg .null, vm := .none } : Cell) = H1
  have z1 : H1.size = H.size + 1 := by rw [← hH1, Array.size_push]
  have e1 : H1[H.size]? = some (arrV (w.2 14) x.toNatClampNeg (fun _ => .null)) := by rw [← hH1, Array.getElem?_push_size, ← arrV_new]
  have o1 : ∀ q : Nat, q < H.size → H1[q]? = H[q]? := fun q hq => by rw [← hH1, Array.getElem?_push, if_neg (Nat.ne_of_lt hq)]
  rw [hz] at z1 e1 o1
  rw [show H.size = s.heap.size + cs.length from hz]
  exact kk H1 locs ls (hR.push z1 o1 e1) (bS_push hS hz z1 o1) hL
theorem bs_aas (C : bCx p R s m args meth c w nL cc own h0 d mc ms) {i j q N : Nat} {f : Nat → Value} {vs : List Value} (hj : cs[j]? = some (.inr (w.2 14, N, f))) (hq : cs[q]? = some (.inl (3, vs))) (hi : i < N) (hi2 : i < 2 ^ 31) (dg : decode cc pc = .ok (.aastore, 1)) (kk : bM p l e R s m args below meth c w nL Q h0 ci lv st fs (cs.set j (.inr (w.2 14, N, updV f i (.ref (s.heap.size + q))))) k n (pc + 1)) : bM p l e R s m args below meth c w nL Q h0 ci lv (.ref (s.heap.size + q) :: .int (nI i) :: .ref (s.heap.size + j) :: st) fs cs k n pc := by
  intro H locs ls hR hS hL
  have hc := hR.2.2 _ _ hj
  have hn : (nI i).toNatClampNeg = i := cl_nI hi2
  obtain ⟨r', hr', cellV, g1, g2, g3, -⟩ := hR.2.2 _ _ hq
  have hr3 : vwCl[3]? = some (RX3, TX3, 13) := rfl
  have hcls := (C.2.2.2.2.2.2.1.1 3 _ hr3).2
  obtain ⟨kA, comp, k1, k2, k3, -⟩ := (C.2.2.2.2.2.2.1.2 3 _ rfl).2
  have hcomp : comp = w.1.1 3 := Option.some.inj (k3.symm.trans hcls.1)
  subst hcomp
  obtain ⟨kC, hkC, -⟩ := hcls.2
  refine W.aast C.1 C.2.1 hc (fun q h => by cases h) (fun h => by cases h) k1 k2 rfl hkC ⟨nI_pos hi2, by rw [hn]; show _ < (arrV _ _ _).slots.size; rw [arrV_size]; exact hi⟩ g1 (fun q h => by rw [g3] at h; cases h) (by rw [g2]; exact hkC) (by rw [g2]; exact va_assign hcls) rfl rfl dg fun H1 e1 z oq => ?_
  rw [hn, arrV_store] at e1
  exact kk H1 _ ls (hR.set C.2.2.2.2.2.2.2.2.1 (List.getElem?_eq_some_iff.mp hj).1 z oq e1) (hS.put z oq (Or.inr (Nat.le_add_right _ _))) hL
end BLD3
