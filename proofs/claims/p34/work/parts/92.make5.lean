section BLD4
variable {p : Program} {l : Launch} {e : Env} {R : Room} {s : State} {m : MethodId} {args : Array Value} {below : List Frame} {meth : Method} {c : Code} {nL : Nat} {cc : ByteArray} {own : String} {Q : State → Prop} {pc : Nat} {w : bW} {h0 ci : Nat} {fs : List Value} {cs : List bC} {k n d mc ms : Nat}
/-- this.f = new C() -/
theorem bs_obj (C : bCx p R s m args meth c w nL cc own h0 d mc ms) {L f i1 i2 i3 ci' k' n' d' maxL : Nat} {r r' : vw_C} {y : MethodName} {bytes : ByteArray} {fs0 : List Value} {f1 : bW → Nat → List Value} {c1 : bW → Nat → List bC} {ty : FieldType} {lv : List (Nat × Value)} (hlen : cs.length = L)
    (hlink : Cond.methodLink own i2 y ∈ ab_T ∨ ∃ host, Cond.methodLinkNest own i2 y host ∈ ab_N) (hr : vwCl[ci]? = some r) (hr' : vwCl[ci']? = some r')
    (d1 : decode cc pc = .ok (.aload_n 0, 1)) (d2 : decode cc (pc + 1) = .ok (.new i1, 3)) (d3 : decode cc (pc + 4) = .ok (.dup, 1)) (d4 : decode cc (pc + 5) = .ok (.invokespecial i2, 3)) (d5 : decode cc (pc + 8) = .ok (.putfield i3, 3))
    (tyf : Nat → FieldType) (hty : ∀ k, k < r'.2.2 → parseFieldDescriptor (r'.2.1 k).2.2.1 = some (tyf k)) (hcl : Cond.classLink own i1 r'.1 ∈ ab_T) (hinst : Cond.instantiable r'.1 r'.2.2 ∈ ab_T) (hini : Cond.initialized r'.1 ∈ ab_T) (hfs : ∀ j, j < r'.2.2 → defaultValue (tyf j) = vp_V fs0 j)
    (hC : bCon l y (Cond.code y bytes maxL none) d' k' n' ci' fs0 f1 c1) (hB : bCB d d' y bytes maxL)
    (hf : f < r.2.2) (hfin : (r.2.1 f).2.2.2 = true) (hdecl : (r.2.1 f).1 = own) (hfl : Cond.fieldLink own i3 (r.2.1 f).1 (r.2.1 f).2.1 (r.2.1 f).2.2.1 ∈ ab_T) (hd : parseFieldDescriptor (r.2.1 f).2.2.1 = some ty) (hfit : ∀ a, narrow ty (.ref a) = .ref a ∧ fits ty (.ref a) = true) (hl : f < fs.length)
    (hk : k + 1 + k' ≤ mc) (hs : n + r'.2.2 + n' ≤ ms)
    (kk : bM p l e R s m args below meth c w nL Q h0 ci ((0, .ref h0) :: lv) [] (fs.set f (.ref (s.heap.size + L))) ((cs ++ [.inl (ci', f1 w (s.heap.size + L + 1))]) ++ c1 w (s.heap.size + L + 1)) (k + 1 + k') (n + r'.2.2 + n') (pc + 11)) : bM p l e R s m args below meth c w nL Q h0 ci ((0, .ref h0) :: lv) [] fs cs k n pc := by
  subst hlen
  refine bs_ald C 0 d1 rfl rfl ?_
  refine bs_new C hr' d2 tyf hty hcl hinst hini hfs (by omega) (by omega) ?_
  refine bs_dup C d3 rfl ?_
  have tail : bM p l e R s m args below meth c w nL Q h0 ci ((0, .ref h0) :: lv) [.ref (s.heap.size + cs.length), .ref h0] fs ((cs ++ [.inl (ci', f1 w (s.heap.size + cs.length + 1))]) ++ c1 w (s.heap.size + cs.length + 1)) (k + 1 + k') (n + r'.2.2 + n') (pc + 8) :=
    bs_putF C hr d5 hf hfin hdecl hfl hd (hfit _).1 (hfit _).2 hl kk
  rcases hlink with h | ⟨host, h⟩
  · exact bs_call C hC hB h d4 (Nat.le_of_ble_eq_true rfl) hk hs tail
  · exact bs_callN C hC hB h d4 (Nat.le_of_ble_eq_true rfl) hk hs tail
end BLD4
