/-! the script's steps, constants, the law's end -/
def la_aln (P : Nat → la_P) : la_P := fun L st X => match st with
  | .ref a :: r => a = 2 ∧ ∀ n, n ≤ 260 → P n L (.int (nI n) :: r) X
  | _ => False
def la_scr (n : Nat) (P : la_P) : la_P := fun L st X => match st with
  | .int i :: .ref a :: r => a = 2 ∧ (∃ j, i = nI j ∧ j < n ∧ n ≤ 260) ∧ ∀ x, P L (.int x :: r) X
  | _ => False
def la_end (mc : Nat) : la_P := fun _ st X => X.2 ≤ mc ∧ st = [.int (nI 1)]
section LAT
variable {p : Program} {l : Launch} {e : Env} {R : Room} {s : State} {m : MethodId} {args : Array Value} {below : List Frame} {meth : Method} {c : Code} {Y : lW} {nL d lo mc : Nat} {cc : ByteArray} {own : String} {Q : State → Prop} {pc : Nat} {P : la_P}
theorem sl_aln {P : Nat → la_P} (C : la_Cx p l R s m args meth c Y nL cc own d lo mc) (dg : decode cc pc = .ok (.arraylength, 1)) (kk : ∀ n, n ≤ 260 → (∃ xs, va_X (ab_ad Y.1 2) n xs s s.heap) → ∀ L st σ, P n L st σ → la_M p l e R s m args below meth c Y nL Q (pc + 1) L st σ) : ∀ L st σ, la_aln P L st σ → la_M p l e R s m args below meth c Y nL Q pc L st σ := by
  intro L st σ h H locs ls hR hS hL
  unfold la_aln at h
  split at h
  · obtain ⟨rfl, h⟩ := h
    obtain ⟨h1, h2, n, xs, h3, h4⟩ := C.2.2.2.2.2.2.1.2.2
    exact va_slen C.1 C.2.1 h4 h1 h2 hS dg (kk n h3 ⟨xs, h4⟩ _ _ _ (h n h3) H locs ls hR hS hL)
  · exact h.elim
theorem sl_scr {n : Nat} (C : la_Cx p l R s m args meth c Y nL cc own d lo mc) (hn : ∃ xs, va_X (ab_ad Y.1 2) n xs s s.heap) (dg : decode cc pc = .ok (.iaload, 1)) (kk : ∀ L st σ, P L st σ → la_M p l e R s m args below meth c Y nL Q (pc + 1) L st σ) : ∀ L st σ, la_scr n P L st σ → la_M p l e R s m args below meth c Y nL Q pc L st σ := by
  intro L st σ h H locs ls hR hS hL
  unfold la_scr at h
  split at h
  · obtain ⟨rfl, ⟨j, rfl, hj, hj2⟩, h⟩ := h
    obtain ⟨xs, h4⟩ := hn
    obtain ⟨h1, h2, -⟩ := C.2.2.2.2.2.2.1.2.2
    exact va_sld C.1 C.2.1 h4 h1 h2 hS (vp_in_nI hj (by omega)) dg (kk _ _ _ (h _) H locs ls hR hS hL)
  · exact h.elim
end LAT
theorem ql_aln {P : Nat → la_P} {L st : List Value} {X : lX} : la_aln P L (.ref 2 :: st) X = ∀ n, n ≤ 260 → P n L (.int (nI n) :: st) X := by
  show ((2 : Addr) = 2 ∧ _) = _
  simp
theorem ql_scr {n j : Nat} {P : la_P} {L st : List Value} {X : lX} (hj : j < n) (hn : n ≤ 260) : la_scr n P L (.int (nI j) :: .ref 2 :: st) X = ∀ x, P L (.int x :: st) X := by
  show ((2 : Addr) = 2 ∧ (∃ j', nI j = nI j' ∧ j' < n ∧ n ≤ 260) ∧ _) = _
  exact propext ⟨fun h => h.2.2, fun h => ⟨rfl, ⟨j, rfl, hj, hn⟩, h⟩⟩
