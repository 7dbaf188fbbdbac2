/-! steps of the law's machine -/
def la_ci (x : Int32) (P : la_P) : la_P := fun L st σ => P L (.int x :: st) σ
def la_cl (x : Int64) (P : la_P) : la_P := fun L st σ => P L (.long x :: st) σ
def la_ild (i : Nat) (P : la_P) : la_P := fun L st σ => match ab_gl L i with
  | .int x => P L (.int x :: st) σ
  | _ => False
def la_lld (i : Nat) (P : la_P) : la_P := fun L st σ => match ab_gl L i with
  | .long x => P L (.long x :: st) σ
  | _ => False
def la_ald (i : Nat) (P : la_P) : la_P := fun L st σ => match ab_gl L i with
  | .ref x => P L (.ref x :: st) σ
  | _ => False
def la_ist (i : Nat) (P : la_P) : la_P := fun L st σ => match st, ab_k1 L i with
  | .int x :: r, true => P (ab_sl L i (.int x)) r σ
  | _, _ => False
def la_lst (i : Nat) (P : la_P) : la_P := fun L st σ => match st, ab_k1 L i with
  | .long x :: r, true => P (ab_sl (ab_sl L (i + 1) .null) i (.long x)) r σ
  | _, _ => False
def la_inc (i : Nat) (c : Int32) (P : la_P) : la_P := fun L st σ => match ab_gl L i, ab_k1 L i with
  | .int x, true => P (ab_sl L i (.int (x + c))) st σ
  | _, _ => False
def la_b2 (f : Int32 → Int32 → Int32) (P : la_P) : la_P := fun L st σ => match st with
  | .int y :: .int x :: r => P L (.int (f x y) :: r) σ
  | _ => False
def la_d2 (f : Int32 → Int32 → Int32) (P : la_P) : la_P := fun L st σ => match st with
  | .int y :: .int x :: r => ¬ y = 0 ∧ P L (.int (f x y) :: r) σ
  | _ => False
def la_u1 (f : Int32 → Int32) (P : la_P) : la_P := fun L st σ => match st with
  | .int x :: r => P L (.int (f x) :: r) σ
  | _ => False
def la_l2 (f : Int64 → Int64 → Int64) (P : la_P) : la_P := fun L st σ => match st with
  | .long y :: .long x :: r => P L (.long (f x y) :: r) σ
  | _ => False
def la_ld2 (f : Int64 → Int64 → Int64) (P : la_P) : la_P := fun L st σ => match st with
  | .long y :: .long x :: r => ¬ y = 0 ∧ P L (.long (f x y) :: r) σ
  | _ => False
def la_lsh (f : Int64 → Int32 → Int64) (P : la_P) : la_P := fun L st σ => match st with
  | .int y :: .long x :: r => P L (.long (f x y) :: r) σ
  | _ => False
def la_lcmp (P : la_P) : la_P := fun L st σ => match st with
  | .long y :: .long x :: r => P L (.int (lg_cmp x y) :: r) σ
  | _ => False
def la_i2l (P : la_P) : la_P := fun L st σ => match st with
  | .int x :: r => P L (.long x.toInt64 :: r) σ
  | _ => False
def la_l2i (P : la_P) : la_P := fun L st σ => match st with
  | .long x :: r => P L (.int x.toInt32 :: r) σ
  | _ => False
def la_if1 (cnd : Int32 → Prop) (P Q : la_P) : la_P := fun L st σ => match st with
  | .int x :: r => (cnd x → P L r σ) ∧ (¬ cnd x → Q L r σ)
  | _ => False
def la_if2 (cnd : Int32 → Int32 → Prop) (P Q : la_P) : la_P := fun L st σ => match st with
  | .int y :: .int x :: r => (cnd x y → P L r σ) ∧ (¬ cnd x y → Q L r σ)
  | _ => False
def la_swl : List (Int32 × la_P) → la_P → Int32 → la_P
  | [], D, _ => D
  | (k, P) :: r, D, x => fun L st σ => (x = k → P L st σ) ∧ (¬ x = k → la_swl r D x L st σ)
def la_sw (cs : List (Int32 × la_P)) (D : la_P) : la_P := fun L st σ => match st with
  | .int x :: r => la_swl cs D x L r σ
  | _ => False
def la_pop (P : la_P) : la_P := fun L st σ => match st with
  | .int _ :: r => P L r σ
  | .ref _ :: r => P L r σ
  | _ => False
theorem ql_ci {P : la_P} {L st : List Value} {σ : lX} {x : Int32} : la_ci x P L st σ = P L (.int x :: st) σ := rfl
theorem ql_cl {P : la_P} {L st : List Value} {σ : lX} {x : Int64} : la_cl x P L st σ = P L (.long x :: st) σ := rfl
theorem ql_ild {P : la_P} {L st : List Value} {σ : lX} {i : Nat} : la_ild i P L st σ = (match ab_gl L i with
  | .int x => P L (.int x :: st) σ
  | _ => False) := rfl
theorem ql_lld {P : la_P} {L st : List Value} {σ : lX} {i : Nat} : la_lld i P L st σ = (match ab_gl L i with
  | .long x => P L (.long x :: st) σ
  | _ => False) := rfl
theorem ql_ald {P : la_P} {L st : List Value} {σ : lX} {i : Nat} : la_ald i P L st σ = (match ab_gl L i with
  | .ref x => P L (.ref x :: st) σ
  | _ => False) := rfl
theorem ql_ist {P : la_P} {L st : List Value} {σ : lX} {i : Nat} {x : Int32} : la_ist i P L (.int x :: st) σ = (ab_k1 L i = true ∧ P (ab_sl L i (.int x)) st σ) := by
  unfold la_ist
  cases h : ab_k1 L i <;> simp [h]
theorem ql_lst {P : la_P} {L st : List Value} {σ : lX} {i : Nat} {x : Int64} : la_lst i P L (.long x :: st) σ = (ab_k1 L i = true ∧ P (ab_sl (ab_sl L (i + 1) .null) i (.long x)) st σ) := by
  unfold la_lst
  cases h : ab_k1 L i <;> simp [h]
theorem ql_inc {P : la_P} {L st : List Value} {σ : lX} {i : Nat} {c : Int32} : la_inc i c P L st σ = (match ab_gl L i, ab_k1 L i with
  | .int x, true => P (ab_sl L i (.int (x + c))) st σ
  | _, _ => False) := rfl
theorem ql_b2 {P : la_P} {L st : List Value} {σ : lX} {f : Int32 → Int32 → Int32} {x y : Int32} : la_b2 f P L (.int y :: .int x :: st) σ = P L (.int (f x y) :: st) σ := rfl
theorem ql_d2 {P : la_P} {L st : List Value} {σ : lX} {f : Int32 → Int32 → Int32} {x y : Int32} : la_d2 f P L (.int y :: .int x :: st) σ = (¬ y = 0 ∧ P L (.int (f x y) :: st) σ) := rfl
theorem ql_u1 {P : la_P} {L st : List Value} {σ : lX} {f : Int32 → Int32} {x : Int32} : la_u1 f P L (.int x :: st) σ = P L (.int (f x) :: st) σ := rfl
theorem ql_l2 {P : la_P} {L st : List Value} {σ : lX} {f : Int64 → Int64 → Int64} {x y : Int64} : la_l2 f P L (.long y :: .long x :: st) σ = P L (.long (f x y) :: st) σ := rfl
theorem ql_ld2 {P : la_P} {L st : List Value} {σ : lX} {f : Int64 → Int64 → Int64} {x y : Int64} : la_ld2 f P L (.long y :: .long x :: st) σ = (¬ y = 0 ∧ P L (.long (f x y) :: st) σ) := rfl
theorem ql_lsh {P : la_P} {L st : List Value} {σ : lX} {f : Int64 → Int32 → Int64} {x : Int64} {y : Int32} : la_lsh f P L (.int y :: .long x :: st) σ = P L (.long (f x y) :: st) σ := rfl
theorem ql_lcmp {P : la_P} {L st : List Value} {σ : lX} {x y : Int64} : la_lcmp P L (.long y :: .long x :: st) σ = P L (.int (lg_cmp x y) :: st) σ := rfl
theorem ql_i2l {P : la_P} {L st : List Value} {σ : lX} {x : Int32} : la_i2l P L (.int x :: st) σ = P L (.long x.toInt64 :: st) σ := rfl
theorem ql_l2i {P : la_P} {L st : List Value} {σ : lX} {x : Int64} : la_l2i P L (.long x :: st) σ = P L (.int x.toInt32 :: st) σ := rfl
theorem ql_popi {P : la_P} {L st : List Value} {σ : lX} {x : Int32} : la_pop P L (.int x :: st) σ = P L st σ := rfl
theorem ql_if1 {P P2 : la_P} {L st : List Value} {σ : lX} {c : Int32 → Prop} {x : Int32} : la_if1 c P P2 L (.int x :: st) σ = ((c x → P L st σ) ∧ (¬ c x → P2 L st σ)) := rfl
theorem ql_if2 {P P2 : la_P} {L st : List Value} {σ : lX} {c : Int32 → Int32 → Prop} {x y : Int32} : la_if2 c P P2 L (.int y :: .int x :: st) σ = ((c x y → P L st σ) ∧ (¬ c x y → P2 L st σ)) := rfl
theorem ql_sw {D : la_P} {L st : List Value} {σ : lX} {cs : List (Int32 × la_P)} {x : Int32} : la_sw cs D L (.int x :: st) σ = la_swl cs D x L st σ := rfl
theorem ql_swn {D : la_P} {L st : List Value} {σ : lX} {x : Int32} : la_swl [] D x L st σ = D L st σ := rfl
theorem ql_swc {P D : la_P} {L st : List Value} {σ : lX} {cs : List (Int32 × la_P)} {x k : Int32} : la_swl ((k, P) :: cs) D x L st σ = ((x = k → P L st σ) ∧ (¬ x = k → la_swl cs D x L st σ)) := rfl
section LAS
variable {p : Program} {l : Launch} {e : Env} {R : Room} {s : State} {m : MethodId} {args : Array Value} {below : List Frame} {meth : Method} {c : Code} {Y : lW} {nL d lo mc : Nat} {cc : ByteArray} {own : String} {Q : State → Prop} {pc : Nat} {P P2 : la_P}
theorem sl_iadd (C : la_Cx p l R s m args meth c Y nL cc own d lo mc) (dg : decode cc pc = .ok (.iadd, 1)) (kk : ∀ L st σ, P L st σ → la_M p l e R s m args below meth c Y nL Q (pc + 1) L st σ) : ∀ L st σ, la_b2 (fun x y => x + y) P L st σ → la_M p l e R s m args below meth c Y nL Q pc L st σ := by
  intro L st σ h H locs ls hR hS hL
  unfold la_b2 at h
  split at h
  · exact lv_iadd C.1 C.2.1 dg (kk _ _ _ h H locs ls hR hS hL)
  · exact h.elim
theorem sl_isub (C : la_Cx p l R s m args meth c Y nL cc own d lo mc) (dg : decode cc pc = .ok (.isub, 1)) (kk : ∀ L st σ, P L st σ → la_M p l e R s m args below meth c Y nL Q (pc + 1) L st σ) : ∀ L st σ, la_b2 (fun x y => x - y) P L st σ → la_M p l e R s m args below meth c Y nL Q pc L st σ := by
  intro L st σ h H locs ls hR hS hL
  unfold la_b2 at h
  split at h
  · exact lv_isub C.1 C.2.1 dg (kk _ _ _ h H locs ls hR hS hL)
  · exact h.elim
theorem sl_imul (C : la_Cx p l R s m args meth c Y nL cc own d lo mc) (dg : decode cc pc = .ok (.imul, 1)) (kk : ∀ L st σ, P L st σ → la_M p l e R s m args below meth c Y nL Q (pc + 1) L st σ) : ∀ L st σ, la_b2 (fun x y => x * y) P L st σ → la_M p l e R s m args below meth c Y nL Q pc L st σ := by
  intro L st σ h H locs ls hR hS hL
  unfold la_b2 at h
  split at h
  · exact lv_imul C.1 C.2.1 dg (kk _ _ _ h H locs ls hR hS hL)
  · exact h.elim
theorem sl_iand (C : la_Cx p l R s m args meth c Y nL cc own d lo mc) (dg : decode cc pc = .ok (.iand, 1)) (kk : ∀ L st σ, P L st σ → la_M p l e R s m args below meth c Y nL Q (pc + 1) L st σ) : ∀ L st σ, la_b2 (fun x y => x &&& y) P L st σ → la_M p l e R s m args below meth c Y nL Q pc L st σ := by
  intro L st σ h H locs ls hR hS hL
  unfold la_b2 at h
  split at h
  · exact lv_iand C.1 C.2.1 dg (kk _ _ _ h H locs ls hR hS hL)
  · exact h.elim
theorem sl_ishr (C : la_Cx p l R s m args meth c Y nL cc own d lo mc) (dg : decode cc pc = .ok (.ishr, 1)) (kk : ∀ L st σ, P L st σ → la_M p l e R s m args below meth c Y nL Q (pc + 1) L st σ) : ∀ L st σ, la_b2 (fun x y => x >>> (y &&& 31)) P L st σ → la_M p l e R s m args below meth c Y nL Q pc L st σ := by
  intro L st σ h H locs ls hR hS hL
  unfold la_b2 at h
  split at h
  · exact lv_ishr C.1 C.2.1 dg (kk _ _ _ h H locs ls hR hS hL)
  · exact h.elim
theorem sl_idiv (C : la_Cx p l R s m args meth c Y nL cc own d lo mc) (dg : decode cc pc = .ok (.idiv, 1)) (kk : ∀ L st σ, P L st σ → la_M p l e R s m args below meth c Y nL Q (pc + 1) L st σ) : ∀ L st σ, la_d2 (fun x y => x / y) P L st σ → la_M p l e R s m args below meth c Y nL Q pc L st σ := by
  intro L st σ h H locs ls hR hS hL
  unfold la_d2 at h
  split at h
  · exact lv_idiv C.1 C.2.1 dg h.1 (kk _ _ _ h.2 H locs ls hR hS hL)
  · exact h.elim
theorem sl_irem (C : la_Cx p l R s m args meth c Y nL cc own d lo mc) (dg : decode cc pc = .ok (.irem, 1)) (kk : ∀ L st σ, P L st σ → la_M p l e R s m args below meth c Y nL Q (pc + 1) L st σ) : ∀ L st σ, la_d2 (fun x y => x - x / y * y) P L st σ → la_M p l e R s m args below meth c Y nL Q pc L st σ := by
  intro L st σ h H locs ls hR hS hL
  unfold la_d2 at h
  split at h
  · exact lv_irem C.1 C.2.1 dg h.1 (kk _ _ _ h.2 H locs ls hR hS hL)
  · exact h.elim
theorem sl_lrem (C : la_Cx p l R s m args meth c Y nL cc own d lo mc) (dg : decode cc pc = .ok (.lrem, 1)) (kk : ∀ L st σ, P L st σ → la_M p l e R s m args below meth c Y nL Q (pc + 1) L st σ) : ∀ L st σ, la_ld2 (fun x y => x - x / y * y) P L st σ → la_M p l e R s m args below meth c Y nL Q pc L st σ := by
  intro L st σ h H locs ls hR hS hL
  unfold la_ld2 at h
  split at h
  · exact lv_lrem C.1 C.2.1 dg h.1 (kk _ _ _ h.2 H locs ls hR hS hL)
  · exact h.elim
theorem sl_ladd (C : la_Cx p l R s m args meth c Y nL cc own d lo mc) (dg : decode cc pc = .ok (.ladd, 1)) (kk : ∀ L st σ, P L st σ → la_M p l e R s m args below meth c Y nL Q (pc + 1) L st σ) : ∀ L st σ, la_l2 (fun x y => x + y) P L st σ → la_M p l e R s m args below meth c Y nL Q pc L st σ := by
  intro L st σ h H locs ls hR hS hL
  unfold la_l2 at h
  split at h
  · exact lv_ladd C.1 C.2.1 dg (kk _ _ _ h H locs ls hR hS hL)
  · exact h.elim
theorem sl_lsub (C : la_Cx p l R s m args meth c Y nL cc own d lo mc) (dg : decode cc pc = .ok (.lsub, 1)) (kk : ∀ L st σ, P L st σ → la_M p l e R s m args below meth c Y nL Q (pc + 1) L st σ) : ∀ L st σ, la_l2 (fun x y => x - y) P L st σ → la_M p l e R s m args below meth c Y nL Q pc L st σ := by
  intro L st σ h H locs ls hR hS hL
  unfold la_l2 at h
  split at h
  · exact lv_lsub C.1 C.2.1 dg (kk _ _ _ h H locs ls hR hS hL)
  · exact h.elim
theorem sl_lmul (C : la_Cx p l R s m args meth c Y nL cc own d lo mc) (dg : decode cc pc = .ok (.lmul, 1)) (kk : ∀ L st σ, P L st σ → la_M p l e R s m args below meth c Y nL Q (pc + 1) L st σ) : ∀ L st σ, la_l2 (fun x y => x * y) P L st σ → la_M p l e R s m args below meth c Y nL Q pc L st σ := by
  intro L st σ h H locs ls hR hS hL
  unfold la_l2 at h
  split at h
  · exact lv_lmul C.1 C.2.1 dg (kk _ _ _ h H locs ls hR hS hL)
  · exact h.elim
theorem sl_land (C : la_Cx p l R s m args meth c Y nL cc own d lo mc) (dg : decode cc pc = .ok (.land, 1)) (kk : ∀ L st σ, P L st σ → la_M p l e R s m args below meth c Y nL Q (pc + 1) L st σ) : ∀ L st σ, la_l2 (fun x y => x &&& y) P L st σ → la_M p l e R s m args below meth c Y nL Q pc L st σ := by
  intro L st σ h H locs ls hR hS hL
  unfold la_l2 at h
  split at h
  · exact lv_land C.1 C.2.1 dg (kk _ _ _ h H locs ls hR hS hL)
  · exact h.elim
theorem sl_lcmp (C : la_Cx p l R s m args meth c Y nL cc own d lo mc) (dg : decode cc pc = .ok (.lcmp, 1)) (kk : ∀ L st σ, P L st σ → la_M p l e R s m args below meth c Y nL Q (pc + 1) L st σ) : ∀ L st σ, la_lcmp P L st σ → la_M p l e R s m args below meth c Y nL Q pc L st σ := by
  intro L st σ h H locs ls hR hS hL
  unfold la_lcmp at h
  split at h
  · exact W.lcmp C.1 C.2.1 dg  (kk _ _ _ h H locs ls hR hS hL)
  · exact h.elim
theorem sl_i2l (C : la_Cx p l R s m args meth c Y nL cc own d lo mc) (dg : decode cc pc = .ok (.i2l, 1)) (kk : ∀ L st σ, P L st σ → la_M p l e R s m args below meth c Y nL Q (pc + 1) L st σ) : ∀ L st σ, la_i2l P L st σ → la_M p l e R s m args below meth c Y nL Q pc L st σ := by
  intro L st σ h H locs ls hR hS hL
  unfold la_i2l at h
  split at h
  · exact lv_i2l C.1 C.2.1 dg rfl (kk _ _ _ h H locs ls hR hS hL)
  · exact h.elim
theorem sl_l2i (C : la_Cx p l R s m args meth c Y nL cc own d lo mc) (dg : decode cc pc = .ok (.l2i, 1)) (kk : ∀ L st σ, P L st σ → la_M p l e R s m args below meth c Y nL Q (pc + 1) L st σ) : ∀ L st σ, la_l2i P L st σ → la_M p l e R s m args below meth c Y nL Q pc L st σ := by
  intro L st σ h H locs ls hR hS hL
  unfold la_l2i at h
  split at h
  · exact lv_l2i C.1 C.2.1 dg rfl (kk _ _ _ h H locs ls hR hS hL)
  · exact h.elim
theorem sl_pop (C : la_Cx p l R s m args meth c Y nL cc own d lo mc) (dg : decode cc pc = .ok (.pop, 1)) (kk : ∀ L st σ, P L st σ → la_M p l e R s m args below meth c Y nL Q (pc + 1) L st σ) : ∀ L st σ, la_pop P L st σ → la_M p l e R s m args below meth c Y nL Q pc L st σ := by
  intro L st σ h H locs ls hR hS hL
  unfold la_pop at h
  split at h
  · exact lv_pop C.1 C.2.1 dg rfl (kk _ _ _ h H locs ls hR hS hL)
  · exact lv_pop C.1 C.2.1 dg rfl (kk _ _ _ h H locs ls hR hS hL)
  · exact h.elim
theorem sl_iconst (C : la_Cx p l R s m args meth c Y nL cc own d lo mc) {n : Int} {x : Int32} (dg : decode cc pc = .ok (.iconst n, 1)) (hv : Int32.ofInt n = x) (kk : ∀ L st σ, P L st σ → la_M p l e R s m args below meth c Y nL Q (pc + 1) L st σ) : ∀ L st σ, la_ci x P L st σ → la_M p l e R s m args below meth c Y nL Q pc L st σ := by
  intro L st σ h H locs ls hR hS hL
  exact lv_iconst C.1 C.2.1 dg hv (kk _ _ _ h H locs ls hR hS hL)
theorem sl_bipush (C : la_Cx p l R s m args meth c Y nL cc own d lo mc) {n : Int} {x : Int32} (dg : decode cc pc = .ok (.bipush n, 2)) (hv : (Int8.ofInt n).toInt32 = x) (kk : ∀ L st σ, P L st σ → la_M p l e R s m args below meth c Y nL Q (pc + 2) L st σ) : ∀ L st σ, la_ci x P L st σ → la_M p l e R s m args below meth c Y nL Q pc L st σ := by
  intro L st σ h H locs ls hR hS hL
  exact lv_bipush C.1 C.2.1 dg hv (kk _ _ _ h H locs ls hR hS hL)
theorem sl_sipush (C : la_Cx p l R s m args meth c Y nL cc own d lo mc) {n : Int} {x : Int32} (dg : decode cc pc = .ok (.sipush n, 3)) (hv : (Int16.ofInt n).toInt32 = x) (kk : ∀ L st σ, P L st σ → la_M p l e R s m args below meth c Y nL Q (pc + 3) L st σ) : ∀ L st σ, la_ci x P L st σ → la_M p l e R s m args below meth c Y nL Q pc L st σ := by
  intro L st σ h H locs ls hR hS hL
  exact lv_sipush C.1 C.2.1 dg hv (kk _ _ _ h H locs ls hR hS hL)
theorem sl_lconst (C : la_Cx p l R s m args meth c Y nL cc own d lo mc) {n : Fin 2} {x : Int64} (dg : decode cc pc = .ok (.lconst n, 1)) (hv : Int64.ofNat (n : Nat) = x) (kk : ∀ L st σ, P L st σ → la_M p l e R s m args below meth c Y nL Q (pc + 1) L st σ) : ∀ L st σ, la_cl x P L st σ → la_M p l e R s m args below meth c Y nL Q pc L st σ := by
  intro L st σ h H locs ls hR hS hL
  exact lv_lconst C.1 C.2.1 dg hv (kk _ _ _ h H locs ls hR hS hL)
theorem sl_ldc2 (C : la_Cx p l R s m args meth c Y nL cc own d lo mc) {i : Nat} {x : Int64} (dg : decode cc pc = .ok (.ldc2_w i, 3)) (hv : Jvm.Cond.constantLong own i x ∈ ab_T) (kk : ∀ L st σ, P L st σ → la_M p l e R s m args below meth c Y nL Q (pc + 3) L st σ) : ∀ L st σ, la_cl x P L st σ → la_M p l e R s m args below meth c Y nL Q pc L st σ := by
  intro L st σ h H locs ls hR hS hL
  exact lv_ldc2 C.1 C.2.1 C.2.2.2.1 (C.2.2.2.2.1 _ hv) dg (kk _ _ _ h H locs ls hR hS hL)
theorem sl_iload (C : la_Cx p l R s m args meth c Y nL cc own d lo mc) {i : Nat} (dg : decode cc pc = .ok (.iload i, 2)) (kk : ∀ L st σ, P L st σ → la_M p l e R s m args below meth c Y nL Q (pc + 2) L st σ) : ∀ L st σ, la_ild i P L st σ → la_M p l e R s m args below meth c Y nL Q pc L st σ := by
  intro L st σ h H locs ls hR hS hL
  unfold la_ild at h
  split at h
  · next hg => exact lv_iload C.1 C.2.1 dg (hL.int hg) (kk _ _ _ h H locs ls hR hS hL)
  · exact h.elim
theorem sl_iload_n (C : la_Cx p l R s m args meth c Y nL cc own d lo mc) {k : Fin 4} {i : Nat} (dg : decode cc pc = .ok (.iload_n k, 1)) (hi : (k : Nat) = i) (kk : ∀ L st σ, P L st σ → la_M p l e R s m args below meth c Y nL Q (pc + 1) L st σ) : ∀ L st σ, la_ild i P L st σ → la_M p l e R s m args below meth c Y nL Q pc L st σ := by
  intro L st σ h H locs ls hR hS hL
  unfold la_ild at h
  split at h
  · next hg => exact lv_iload_n C.1 C.2.1 dg hi (hL.int hg) (kk _ _ _ h H locs ls hR hS hL)
  · exact h.elim
theorem sl_lload (C : la_Cx p l R s m args meth c Y nL cc own d lo mc) {i : Nat} (dg : decode cc pc = .ok (.lload i, 2)) (kk : ∀ L st σ, P L st σ → la_M p l e R s m args below meth c Y nL Q (pc + 2) L st σ) : ∀ L st σ, la_lld i P L st σ → la_M p l e R s m args below meth c Y nL Q pc L st σ := by
  intro L st σ h H locs ls hR hS hL
  unfold la_lld at h
  split at h
  · next hg => exact lv_lload C.1 C.2.1 dg (hL.long hg) (kk _ _ _ h H locs ls hR hS hL)
  · exact h.elim
theorem sl_lload_n (C : la_Cx p l R s m args meth c Y nL cc own d lo mc) {k : Fin 4} {i : Nat} (dg : decode cc pc = .ok (.lload_n k, 1)) (hi : (k : Nat) = i) (kk : ∀ L st σ, P L st σ → la_M p l e R s m args below meth c Y nL Q (pc + 1) L st σ) : ∀ L st σ, la_lld i P L st σ → la_M p l e R s m args below meth c Y nL Q pc L st σ := by
  intro L st σ h H locs ls hR hS hL
  unfold la_lld at h
  split at h
  · next hg => exact lv_lload_n C.1 C.2.1 dg hi (hL.long hg) (kk _ _ _ h H locs ls hR hS hL)
  · exact h.elim
theorem sl_aload (C : la_Cx p l R s m args meth c Y nL cc own d lo mc) {i : Nat} (dg : decode cc pc = .ok (.aload i, 2)) (kk : ∀ L st σ, P L st σ → la_M p l e R s m args below meth c Y nL Q (pc + 2) L st σ) : ∀ L st σ, la_ald i P L st σ → la_M p l e R s m args below meth c Y nL Q pc L st σ := by
  intro L st σ h H locs ls hR hS hL
  unfold la_ald at h
  split at h
  · next hg => exact lv_aload C.1 C.2.1 dg (hL.ref hg) (kk _ _ _ h H locs ls hR hS hL)
  · exact h.elim
theorem sl_aload_n (C : la_Cx p l R s m args meth c Y nL cc own d lo mc) {k : Fin 4} {i : Nat} (dg : decode cc pc = .ok (.aload_n k, 1)) (hi : (k : Nat) = i) (kk : ∀ L st σ, P L st σ → la_M p l e R s m args below meth c Y nL Q (pc + 1) L st σ) : ∀ L st σ, la_ald i P L st σ → la_M p l e R s m args below meth c Y nL Q pc L st σ := by
  intro L st σ h H locs ls hR hS hL
  unfold la_ald at h
  split at h
  · next hg => exact lv_aload_n C.1 C.2.1 dg hi (hL.ref hg) (kk _ _ _ h H locs ls hR hS hL)
  · exact h.elim
theorem sl_istore (C : la_Cx p l R s m args meth c Y nL cc own d lo mc) {i : Nat} (dg : decode cc pc = .ok (.istore i, 2)) (hn : i < nL) (kk : ∀ L st σ, P L st σ → la_M p l e R s m args below meth c Y nL Q (pc + 2) L st σ) : ∀ L st σ, la_ist i P L st σ → la_M p l e R s m args below meth c Y nL Q pc L st σ := by
  intro L st σ h H locs ls hR hS hL
  unfold la_ist at h
  split at h
  · next hk => exact lv_istore C.1 C.2.1 dg hL.has hn rfl (fun ls' hl => kk _ _ _ h H locs ls' hR hS (hL.st1 hk hl))
  · exact h.elim
theorem sl_istore_n (C : la_Cx p l R s m args meth c Y nL cc own d lo mc) {k : Fin 4} {i : Nat} (dg : decode cc pc = .ok (.istore_n k, 1)) (hi : (k : Nat) = i) (hn : i < nL) (kk : ∀ L st σ, P L st σ → la_M p l e R s m args below meth c Y nL Q (pc + 1) L st σ) : ∀ L st σ, la_ist i P L st σ → la_M p l e R s m args below meth c Y nL Q pc L st σ := by
  intro L st σ h H locs ls hR hS hL
  unfold la_ist at h
  split at h
  · next hk => exact lv_istore_n C.1 C.2.1 dg hi hL.has hn rfl (fun ls' hl => kk _ _ _ h H locs ls' hR hS (hL.st1 hk hl))
  · exact h.elim
theorem sl_lstore (C : la_Cx p l R s m args meth c Y nL cc own d lo mc) {i : Nat} (dg : decode cc pc = .ok (.lstore i, 2)) (hn : i + 1 < nL) (kk : ∀ L st σ, P L st σ → la_M p l e R s m args below meth c Y nL Q (pc + 2) L st σ) : ∀ L st σ, la_lst i P L st σ → la_M p l e R s m args below meth c Y nL Q pc L st σ := by
  intro L st σ h H locs ls hR hS hL
  unfold la_lst at h
  split at h
  · next hk => exact lv_lstore C.1 C.2.1 dg hL.has hn rfl (fun ls' hl => kk _ _ _ h H locs ls' hR hS (hL.st2 hk hl))
  · exact h.elim
theorem sl_lstore_n (C : la_Cx p l R s m args meth c Y nL cc own d lo mc) {k : Fin 4} {i : Nat} (dg : decode cc pc = .ok (.lstore_n k, 1)) (hi : (k : Nat) = i) (hn : i + 1 < nL) (kk : ∀ L st σ, P L st σ → la_M p l e R s m args below meth c Y nL Q (pc + 1) L st σ) : ∀ L st σ, la_lst i P L st σ → la_M p l e R s m args below meth c Y nL Q pc L st σ := by
  intro L st σ h H locs ls hR hS hL
  unfold la_lst at h
  split at h
  · next hk => exact lv_lstore_n C.1 C.2.1 dg hi hL.has hn rfl (fun ls' hl => kk _ _ _ h H locs ls' hR hS (hL.st2 hk hl))
  · exact h.elim
theorem sl_iinc (C : la_Cx p l R s m args meth c Y nL cc own d lo mc) {i : Nat} {n : Int} {x : Int32} (dg : decode cc pc = .ok (.iinc i n, 3)) (hx : Int32.ofInt n = x) (hn : i < nL) (kk : ∀ L st σ, P L st σ → la_M p l e R s m args below meth c Y nL Q (pc + 3) L st σ) : ∀ L st σ, la_inc i x P L st σ → la_M p l e R s m args below meth c Y nL Q pc L st σ := by
  intro L st σ h H locs ls hR hS hL
  unfold la_inc at h
  split at h
  · next z hg hk =>
    have hm : (i, Value.int z) ∈ ab_ll Y.1 nL L := by
      have := ab_ll_in (w := Y.1) (L := L) hn (by rw [hg]; exact fun q => by cases q)
      rwa [hg] at this
    obtain ⟨k, hk2⟩ := List.getElem?_of_mem hm
    exact lv_iinc (v := z + x) C.1 C.2.1 dg hL.has hk2 (by rw [hx]) hn rfl (fun ls' hl => kk _ _ _ h H locs ls' hR hS (hL.st1 (v := .int (z + x)) hk hl))
  · exact h.elim
theorem sl_goto (C : la_Cx p l R s m args meth c Y nL cc own d lo mc) {off : Int} {tgt : Nat} (dg : decode cc pc = .ok (.goto off, 3)) (ht : (pc : Int) + off = (tgt : Int)) (kk : ∀ L st σ, P L st σ → la_M p l e R s m args below meth c Y nL Q tgt L st σ) : ∀ L st σ, P L st σ → la_M p l e R s m args below meth c Y nL Q pc L st σ := by
  intro L st σ h H locs ls hR hS hL
  exact lv_goto C.1 C.2.1 dg ht (kk _ _ _ h H locs ls hR hS hL)
theorem sl_if_eq (C : la_Cx p l R s m args meth c Y nL cc own d lo mc) {off : Int} {tgt : Nat} (dg : decode cc pc = .ok (.ifCond .eq off, 3)) (ht : (pc : Int) + off = (tgt : Int)) (kt : ∀ L st σ, P L st σ → la_M p l e R s m args below meth c Y nL Q tgt L st σ) (kf : ∀ L st σ, P2 L st σ → la_M p l e R s m args below meth c Y nL Q (pc + 3) L st σ) : ∀ L st σ, la_if1 (fun x => x = 0) P P2 L st σ → la_M p l e R s m args below meth c Y nL Q pc L st σ := by
  intro L st σ h H locs ls hR hS hL
  unfold la_if1 at h
  split at h
  · exact lv_if_eq C.1 C.2.1 dg ht (fun q => kt _ _ _ (h.1 q) H locs ls hR hS hL) (fun q => kf _ _ _ (h.2 q) H locs ls hR hS hL)
  · exact h.elim
theorem sl_if_ne (C : la_Cx p l R s m args meth c Y nL cc own d lo mc) {off : Int} {tgt : Nat} (dg : decode cc pc = .ok (.ifCond .ne off, 3)) (ht : (pc : Int) + off = (tgt : Int)) (kt : ∀ L st σ, P L st σ → la_M p l e R s m args below meth c Y nL Q tgt L st σ) (kf : ∀ L st σ, P2 L st σ → la_M p l e R s m args below meth c Y nL Q (pc + 3) L st σ) : ∀ L st σ, la_if1 (fun x => ¬ x = 0) P P2 L st σ → la_M p l e R s m args below meth c Y nL Q pc L st σ := by
  intro L st σ h H locs ls hR hS hL
  unfold la_if1 at h
  split at h
  · exact lv_if_ne C.1 C.2.1 dg ht (fun q => kt _ _ _ (h.1 q) H locs ls hR hS hL) (fun q => kf _ _ _ (h.2 (fun z => z q)) H locs ls hR hS hL)
  · exact h.elim
theorem sl_if_lt (C : la_Cx p l R s m args meth c Y nL cc own d lo mc) {off : Int} {tgt : Nat} (dg : decode cc pc = .ok (.ifCond .lt off, 3)) (ht : (pc : Int) + off = (tgt : Int)) (kt : ∀ L st σ, P L st σ → la_M p l e R s m args below meth c Y nL Q tgt L st σ) (kf : ∀ L st σ, P2 L st σ → la_M p l e R s m args below meth c Y nL Q (pc + 3) L st σ) : ∀ L st σ, la_if1 (fun x => x < 0) P P2 L st σ → la_M p l e R s m args below meth c Y nL Q pc L st σ := by
  intro L st σ h H locs ls hR hS hL
  unfold la_if1 at h
  split at h
  · exact lv_if_lt C.1 C.2.1 dg ht (fun q => kt _ _ _ (h.1 q) H locs ls hR hS hL) (fun q => kf _ _ _ (h.2 q) H locs ls hR hS hL)
  · exact h.elim
theorem sl_if_ge (C : la_Cx p l R s m args meth c Y nL cc own d lo mc) {off : Int} {tgt : Nat} (dg : decode cc pc = .ok (.ifCond .ge off, 3)) (ht : (pc : Int) + off = (tgt : Int)) (kt : ∀ L st σ, P L st σ → la_M p l e R s m args below meth c Y nL Q tgt L st σ) (kf : ∀ L st σ, P2 L st σ → la_M p l e R s m args below meth c Y nL Q (pc + 3) L st σ) : ∀ L st σ, la_if1 (fun x => 0 ≤ x) P P2 L st σ → la_M p l e R s m args below meth c Y nL Q pc L st σ := by
  intro L st σ h H locs ls hR hS hL
  unfold la_if1 at h
  split at h
  · exact lv_if_ge C.1 C.2.1 dg ht (fun q => kt _ _ _ (h.1 q) H locs ls hR hS hL) (fun q => kf _ _ _ (h.2 q) H locs ls hR hS hL)
  · exact h.elim
theorem sl_if_gt (C : la_Cx p l R s m args meth c Y nL cc own d lo mc) {off : Int} {tgt : Nat} (dg : decode cc pc = .ok (.ifCond .gt off, 3)) (ht : (pc : Int) + off = (tgt : Int)) (kt : ∀ L st σ, P L st σ → la_M p l e R s m args below meth c Y nL Q tgt L st σ) (kf : ∀ L st σ, P2 L st σ → la_M p l e R s m args below meth c Y nL Q (pc + 3) L st σ) : ∀ L st σ, la_if1 (fun x => 0 < x) P P2 L st σ → la_M p l e R s m args below meth c Y nL Q pc L st σ := by
  intro L st σ h H locs ls hR hS hL
  unfold la_if1 at h
  split at h
  · exact lv_if_gt C.1 C.2.1 dg ht (fun q => kt _ _ _ (h.1 q) H locs ls hR hS hL) (fun q => kf _ _ _ (h.2 q) H locs ls hR hS hL)
  · exact h.elim
theorem sl_if_le (C : la_Cx p l R s m args meth c Y nL cc own d lo mc) {off : Int} {tgt : Nat} (dg : decode cc pc = .ok (.ifCond .le off, 3)) (ht : (pc : Int) + off = (tgt : Int)) (kt : ∀ L st σ, P L st σ → la_M p l e R s m args below meth c Y nL Q tgt L st σ) (kf : ∀ L st σ, P2 L st σ → la_M p l e R s m args below meth c Y nL Q (pc + 3) L st σ) : ∀ L st σ, la_if1 (fun x => x ≤ 0) P P2 L st σ → la_M p l e R s m args below meth c Y nL Q pc L st σ := by
  intro L st σ h H locs ls hR hS hL
  unfold la_if1 at h
  split at h
  · exact lv_if_le C.1 C.2.1 dg ht (fun q => kt _ _ _ (h.1 q) H locs ls hR hS hL) (fun q => kf _ _ _ (h.2 q) H locs ls hR hS hL)
  · exact h.elim
theorem sl_icmp_eq (C : la_Cx p l R s m args meth c Y nL cc own d lo mc) {off : Int} {tgt : Nat} (dg : decode cc pc = .ok (.if_icmp .eq off, 3)) (ht : (pc : Int) + off = (tgt : Int)) (kt : ∀ L st σ, P L st σ → la_M p l e R s m args below meth c Y nL Q tgt L st σ) (kf : ∀ L st σ, P2 L st σ → la_M p l e R s m args below meth c Y nL Q (pc + 3) L st σ) : ∀ L st σ, la_if2 (fun x y => x = y) P P2 L st σ → la_M p l e R s m args below meth c Y nL Q pc L st σ := by
  intro L st σ h H locs ls hR hS hL
  unfold la_if2 at h
  split at h
  · exact lv_icmp_eq C.1 C.2.1 dg ht (fun q => kt _ _ _ (h.1 q) H locs ls hR hS hL) (fun q => kf _ _ _ (h.2 q) H locs ls hR hS hL)
  · exact h.elim
theorem sl_icmp_ne (C : la_Cx p l R s m args meth c Y nL cc own d lo mc) {off : Int} {tgt : Nat} (dg : decode cc pc = .ok (.if_icmp .ne off, 3)) (ht : (pc : Int) + off = (tgt : Int)) (kt : ∀ L st σ, P L st σ → la_M p l e R s m args below meth c Y nL Q tgt L st σ) (kf : ∀ L st σ, P2 L st σ → la_M p l e R s m args below meth c Y nL Q (pc + 3) L st σ) : ∀ L st σ, la_if2 (fun x y => ¬ x = y) P P2 L st σ → la_M p l e R s m args below meth c Y nL Q pc L st σ := by
  intro L st σ h H locs ls hR hS hL
  unfold la_if2 at h
  split at h
  · exact lv_icmp_ne C.1 C.2.1 dg ht (fun q => kt _ _ _ (h.1 q) H locs ls hR hS hL) (fun q => kf _ _ _ (h.2 (fun z => z q)) H locs ls hR hS hL)
  · exact h.elim
theorem sl_icmp_lt (C : la_Cx p l R s m args meth c Y nL cc own d lo mc) {off : Int} {tgt : Nat} (dg : decode cc pc = .ok (.if_icmp .lt off, 3)) (ht : (pc : Int) + off = (tgt : Int)) (kt : ∀ L st σ, P L st σ → la_M p l e R s m args below meth c Y nL Q tgt L st σ) (kf : ∀ L st σ, P2 L st σ → la_M p l e R s m args below meth c Y nL Q (pc + 3) L st σ) : ∀ L st σ, la_if2 (fun x y => x < y) P P2 L st σ → la_M p l e R s m args below meth c Y nL Q pc L st σ := by
  intro L st σ h H locs ls hR hS hL
  unfold la_if2 at h
  split at h
  · exact lv_icmp_lt C.1 C.2.1 dg ht (fun q => kt _ _ _ (h.1 q) H locs ls hR hS hL) (fun q => kf _ _ _ (h.2 q) H locs ls hR hS hL)
  · exact h.elim
theorem sl_icmp_ge (C : la_Cx p l R s m args meth c Y nL cc own d lo mc) {off : Int} {tgt : Nat} (dg : decode cc pc = .ok (.if_icmp .ge off, 3)) (ht : (pc : Int) + off = (tgt : Int)) (kt : ∀ L st σ, P L st σ → la_M p l e R s m args below meth c Y nL Q tgt L st σ) (kf : ∀ L st σ, P2 L st σ → la_M p l e R s m args below meth c Y nL Q (pc + 3) L st σ) : ∀ L st σ, la_if2 (fun x y => y ≤ x) P P2 L st σ → la_M p l e R s m args below meth c Y nL Q pc L st σ := by
  intro L st σ h H locs ls hR hS hL
  unfold la_if2 at h
  split at h
  · exact lv_icmp_ge C.1 C.2.1 dg ht (fun q => kt _ _ _ (h.1 q) H locs ls hR hS hL) (fun q => kf _ _ _ (h.2 q) H locs ls hR hS hL)
  · exact h.elim
theorem sl_icmp_gt (C : la_Cx p l R s m args meth c Y nL cc own d lo mc) {off : Int} {tgt : Nat} (dg : decode cc pc = .ok (.if_icmp .gt off, 3)) (ht : (pc : Int) + off = (tgt : Int)) (kt : ∀ L st σ, P L st σ → la_M p l e R s m args below meth c Y nL Q tgt L st σ) (kf : ∀ L st σ, P2 L st σ → la_M p l e R s m args below meth c Y nL Q (pc + 3) L st σ) : ∀ L st σ, la_if2 (fun x y => y < x) P P2 L st σ → la_M p l e R s m args below meth c Y nL Q pc L st σ := by
  intro L st σ h H locs ls hR hS hL
  unfold la_if2 at h
  split at h
  · exact lv_icmp_gt C.1 C.2.1 dg ht (fun q => kt _ _ _ (h.1 q) H locs ls hR hS hL) (fun q => kf _ _ _ (h.2 q) H locs ls hR hS hL)
  · exact h.elim
theorem sl_icmp_le (C : la_Cx p l R s m args meth c Y nL cc own d lo mc) {off : Int} {tgt : Nat} (dg : decode cc pc = .ok (.if_icmp .le off, 3)) (ht : (pc : Int) + off = (tgt : Int)) (kt : ∀ L st σ, P L st σ → la_M p l e R s m args below meth c Y nL Q tgt L st σ) (kf : ∀ L st σ, P2 L st σ → la_M p l e R s m args below meth c Y nL Q (pc + 3) L st σ) : ∀ L st σ, la_if2 (fun x y => x ≤ y) P P2 L st σ → la_M p l e R s m args below meth c Y nL Q pc L st σ := by
  intro L st σ h H locs ls hR hS hL
  unfold la_if2 at h
  split at h
  · exact lv_icmp_le C.1 C.2.1 dg ht (fun q => kt _ _ _ (h.1 q) H locs ls hR hS hL) (fun q => kf _ _ _ (h.2 q) H locs ls hR hS hL)
  · exact h.elim
theorem la_swl_cases {D : la_P} {x : Int32} {L st : List Value} {σ : lX} : ∀ (cs : List (Int32 × la_P)), la_swl cs D x L st σ → (∃ q ∈ cs, x = q.1 ∧ q.2 L st σ) ∨ ((∀ q ∈ cs, ¬ x = q.1) ∧ D L st σ)
  | [], h => Or.inr ⟨fun _ q => (nomatch q), h⟩
  | (k, Pk) :: r, h => by
    obtain ⟨h1, h2⟩ := h
    by_cases hx : x = k
    · exact Or.inl ⟨_, List.mem_cons_self, hx, h1 hx⟩
    · rcases la_swl_cases r (h2 hx) with ⟨q, q1, q2⟩ | ⟨q1, q2⟩
      · exact Or.inl ⟨q, List.mem_cons_of_mem _ q1, q2⟩
      · exact Or.inr ⟨fun q hq => (List.mem_cons.mp hq).elim (fun e => by rw [e]; exact hx) (q1 q), q2⟩
theorem sl_table (C : la_Cx p l R s m args meth c Y nL cc own d lo mc) {df lo hi : Int} {offs : Array Int} {len td : Nat} {cs : List (Int32 × la_P)} {D : la_P} (dg : decode cc pc = .ok (.tableswitch df lo hi offs, len)) (n : Nat) (hkeys : cs.map (fun q => q.1) = (List.range n).map (fun j : Nat => Int32.ofInt (lo + j))) (hhi : hi = lo + n - 1)
    (hc : ∀ q ∈ cs, ∃ (off : Int) (tgt : Nat), ¬ q.1.toInt < lo ∧ ¬ hi < q.1.toInt ∧ offs[(q.1.toInt - lo).toNat]? = some off ∧ (pc : Int) + off = (tgt : Int) ∧ ∀ L st σ, q.2 L st σ → la_M p l e R s m args below meth c Y nL Q tgt L st σ)
    (htd : (pc : Int) + df = (td : Int)) (kd : ∀ L st σ, D L st σ → la_M p l e R s m args below meth c Y nL Q td L st σ) : ∀ L st σ, la_sw cs D L st σ → la_M p l e R s m args below meth c Y nL Q pc L st σ := by
  intro L st σ h H locs ls hR hS hL
  unfold la_sw at h
  split at h
  · next x r =>
    rcases la_swl_cases cs h with ⟨q, q1, rfl, q2⟩ | ⟨q1, q2⟩
    · obtain ⟨off, tgt, a1, a2, a3, a4, a5⟩ := hc q q1
      exact lv_tableIn C.1 C.2.1 dg a1 a2 a3 a4 (a5 _ _ _ q2 H locs ls hR hS hL)
    · refine lv_tableOut C.1 C.2.1 dg ?_ htd (kd _ _ _ q2 H locs ls hR hS hL)
      refine Classical.byContradiction fun hn => ?_
      simp only [not_or, Int.not_lt] at hn
      have hm : x ∈ (List.range n).map (fun j : Nat => Int32.ofInt (lo + j)) := by
        refine List.mem_map.mpr ⟨(x.toInt - lo).toNat, List.mem_range.mpr (by omega), ?_⟩
        rw [show lo + (((x.toInt - lo).toNat : Nat) : Int) = x.toInt by omega]
        simp
      rw [← hkeys] at hm
      obtain ⟨q, b1, b2⟩ := List.mem_map.mp hm
      exact q1 q b1 b2.symm
  · exact h.elim
theorem sl_lshr (C : la_Cx p l R s m args meth c Y nL cc own d lo mc) (dg : decode cc pc = .ok (.lshr, 1)) (kk : ∀ L st σ, P L st σ → la_M p l e R s m args below meth c Y nL Q (pc + 1) L st σ) : ∀ L st σ, la_lsh (fun x y => x >>> (y.toInt64 &&& 63)) P L st σ → la_M p l e R s m args below meth c Y nL Q pc L st σ := by
  intro L st σ h H locs ls hR hS hL
  unfold la_lsh at h
  split at h
  · exact lv_lshr C.1 C.2.1 dg rfl (kk _ _ _ h H locs ls hR hS hL)
  · exact h.elim
end LAS
