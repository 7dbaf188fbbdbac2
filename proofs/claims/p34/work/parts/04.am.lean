/-! THE SMALL MACHINE: a world is a fixed shape (addresses, kinds, lengths, references); its state is the ints that its cells hold -/
abbrev ab_W : Type := (Nat → Nat) × (Nat → Nat) × (Nat → Nat) × va_G × (Nat → ClassId)
def ab_ad (w : ab_W) : Nat → Nat := w.1
def ab_kd (w : ab_W) : Nat → Nat := w.2.1
def ab_ln (w : ab_W) : Nat → Nat := w.2.2.1
def ab_dd (w : ab_W) : va_G := w.2.2.2.1
def ab_ca (w : ab_W) : Nat → ClassId := w.2.2.2.2
abbrev ab_H : Type := Nat → Nat → Int32
abbrev ab_P : Type := List Value → List Value → ab_H → Prop
abbrev ab_S : Type := ab_W → List Value → ab_H → (Option Value → ab_H → Prop) → Prop
abbrev ab_SX : Type := ab_W → List Value → ab_H → (String → ab_H → Prop) → Prop
def ab_up (σ : ab_H) (a k : Nat) (x : Int32) : ab_H := fun b j => if b = a ∧ j = k then x else σ b j
def ab_cp (σ : ab_H) (a b n : Nat) : ab_H := fun v j => if v = b ∧ j < n then σ a j else σ v j
theorem ab_up_row (σ : ab_H) (a k : Nat) (x : Int32) : ab_up σ a k x a = upd (σ a) k x := by
  funext j; simp [ab_up, upd]
theorem ab_up_ne {σ : ab_H} {a k b : Nat} {x : Int32} (h : b ≠ a) : ab_up σ a k x b = σ b := by
  funext j; simp [ab_up, h]
theorem ab_cp_ne {σ : ab_H} {a b n v : Nat} (h : v ≠ b) : ab_cp σ a b n v = σ v := by
  funext j; simp [ab_cp, h]
/-- a reference field leads to the address so much further on -/
def ab_fo (ci k : Nat) : Option Nat := match ci, k with
  | 0, 1 => some 1 | 0, 2 => some 2 | 0, 3 => some 3 | 0, 4 => some 4
  | 1, 2 => some 1 | 1, 3 => some 2 | 1, 4 => some 3
  | 2, 2 => some 1
  | 3, 0 => some 1 | 3, 1 => some 9 | 3, 2 => some 14 | 3, 3 => some 19 | 3, 4 => some 23 | 3, 5 => some 27 | 3, 6 => some 28
  | 4, 1 => some 1 | 4, 2 => some 2 | 4, 3 => some 3 | 4, 4 => some 4
  | 5, 1 => some 1 | 5, 2 => some 2 | 5, 3 => some 3
  | 6, 0 => some 1
  | 7, 1 => some 1 | 7, 2 => some 2 | 7, 3 => some 3 | 7, 4 => some 4 | 7, 5 => some 5 | 7, 6 => some 6 | 7, 7 => some 7
  | 8, 0 => some 1 | 8, 4 => some 2
  | 9, 0 => some 1 | 9, 1 => some 40 | 9, 2 => some 80 | 9, 3 => some 120 | 9, 4 => some 4 | 9, 5 => some 719 | 9, 6 => some 759
  | 10, 1 => some 1 | 10, 6 => some 2 | 10, 7 => some 3 | 10, 8 => some 4 | 10, 9 => some 5 | 10, 11 => some 6 | 10, 12 => some 7
  | _, _ => none
def ab_rv (w : ab_W) : Value → Value
  | .ref a => .ref (ab_ad w a)
  | v => v
theorem ab_rv_cat (w : ab_W) (v : Value) : (ab_rv w v).category = v.category := by cases v <;> rfl
def ab_fv (w : ab_W) (σ : ab_H) (v k : Nat) : Value := match ab_fo (ab_kd w v) k with
  | some o => .ref (ab_ad w (v + o))
  | none => .int (σ v k)
def ab_ai (k : Nat) : Prop := k = 11 ∨ k = 12 ∨ k = 13
/-- the class of a row that was there before: of it only the class, the kind of cell and the first ints are known -/
def ab_cr (v : Nat) : Nat := if v = 17 then 21 else 20
def ab_ok (w : ab_W) (σ : ab_H) (v : Nat) (H : Heap) : Prop :=
  (ab_kd w v ≤ 10 → ∃ r : vw_C, vwCl[ab_kd w v]? = some r ∧ t_OB (ab_ad w v) ((ab_dd w).1 (ab_kd w v)) r.2.2 ((ab_dd w).2 (ab_kd w v)) H (ab_fv w σ v)) ∧
  (ab_ai (ab_kd w v) → H[ab_ad w v]? = some (arrV (ab_ca w (ab_kd w v)) (ab_ln w v) (fun j => .int (σ v j)))) ∧
  (ab_kd w v = 14 → H[ab_ad w v]? = some (arrV (ab_ca w 14) (ab_ln w v) (fun j => .ref (ab_ad w (160 + 40 * j))))) ∧
  (ab_kd w v = 15 → H[ab_ad w v]? = some (arrV (ab_ca w 15) (ab_ln w v) (fun j => .long (σ v j).toInt64))) ∧
  (ab_kd w v = 20 → ∃ cell : Cell, H[ab_ad w v]? = some cell ∧ cell.cls = ab_ca w (ab_cr v) ∧ cell.vm ≠ .unknown ∧ (∀ k, cell.vm ≠ .statics k) ∧ ab_ln w v ≤ cell.slots.size ∧ ∀ j : Nat, j < ab_ln w v → cell.slots[j]? = some (.int (σ v j)))
def ab_Rep (w : ab_W) (σ : ab_H) (H : Heap) : Prop := ∀ v, ab_ok w σ v H
def ab_Inj (w : ab_W) : Prop := ∀ u v, ab_kd w u ≤ 21 → ab_kd w v ≤ 21 → ab_ad w u = ab_ad w v → u = v
def ab_A (w : ab_W) (sz : Nat) : Nat → Prop := fun q => (∃ v, ab_kd w v ≤ 15 ∧ ab_ad w v = q) ∨ sz ≤ q
def ab_tys (w : ab_W) : List (ClassId × FieldType) := [(ab_ca w 11, .int), (ab_ca w 12, .char), (ab_ca w 13, .int), (ab_ca w 14, .object "SondeStations$Net"), (ab_ca w 15, .int), (ab_ca w 20, .int), (ab_ca w 21, .int)]
def ab_Kw (w : ab_W) (U : State) : Prop := (∀ (c : Nat) (q : vw_C), vwCl[c]? = some q → u_Kn U q.1 q.2.1 q.2.2 ((ab_dd w).1 c) ((ab_dd w).2 c)) ∧ ∀ q ∈ ab_tys w, ArrOfT U q.1 q.2
theorem ab_Kw.moved {w : ab_W} {u U : State} (hvm : u.vm.Alike U.vm) (h : ab_Kw w u) : ab_Kw w U := ⟨fun c q hq => u_Kn_moved hvm (h.1 c q hq), fun q hq => arrOfT_moved hvm (h.2 q hq)⟩
theorem ab_Kw.arr {w : ab_W} {U : State} (h : ab_Kw w U) (i : Nat) {q : ClassId × FieldType} (hq : (ab_tys w)[i]? = some q) : ArrOfT U q.1 q.2 := h.2 q (List.mem_of_getElem? hq)
/-- the tables' words that a call hands on -/
def ab_T : List Cond := lw_tbl.filter goodWord
def ab_isN : Cond → Bool
  | .methodLinkNest .. => true
  | .fieldLinkNest .. => true
  | .declares .. => true
  | .castable .. => true
  | _ => false
def ab_N : List Cond := tables_1.filter ab_isN
theorem ab_in {x : Cond} (i : Nat) (h : tables_1[i]? = some x) (hg : goodWord x = true) : x ∈ ab_T := List.mem_filter.mpr ⟨List.mem_append_right _ (List.mem_of_getElem? h), hg⟩
theorem ab_inS {x : Cond} (i : Nat) (h : (k2_sels lw_privs)[i]? = some x) (hg : goodWord x = true) : x ∈ ab_T := List.mem_filter.mpr ⟨List.mem_append_left _ (List.mem_of_getElem? h), hg⟩
theorem ab_inN {x : Cond} (i : Nat) (h : tables_1[i]? = some x) (hg : ab_isN x = true) : x ∈ ab_N := List.mem_filter.mpr ⟨List.mem_of_getElem? h, hg⟩
theorem ab_good {x : Cond} (h : x ∈ ab_T) : (x.onTables && x.keeps) = true ∨ ∃ ty, x = .arrayClass ty := good_of_word (List.mem_filter.mp h).2
theorem ab_goodIn {cx cy : Cond} (h : cy ∈ ab_T) : GoodIn (cx :: ab_T) (cy :: ab_T) := fun x hx => (List.mem_cons.mp hx).elim (fun e => ⟨List.mem_cons_of_mem _ (e ▸ h), ab_good (e ▸ h)⟩) (fun e => ⟨List.mem_cons_of_mem _ e, ab_good e⟩)
theorem ab_Nw {x : Cond} {s U : State} (hx : ab_isN x = true) (hW : s.WarmedH U.vm) (h : va_Nw x s) : va_Nw x U := by
  cases x <;> first | (exact Bool.noConfusion (hx : false = true)) | exact va_Nw.warmM hW h | exact va_Nw.warmF hW h | exact va_Nw.warmD hW h | exact va_Nw.warmC hW h
theorem ab_NwOn {x : Cond} (hx : ab_isN x = true) : x.onTables = true := by
  cases x <;> first | rfl | (exact Bool.noConfusion (hx : false = true))
/-- the texts of the exceptions -/
def ab_strs : List (String × Nat × String) := [("SondeStations", 52, "a character code is 0 to 255"), ("SondeStations", 63, "the text is full"), ("SondeStations", 74, "the text is not a net"), ("SondeStations", 180, "there are the numbers 0 to 11"), ("SondeStations", 368, "no such station"), ("SondeStations", 209, "a station has the numbers 0 to 7"), ("SondeStations", 370, "an argument is out of its range"), ("SondeStations", 231, "no such finder"), ("SondeStations", 247, "a finder has the numbers 0 to 4"), ("SondeStations", 372, "the net does not allow it now"), ("SondeStations", 301, "no state is remembered"), ("SondeStations", 366, "no such save slot"), ("SondeStations", 364, "nothing has been saved in the slot")]
/-- what else a method is told of the heap's old part and the tables -/
def ab_Zs (w : ab_W) (sz : Nat) (U : State) (H : Heap) : Prop :=
  (ab_kd w 16 = 20 → va_Z "SondeStations" "LOWEST_SETTINGS" "[I" (.ref (ab_ad w 16)) (ab_A w sz) U H) ∧ (ab_kd w 17 = 20 → va_Z "SondeStations" "HIGHEST_SETTINGS" "[I" (.ref (ab_ad w 17)) (ab_A w sz) U H) ∧
  vx_Zq Bundle.tN "UNASSIGNED_STACK" Bundle.steD (ab_A w sz) U H ∧ vx_Zq Bundle.tN "SUPPRESSED_SENTINEL" Bundle.listD (ab_A w sz) U H ∧
  (∀ q ∈ ab_strs, ∃ sa, vk_R q.1 q.2.1 q.2.2 sa U) ∧ ∀ x ∈ ab_N, va_Nw x U
theorem ab_A.mono {w : ab_W} {a b q : Nat} (h : a ≤ b) (hq : ab_A w b q) : ab_A w a q := hq.elim Or.inl (fun h1 => Or.inr (Nat.le_trans h h1))
theorem ab_Zs.warm {w : ab_W} {sz : Nat} {s U : State} {H : Heap} (hW : s.WarmedH U.vm) (h : ab_Zs w sz s H) : ab_Zs w sz U H := by
  obtain ⟨h1, h2, h3, h4, h5, h6⟩ := h
  exact ⟨fun k => (h1 k).moved hW.alike, fun k => (h2 k).moved hW.alike, h3.moved hW.alike, h4.moved hW.alike, fun q hq => (h5 q hq).imp fun sa h => h.warm hW, fun x hx => ab_Nw (List.mem_filter.mp hx).2 hW (h6 x hx)⟩
theorem ab_Zs.same {w : ab_W} {sz : Nat} {u U : State} {H : Heap} (hvm : u.vm = U.vm) (h : ab_Zs w sz u H) : ab_Zs w sz U H := by
  obtain ⟨h1, h2, h3, h4, h5, h6⟩ := h
  have hal : u.vm.Alike U.vm := hvm ▸ Vm.Alike.refl _
  exact ⟨fun k => (h1 k).moved hal, fun k => (h2 k).moved hal, h3.moved hal, h4.moved hal, fun q hq => (h5 q hq).imp fun sa h => h.same hvm.symm, fun x hx => (h6 x hx).same (ab_NwOn (List.mem_filter.mp hx).2) hvm⟩
theorem ab_Zs.kept {w : ab_W} {sz sz' : Nat} {U : State} {H H1 : Heap} (hsz : sz ≤ sz') (hq : ∀ a : Nat, a < H.size → ¬ ab_A w sz a → H1[a]? = H[a]?) (h : ab_Zs w sz U H) : ab_Zs w sz' U H1 := by
  obtain ⟨h1, h2, h3, h4, h5, h6⟩ := h
  have hn : ∀ q, ab_A w sz' q → ab_A w sz q := fun q => ab_A.mono hsz
  exact ⟨fun k => ((h1 k).kept hq).narrow hn, fun k => ((h2 k).kept hq).narrow hn, (h3.kept hq).narrow hn, (h4.kept hq).narrow hn, h5, h6⟩
/-- the start of a method -/
def ab_Pre (w : ab_W) (sz : Nat) (σ : ab_H) (U : State) : Prop := U.heap.size = sz ∧ ab_Rep w σ U.heap ∧ ab_Kw w U ∧ ab_Zs w sz U U.heap
def ab_rm (d mc : Nat) : Room := { frames := d, cells := mc, slots := 6 * mc, locals := 30 * d }
def ab_Qc (w : ab_W) (sz : Nat) (Kn : Option Value → ab_H → Prop) : Array Value → State → Outcome → State → Prop := fun _ st oc t => (∃ (v : Option Value) (σ' : ab_H), oc = .returned (v.map (ab_rv w)) ∧ Kn v σ' ∧ ab_Rep w σ' t.heap) ∧ va_F (ab_A w sz) st t
def ab_Xc (w : ab_W) (sz : Nat) (Kx : String → ab_H → Prop) : String → State → State → Prop := fun E st t => (∃ σ' : ab_H, Kx E σ' ∧ ab_Rep w σ' t.heap) ∧ va_F (ab_A w sz) st t
/-- a method's contract at these arguments: it returns (mc 0), or may throw (mc 1) -/
def ab_Met (l : Launch) (y : MethodName) (cy : Cond) (d mc : Nat) (w : ab_W) (σ : ab_H) (As : List Value) (Kn : Option Value → ab_H → Prop) (Kx : String → ab_H → Prop) : Prop :=
  ∀ sz : Nat, vx_Met l y (cy :: ab_T) (ab_rm d mc) (va_Pc (As.map (ab_rv w)) (ab_Pre w sz σ)) (ab_Qc w sz Kn) (ab_Xc w sz Kx) mc (6 * mc) (ab_A w sz)
def ab_OkN (l : Launch) (y : MethodName) (cy : Cond) (d : Nat) (sN : ab_S) : Prop := ∀ (w : ab_W) (σ : ab_H) (As : List Value) (Kn : Option Value → ab_H → Prop), ab_Inj w → sN w As σ Kn → ab_Met l y cy d 0 w σ As Kn (fun _ _ => False)
def ab_OkX (l : Launch) (y : MethodName) (cy : Cond) (d : Nat) (sX : ab_SX) : Prop := ∀ (w : ab_W) (σ : ab_H) (As : List Value) (Kx : String → ab_H → Prop), ab_Inj w → sX w As σ Kx → ab_Met l y cy d 1 w σ As (fun _ _ => False) Kx
/-- locals: a list of values, .null where nothing is known -/
def ab_gl : List Value → Nat → Value
  | [], _ => .null
  | a :: _, 0 => a
  | _ :: l, n + 1 => ab_gl l n
def ab_sl : List Value → Nat → Value → List Value
  | [], _, _ => []
  | _ :: l, 0, v => v :: l
  | a :: l, n + 1, v => a :: ab_sl l n v
def ab_lg : Value → Bool
  | .long _ => true
  | .double _ => true
  | _ => false
/-- no long lies just ahead of place i -/
def ab_k1 : List Value → Nat → Bool
  | _, 0 => true
  | l, n + 1 => !(ab_lg (ab_gl l n))
def ab_Lk (w : ab_W) (ls : Array Slot) (nL : Nat) (L : List Value) : Prop := ls.size = nL ∧ lv_wf ls ∧ ∀ (i : Nat) (v : Value), ab_gl L i = v → v ≠ .null → ls[i]? = some (.val (ab_rv w v))
def ab_xl : List Value → List Value
  | [] => []
  | v :: r => if ab_lg v then v :: .null :: ab_xl r else v :: ab_xl r
def ab_sh : List Value → Bool
  | [] => true
  | [_] => true
  | [_, _] => true
  | [_, _, _] => true
  | [_, _, _, _] => true
  | _ => false
/-- n values off the stack, in the order of the arguments -/
def ab_tk : Nat → List Value → List Value → Option (List Value × List Value)
  | 0, r, acc => some (acc, r)
  | _ + 1, [], _ => none
  | n + 1, v :: st, acc => ab_tk n st (v :: acc)

/-! steps: what has to hold ahead of an instruction so that P holds behind it -/
def ab_ci (x : Int32) (P : ab_P) : ab_P := fun L st σ => P L (.int x :: st) σ
def ab_cl (x : Int64) (P : ab_P) : ab_P := fun L st σ => P L (.long x :: st) σ
def ab_ild (i : Nat) (P : ab_P) : ab_P := fun L st σ => match ab_gl L i with
  | .int x => P L (.int x :: st) σ
  | _ => False
def ab_lld (i : Nat) (P : ab_P) : ab_P := fun L st σ => match ab_gl L i with
  | .long x => P L (.long x :: st) σ
  | _ => False
def ab_ald (i : Nat) (P : ab_P) : ab_P := fun L st σ => match ab_gl L i with
  | .ref x => P L (.ref x :: st) σ
  | _ => False
def ab_ist (i : Nat) (P : ab_P) : ab_P := fun L st σ => match st, ab_k1 L i with
  | .int x :: r, true => P (ab_sl L i (.int x)) r σ
  | _, _ => False
def ab_ast (i : Nat) (P : ab_P) : ab_P := fun L st σ => match st, ab_k1 L i with
  | .ref x :: r, true => P (ab_sl L i (.ref x)) r σ
  | _, _ => False
def ab_lst (i : Nat) (P : ab_P) : ab_P := fun L st σ => match st, ab_k1 L i with
  | .long x :: r, true => P (ab_sl (ab_sl L (i + 1) .null) i (.long x)) r σ
  | _, _ => False
def ab_inc (i : Nat) (c : Int32) (P : ab_P) : ab_P := fun L st σ => match ab_gl L i, ab_k1 L i with
  | .int x, true => P (ab_sl L i (.int (x + c))) st σ
  | _, _ => False
def ab_b2 (f : Int32 → Int32 → Int32) (P : ab_P) : ab_P := fun L st σ => match st with
  | .int y :: .int x :: r => P L (.int (f x y) :: r) σ
  | _ => False
def ab_d2 (f : Int32 → Int32 → Int32) (P : ab_P) : ab_P := fun L st σ => match st with
  | .int y :: .int x :: r => ¬ y = 0 ∧ P L (.int (f x y) :: r) σ
  | _ => False
def ab_u1 (f : Int32 → Int32) (P : ab_P) : ab_P := fun L st σ => match st with
  | .int x :: r => P L (.int (f x) :: r) σ
  | _ => False
def ab_l2 (f : Int64 → Int64 → Int64) (P : ab_P) : ab_P := fun L st σ => match st with
  | .long y :: .long x :: r => P L (.long (f x y) :: r) σ
  | _ => False
def ab_ld2 (f : Int64 → Int64 → Int64) (P : ab_P) : ab_P := fun L st σ => match st with
  | .long y :: .long x :: r => ¬ y = 0 ∧ P L (.long (f x y) :: r) σ
  | _ => False
def ab_lsh (f : Int64 → Int32 → Int64) (P : ab_P) : ab_P := fun L st σ => match st with
  | .int y :: .long x :: r => P L (.long (f x y) :: r) σ
  | _ => False
def ab_lcmp (P : ab_P) : ab_P := fun L st σ => match st with
  | .long y :: .long x :: r => P L (.int (lg_cmp x y) :: r) σ
  | _ => False
def ab_i2l (P : ab_P) : ab_P := fun L st σ => match st with
  | .int x :: r => P L (.long x.toInt64 :: r) σ
  | _ => False
def ab_l2i (P : ab_P) : ab_P := fun L st σ => match st with
  | .long x :: r => P L (.int x.toInt32 :: r) σ
  | _ => False
def ab_dup (P : ab_P) : ab_P := fun L st σ => match st with
  | .int x :: r => P L (.int x :: .int x :: r) σ
  | .ref x :: r => P L (.ref x :: .ref x :: r) σ
  | _ => False
def ab_dup2 (P : ab_P) : ab_P := fun L st σ => match st with
  | .int x :: .ref a :: r => P L (.int x :: .ref a :: .int x :: .ref a :: r) σ
  | _ => False
def ab_pop (P : ab_P) : ab_P := fun L st σ => match st with
  | .int _ :: r => P L r σ
  | .ref _ :: r => P L r σ
  | _ => False
def ab_if1 (cnd : Int32 → Prop) (P Q : ab_P) : ab_P := fun L st σ => match st with
  | .int x :: r => (cnd x → P L r σ) ∧ (¬ cnd x → Q L r σ)
  | _ => False
def ab_if2 (cnd : Int32 → Int32 → Prop) (P Q : ab_P) : ab_P := fun L st σ => match st with
  | .int y :: .int x :: r => (cnd x y → P L r σ) ∧ (¬ cnd x y → Q L r σ)
  | _ => False
def ab_nn (P : ab_P) : ab_P := fun L st σ => match st with
  | .ref _ :: r => P L r σ
  | _ => False
def ab_swl : List (Int32 × ab_P) → ab_P → Int32 → ab_P
  | [], D, _ => D
  | (k, P) :: r, D, x => fun L st σ => (x = k → P L st σ) ∧ (¬ x = k → ab_swl r D x L st σ)
def ab_sw (cs : List (Int32 × ab_P)) (D : ab_P) : ab_P := fun L st σ => match st with
  | .int x :: r => ab_swl cs D x L r σ
  | _ => False
def ab_gf (w : ab_W) (ci k : Nat) (P : ab_P) : ab_P := fun L st σ => match st with
  | .ref a :: r => ab_kd w a = ci ∧ P L (.int (σ a k) :: r) σ
  | _ => False
def ab_gr (w : ab_W) (ci o : Nat) (P : ab_P) : ab_P := fun L st σ => match st with
  | .ref a :: r => ab_kd w a = ci ∧ P L (.ref (a + o) :: r) σ
  | _ => False
def ab_pf (w : ab_W) (ci k : Nat) (P : ab_P) : ab_P := fun L st σ => match st with
  | .int x :: .ref a :: r => ab_kd w a = ci ∧ P L r (ab_up σ a k x)
  | _ => False
def ab_pz (w : ab_W) (ci k : Nat) (P : ab_P) : ab_P := fun L st σ => match st with
  | .int x :: .ref a :: r => ab_kd w a = ci ∧ (x = 0 ∨ x = 1) ∧ P L r (ab_up σ a k x)
  | _ => False
def ab_pc (w : ab_W) (ci k : Nat) (P : ab_P) : ab_P := fun L st σ => match st with
  | .int x :: .ref a :: r => ab_kd w a = ci ∧ (∃ n, n < 65536 ∧ x = nI n) ∧ P L r (ab_up σ a k x)
  | _ => False
def ab_ia (w : ab_W) (kd : Nat) (P : ab_P) : ab_P := fun L st σ => match st with
  | .int i :: .ref a :: r => ab_kd w a = kd ∧ vp_in i (ab_ln w a) ∧ P L (.int (σ a i.toNatClampNeg) :: r) σ
  | _ => False
def ab_is (w : ab_W) (P : ab_P) : ab_P := fun L st σ => match st with
  | .int x :: .int i :: .ref a :: r => ab_kd w a = 11 ∧ vp_in i (ab_ln w a) ∧ P L r (ab_up σ a i.toNatClampNeg x)
  | _ => False
def ab_cs (w : ab_W) (P : ab_P) : ab_P := fun L st σ => match st with
  | .int x :: .int i :: .ref a :: r => ab_kd w a = 12 ∧ vp_in i (ab_ln w a) ∧ (∃ n, n < 65536 ∧ x = nI n) ∧ P L r (ab_up σ a i.toNatClampNeg x)
  | _ => False
def ab_zs (w : ab_W) (P : ab_P) : ab_P := fun L st σ => match st with
  | .int x :: .int i :: .ref a :: r => ab_kd w a = 13 ∧ vp_in i (ab_ln w a) ∧ (x = 0 ∨ x = 1) ∧ P L r (ab_up σ a i.toNatClampNeg x)
  | _ => False
def ab_la (w : ab_W) (P : ab_P) : ab_P := fun L st σ => match st with
  | .int i :: .ref a :: r => ab_kd w a = 15 ∧ vp_in i (ab_ln w a) ∧ P L (.long (σ a i.toNatClampNeg).toInt64 :: r) σ
  | _ => False
def ab_lw (w : ab_W) (P : ab_P) : ab_P := fun L st σ => match st with
  | .long x :: .int i :: .ref a :: r => ab_kd w a = 15 ∧ vp_in i (ab_ln w a) ∧ x = x.toInt32.toInt64 ∧ P L r (ab_up σ a i.toNatClampNeg x.toInt32)
  | _ => False
def ab_aa (w : ab_W) (P : ab_P) : ab_P := fun L st σ => match st with
  | .int i :: .ref a :: r => ab_kd w a = 14 ∧ vp_in i (ab_ln w a) ∧ P L (.ref (160 + 40 * i.toNatClampNeg) :: r) σ
  | _ => False
def ab_al (w : ab_W) (kd : Nat) (P : ab_P) : ab_P := fun L st σ => match st with
  | .ref a :: r => ab_kd w a = kd ∧ P L (.int (nI (ab_ln w a)) :: r) σ
  | _ => False
def ab_gs (w : ab_W) (v : Nat) (P : ab_P) : ab_P := fun L st σ => ab_kd w v = 20 ∧ P L (.ref v :: st) σ
def ab_acp (w : ab_W) (P : ab_P) : ab_P := fun L st σ => match st with
  | .int n :: .int dp :: .ref b :: .int sp :: .ref a :: r => ab_sh r = true ∧ ab_kd w a = 11 ∧ ab_kd w b = 11 ∧ sp = 0 ∧ dp = 0 ∧ ¬ n < 0 ∧ n.toNatClampNeg ≤ ab_ln w a ∧ n.toNatClampNeg ≤ ab_ln w b ∧ P L r (ab_cp σ a b n.toNatClampNeg)
  | _ => False
def ab_mth2 (f : Int32 → Int32 → Int32) (P : ab_P) : ab_P := fun L st σ => match st with
  | .int y :: .int x :: r => ab_sh r = true ∧ P L (.int (f x y) :: r) σ
  | _ => False
def ab_mth1 (f : Int32 → Int32) (P : ab_P) : ab_P := fun L st σ => match st with
  | .int x :: r => ab_sh r = true ∧ P L (.int (f x) :: r) σ
  | _ => False
def ab_ir (Kn : Option Value → ab_H → Prop) : ab_P := fun _ st σ => match st with
  | [.int v] => Kn (some (.int v)) σ
  | _ => False
def ab_zr (Kn : Option Value → ab_H → Prop) : ab_P := fun _ st σ => match st with
  | [.int v] => (v = 0 ∨ v = 1) ∧ Kn (some (.int v)) σ
  | _ => False
def ab_lr (Kn : Option Value → ab_H → Prop) : ab_P := fun _ st σ => match st with
  | [.long v] => Kn (some (.long v)) σ
  | _ => False
def ab_ar (Kn : Option Value → ab_H → Prop) : ab_P := fun _ st σ => match st with
  | [.ref v] => Kn (some (.ref v)) σ
  | _ => False
def ab_vr (Kn : Option Value → ab_H → Prop) : ab_P := fun _ st σ => match st with
  | [] => Kn none σ
  | _ => False
def ab_cN (w : ab_W) (n : Nat) (sN : ab_S) (P : ab_P) : ab_P := fun L st σ => match ab_tk n st [] with
  | some (As, r) => ab_sh r = true ∧ sN w As σ (fun v σ' => P L (v.toList ++ r) σ')
  | none => False
