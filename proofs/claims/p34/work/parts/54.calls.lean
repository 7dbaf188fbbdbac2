/-! THE CALLS AS VALUES: the code of the refusal (0 none, else its place among the exceptions of the call), the answer, the state behind it -/
abbrev cR : Type := Nat × Int32 × aS
def aNet (A : aS) (n : nT) : aS := (n, n_keep A.2.1 A.1, A.2.2)
def aTxt (A : aS) (t : Nat → Nat) (m : Nat) : aS := (A.1, A.2.1, A.2.2.1, A.2.2.2.1, t, m)
abbrev aM (A : aS) : Nat := A.2.2.2.2.2
abbrev aT (A : aS) : Nat → Nat := A.2.2.2.2.1
def c_append (c : Int32) (A : aS) : cR := if bt2 (nI 0) c (nI 255) then (if aM A = 120 then (2, 0, A) else (0, nI (aM A + 1), aTxt A (fun i => if i = aM A then cl c else aT A i) (aM A + 1))) else (1, 0, A)
def c_clearText (A : aS) : cR := (0, nI (aM A), aTxt A (aT A) 0)
def c_errorPosition (A : aS) : cR := (0, oI (p_text (aT A) (aM A)), A)
/-- the commands from place i on, at most k of them: the net, and how many were left out -/
def x_all (t : Nat → Nat) (m : Nat) : Nat → Nat → nT → Nat → nT × Nat
  | 0, _, n, q => (n, q)
  | k + 1, i, n, q => if i < m then (match (p_cmd t m i).2 with
    | none => (n, q)
    | some c => x_all t m k (p_cmd t m i).1 ((x_cmd n c).getD n) (match x_cmd n c with
      | none => q + 1
      | some _ => q)) else (n, q)
def c_load (A : aS) : cR := match p_text (aT A) (aM A) with
  | some _ => (1, 0, A)
  | none => (0, nI (x_all (aT A) (aM A) 120 1 n_new 0).2, ((x_all (aT A) (aM A) 120 1 n_new 0).1, [], none, none, A.2.2.2.2))
def n_ab (n : nT) (k : Nat) : Int32 := if k = 0 then n.1 1 else if k = 1 then n.1 2 else if k = 2 then n.1 0 else if k ≤ 8 then n.1 k else if k = 9 then nI n.2.2.1.length else if k = 10 then nI n.2.1.length else n_all n.1 (cl (n.1 1))
def c_about (i : Int32) (A : aS) : cR := if bt2 (nI 0) i (nI 11) then (0, n_ab A.1 (cl i), A) else (1, 0, A)
def n_st (n : nT) (s k : Nat) : Int32 := if k ≤ 3 then n.1 (21 + 11 * s + k) else if k = 4 then n_sondes n.1 s else if k ≤ 6 then n.1 (25 + 11 * s + k) else nI (n_deed (n_arr n).1 s)
def c_station (s i : Int32) (A : aS) : cR := if vS A.1.1 s then (if bt2 (nI 0) i (nI 7) then (0, n_st A.1 (cl s) (cl i), A) else (2, 0, A)) else (1, 0, A)
def c_stock (s k : Int32) (A : aS) : cR := if vS A.1.1 s then (if bt2 (nI 0) k (nI 4) then (0, A.1.1 (25 + 11 * cl s + cl k), A) else (2, 0, A)) else (1, 0, A)
abbrev vF (f : nF) (s : Int32) : Prop := 0 ≤ s ∧ s < f 2
def c_finder (s i : Int32) (A : aS) : cR := if vF A.1.1 s then (if bt2 (nI 0) i (nI 4) then (0, (if cl i = 4 then oI (n_near A.1.1 (A.1.1 (76 + 4 * cl s)) (cl (A.1.1 1))) else A.1.1 (76 + 4 * cl s + cl i)), A) else (2, 0, A)) else (1, 0, A)
def c_back (k i : Int32) (A : aS) : cR := if 0 ≤ k ∧ bt2 (nI 0) i (nI 2) then (0, n_num A.1.2.2.1 k (cl i), A) else (1, 0, A)
def c_gap (k i : Int32) (A : aS) : cR := if 0 ≤ k ∧ bt2 (nI 0) i (nI 2) then (0, n_gnum A.1.2.2.2 k (cl i), A) else (1, 0, A)
def c_windOf (h : Int32) (A : aS) : cR := if bt2 (nI 0) h (nI 3) then (0, nI 100 + A.1.1 (17 + cl h), A) else (1, 0, A)
def c_setting (h : Int32) (A : aS) : cR := if bt2 (nI 0) h (nI 4) then (0, A.1.1 (12 + cl h), A) else (1, 0, A)
/-- an action: refused for r, else the net becomes n and the answer is v -/
def c_act (r : Nat) (v : Int32) (n : nT) (A : aS) : cR := if r = 0 then (0, v, aNet A n) else (r, 0, A)
def c_addStation (p h z g k : Int32) (A : aS) : cR := c_act (rS (cl (A.1.1 1)) p h z g k - 1) (A.1.1 1) (n_addS A.1 p h z g k) A
def c_addFinder (p r d : Int32) (A : aS) : cR := c_act (rF (cl (A.1.1 2)) p r d - 1) (A.1.1 2) (n_addF A.1 p r d) A
def c_wind (h v : Int32) (A : aS) : cR := c_act (rW h v - 1) (nI 100 + A.1.1 (17 + cl h)) (n_wind A.1 (cl h) v) A
def c_change (s h z : Int32) (A : aS) : cR := c_act (rC A.1.1 s h z) (A.1.1 (22 + 11 * cl s)) (n_chg A.1 (cl s) h z) A
def c_deliver (s g k : Int32) (A : aS) : cR := c_act (rO A.1.1 A.1.2.1.length s g k) (n_price A.1.1 g k) (n_ord A.1 (cl s) (cl g) (cl k)) A
def c_move (s t : Int32) (A : aS) : cR := c_act (rM A.1.1 s t - rM A.1.1 s t / 3) (oI (n_most A.1.1 (cl s))) (n_mov A.1 (cl s) (cl t)) A
def c_run (n : Int32) (A : aS) : cR := c_act (if bt2 (nI 1) n (nI 40) then 0 else 1) ((n_run (cl n) A.1).1 4 - A.1.1 4) (n_run (cl n) A.1) A
def c_set (i v : Int32) (A : aS) : cR := c_act (rT i v - 1) (A.1.1 (12 + cl i)) (n_set A.1 (cl i) v) A
def c_undo (A : aS) : cR := match A.2.1.getLast? with
  | none => (1, 0, A)
  | some n => (0, nI (A.2.1.length - 1), (n, A.2.1.dropLast, A.2.2))
def c_landing (s h : Int32) (A : aS) : cR := if vS A.1.1 s then (if bt2 (nI 0) h (nI 3) then (0, n_land A.1.1 (cl s) (cl h), A) else (2, 0, A)) else (1, 0, A)
def c_finds (p : Int32) (A : aS) : cR := if bt2 (nI 0) p (nI 99) then (0, oI (n_who A.1.1 p (cl (A.1.1 2))), A) else (1, 0, A)
def c_coming (n i : Int32) (A : aS) : cR := if bt2 (nI 1) n (nI 60) ∧ bt2 (nI 0) i (nI 3) then (0, (if cl i = 0 then (n_run (cl n) A.1).1 4 - A.1.1 4 else if cl i = 1 then (n_run (cl n) A.1).1 5 - A.1.1 5 else if cl i = 2 then (n_run (cl n) A.1).1 3 - A.1.1 3 else n_all (n_run (cl n) A.1).1 (cl ((n_run (cl n) A.1).1 1))), A) else (1, 0, A)
/-- the first of the next d watches from the k-th on, behind which there are more gaps than c -/
def n_fg (n : nT) (c : Int32) : Nat → Nat → Option Nat
  | 0, _ => none
  | d + 1, k => if c < (n_run (k + 1) n).1 5 then some k else n_fg n c d (k + 1)
def c_firstGap (A : aS) : cR := (0, (match n_fg A.1 (A.1.1 5) 60 0 with
  | none => -1
  | some k => nI (cl (A.1.1 0) + k)), A)
def n_more (n : nT) (s : Nat) (g : Int32) : nT := (upd n.1 (24 + 11 * s) (n.1 (24 + 11 * s) + g), n.2)
/-- what is lacking in the watch of now, with so much more gas than there is -/
def n_lk (n : nT) (s g : Nat) : Nat := if n_deed (n_arr n).1 s = 0 then 0 else cl ((n_arr n).1 (23 + 11 * s)) + g - cl ((n_arr n).1 (24 + 11 * s))
def n_lack (n : nT) (s g : Nat) : Nat → Nat
  | 0 => 0
  | k + 1 => max (n_lack n s g k) (n_lk (n_run k (n_more n s (nI g))) s g)
def c_lacks (s n : Int32) (A : aS) : cR := if vS A.1.1 s then (if bt2 (nI 1) n (nI 60) then (0, nI (n_lack A.1 (cl s) 300 (cl n)), A) else (2, 0, A)) else (1, 0, A)
def c_ifDelivered (s g k n : Int32) (A : aS) : cR := if rO A.1.1 A.1.2.1.length s g k ≠ 1 ∧ ¬ bt2 (nI 1) n (nI 60) then (2, 0, A) else if rO A.1.1 A.1.2.1.length s g k = 0 then (0, (n_run (cl n) (n_ord A.1 (cl s) (cl g) (cl k))).1 5 - A.1.1 5, A) else (rO A.1.1 A.1.2.1.length s g k, 0, A)
/-- a command of a script, on a net: the net behind it, if it succeeds -/
def x_grp (n : nT) (g : Nat) : Option nT :=
  let d := g / 1000 % 10
  let m := g / 10 % 100
  let l := g % 10
  if g / 10000 = 1 then (if rO n.1 n.2.1.length (nI d) (nI m) (nI l) = 0 then some (n_ord n d m l) else none)
  else if g / 10000 = 2 then (if m % 10 = 0 ∧ l = 0 ∧ rM n.1 (nI d) (nI (m / 10)) = 0 then some (n_mov n d (m / 10)) else none)
  else if g / 10000 = 3 then (if rC n.1 (nI d) (nI m) (nI l) = 0 then some (n_chg n d (nI m) (nI l)) else none)
  else if g / 10000 = 4 then (if l = 0 ∧ rW (nI d) (nI m - nI 20) = 0 then some (n_wind n d (nI m - nI 20)) else none)
  else if g / 10000 = 5 then (if l = 0 ∧ rT (nI d) (nI m) = 0 then some (n_set n d (nI m)) else none)
  else if g / 10000 = 6 then (if g / 100 % 100 = 0 ∧ 1 ≤ g % 100 ∧ g % 100 ≤ 40 then some (n_run (g % 100) n) else none)
  else if g / 10000 = 7 then (if l = 0 ∧ d < cl (n.1 1) ∧ nI m ≤ n.1 (24 + 11 * d) then some n else none)
  else if g / 10000 = 8 then (if l = 0 ∧ d < cl (n.1 1) ∧ nI m ≤ n_sondes n.1 d then some n else none)
  else if g / 10000 = 9 then (if d = 0 ∧ l = 0 ∧ n.1 5 ≤ nI m then some n else none)
  else none
/-- the first command that fails, from the k-th on, j of them left -/
def x_scr (z : Nat) : Nat → Nat → nT → Option Nat
  | 0, _, _ => none
  | j + 1, k, n => match x_grp n (z / 100000 ^ j % 100000) with
    | none => some k
    | some n' => x_scr z j (k + 1) n'
def okZ (n : Int32) (z : Int64) : Prop := bt2 (nI 1) n (nI 3) ∧ 0 ≤ z.toInt ∧ z.toInt < 100000 ^ (cl n)
def c_runScript (n : Int32) (z : Int64) (A : aS) : cR := if bt2 (nI 1) n (nI 3) ∧ 0 ≤ z.toInt ∧ z.toInt < 100000 ^ (cl n) then (0, oI (x_scr z.toInt.toNat (cl n) 0 A.1), A) else (1, 0, A)
/-- a turn of a simulation -/
def x_turn (n : nT) (r : Nat) : nT :=
  let s := r / 8 % 5
  if r % 8 = 0 then (if rO n.1 n.2.1.length (nI s) (nI (r / 64 % 40)) (nI (r / 4096 % 5)) = 0 then n_ord n s (r / 64 % 40) (r / 4096 % 5) else n)
  else if r % 8 = 1 then (if rM n.1 (nI s) (nI (r / 64 % 5)) = 0 then n_mov n s (r / 64 % 5) else n)
  else if r % 8 = 2 then n_wind n (r / 8 % 4) (nI (r / 64 % 41) - nI 20)
  else if r % 8 = 3 then (if rC n.1 (nI s) (nI (r / 64 % 16)) (nI 1 + nI (r / 1024 % 5)) = 0 then n_chg n s (nI (r / 64 % 16)) (nI 1 + nI (r / 1024 % 5)) else n)
  else n_run (1 + r / 8 % 4) n
def x_next (x : Int64) : Int64 := x * 6364136223846793005 + 1442695040888963407
def x_r (x : Int64) : Nat := x.toUInt64.toNat / 2 ^ 33
def x_seq (x : Int64) : Nat → Int64
  | 0 => x
  | k + 1 => x_next (x_seq x k)
def x_sim (x : Int64) (n : nT) : Nat → nT
  | 0 => n
  | k + 1 => x_turn (x_sim x n k) (x_r (x_seq x (k + 1)))
def c_simulate (x : Int64) (m : Int32) (A : aS) : cR := if bt2 (nI 1) m (nI 40) then (0, nI 1000 * ((x_sim x A.1 (cl m)).1 4 - A.1.1 4) + (x_sim x A.1 (cl m)).1 5 - A.1.1 5, A) else (1, 0, A)
def aSlot (A : aS) (i : Int32) : Option nT := if i = 0 then A.2.2.1 else A.2.2.2.1
def c_save (i : Int32) (A : aS) : cR := if bt2 (nI 0) i (nI 1) then (0, A.1.1 0, if i = 0 then (A.1, A.2.1, some A.1, A.2.2.2) else (A.1, A.2.1, A.2.2.1, some A.1, A.2.2.2.2)) else (1, 0, A)
def c_restore (i : Int32) (A : aS) : cR := if bt2 (nI 0) i (nI 1) then (match aSlot A i with
  | none => (2, 0, A)
  | some n => (0, n.1 0, (n, [], A.2.2))) else (1, 0, A)
/-! a contract that says both: what is returned, and what is thrown -/
def cB (w : ab_W) (c : cR) (xs : List String) (σ : ab_H) (A : aS) (Kn : Option Value → ab_H → Prop) (Kx : String → ab_H → Prop) : Prop := (c.1 = 0 → ∀ σ', RA w σ' c.2.2 → FrA σ σ' → Kn (some (.int c.2.1)) σ') ∧ (∀ e E, c.1 = e + 1 → xs[e]? = some E → ∀ σ', RA w σ' A → FrA σ σ' → Kx E σ')
def sbA (w : ab_W) (σ : ab_H) (c : aS → cR) (xs : List String) (Kn : Option Value → ab_H → Prop) (Kx : String → ab_H → Prop) : Prop := wA w ∧ ∃ A T, RA w σ A ∧ WA T A ∧ T < 60000 ∧ cB w (c A) xs σ A Kn Kx
theorem FrA.refl {σ : ab_H} : FrA σ σ := fun _ _ _ => rfl
/-- facts of the state that the calls read -/
theorem RA.rd {w : ab_W} {σ : ab_H} {A : aS} (h : RA w σ A) : σ 41 0 = A.1.1 1 ∧ σ 49 0 = A.1.1 2 ∧ σ 40 7 = A.1.1 0 ∧ σ 40 8 = A.1.1 3 ∧ σ 40 9 = A.1.1 4 ∧ σ 63 0 = A.1.1 5 ∧ σ 40 10 = A.1.1 6 ∧ σ 40 11 = A.1.1 7 ∧ σ 40 12 = A.1.1 8 ∧ σ 59 0 = nI A.1.2.2.1.length ∧ σ 54 0 = nI A.1.2.1.length :=
  ⟨h.2.1.2.1.1, h.2.1.2.2.1.1, h.2.1.1.1, h.2.1.1.2.1, h.2.1.1.2.2.1, h.2.1.2.2.2.2.2.1.1, h.2.1.1.2.2.2.1, h.2.1.1.2.2.2.2.1, h.2.1.1.2.2.2.2.2, h.2.1.2.2.2.2.1.1, h.2.1.2.2.2.1.1⟩
theorem wN.k {w : ab_W} {b : Nat} (h : wN w b) : ab_kd w b = 3 ∧ ab_kd w (b + 1) = 7 ∧ ab_kd w (b + 9) = 0 ∧ ab_kd w (b + 14) = 4 ∧ ab_kd w (b + 19) = 5 ∧ ab_kd w (b + 23) = 1 := ⟨h.1, h.2.1.1, h.2.2.1.1, h.2.2.2.1.1, h.2.2.2.2.1.1, h.2.2.2.2.2.1.1⟩
theorem wA.k {w : ab_W} (h : wA w) : ab_kd w 0 = 9 ∧ ab_kd w 40 = 3 ∧ ab_kd w 41 = 7 ∧ ab_kd w 49 = 0 ∧ ab_kd w 54 = 4 ∧ ab_kd w 59 = 5 ∧ ab_kd w 63 = 1 ∧ ab_kd w 120 = 3 ∧ ab_kd w 121 = 7 ∧ ab_kd w 143 = 1 ∧ ab_kd w 4 = 2 := ⟨h.1, h.2.2.2.1.k.1, h.2.2.2.1.k.2.1, h.2.2.2.1.k.2.2.1, h.2.2.2.1.k.2.2.2.1, h.2.2.2.1.k.2.2.2.2.1, h.2.2.2.1.k.2.2.2.2.2, h.2.2.2.2.2.1.k.1, h.2.2.2.2.2.1.k.2.1, h.2.2.2.2.2.1.k.2.2.2.2.2, h.2.2.1.1⟩
