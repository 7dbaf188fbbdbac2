/-! THE NET AS A VALUE: numbers (0 now, 1 stations, 2 finders, 3 paid, 4 releases, 5 gaps, 6 lost, 7 came back, 8 scrapped, 12.. settings, 17.. winds, 21 + 11 s .. a station: place, hours, size, gas, stock 0..4, releases, gaps; 76 + 4 f .. a finder: place, reach, delay, found); deliveries (watch, station, gas, sondes); sondes on the way (watch, station, flights); the gaps that are remembered (watch, station, reason), the oldest first -/
abbrev nF : Type := Nat → Int32
abbrev nO : Type := Nat × Nat × Nat × Nat
abbrev nB : Type := Nat × Nat × Nat
abbrev nT : Type := nF × List nO × List nB × List nB
def cl (x : Int32) : Nat := x.toNatClampNeg
theorem cl_nI {k : Nat} (h : k < 2 ^ 31) : cl (nI k) = k := nI_clamp h
def oI : Option Nat → Int32
  | none => -1
  | some k => nI k
def n_most (f : nF) (s : Nat) : Option Nat := if 0 < f (29 + 11 * s) then some 4 else if 0 < f (28 + 11 * s) then some 3 else if 0 < f (27 + 11 * s) then some 2 else if 0 < f (26 + 11 * s) then some 1 else if 0 < f (25 + 11 * s) then some 0 else none
def n_hb (f : nF) (s h : Nat) : Int32 := (f (22 + 11 * s) >>> (nI h &&& 31)) &&& nI 1
def n_deed (f : nF) (s : Nat) : Nat := if n_hb f s (cl (f 0) % 4) = 0 then 0 else if f (24 + 11 * s) < f (23 + 11 * s) then 2 else if n_most f s = none then 3 else 1
def n_pl (f : nF) (s h : Nat) : Int32 := f (21 + 11 * s) + f (17 + h) * f (23 + 11 * s)
def n_land (f : nF) (s h : Nat) : Int32 := if 0 ≤ n_pl f s h ∧ n_pl f s h ≤ nI 99 then n_pl f s h else -1
def n_apart (a b : Int32) : Int32 := if a < b then b - a else a - b
theorem n_apart_dst {u v : Nat} (hu : u < 2 ^ 30) (hv : v < 2 ^ 30) : n_apart (nI u) (nI v) = nI (dst u v) := by
  unfold n_apart dst
  simp only [nI_lt' (show u < 2 ^ 31 by omega) (show v < 2 ^ 31 by omega)]
  by_cases h : u < v
  · rw [if_pos h, if_pos h, pk_sub (Nat.le_of_lt h)]
  · rw [if_neg h, if_neg h, pk_sub (by omega)]
def n_who (f : nF) (p : Int32) : Nat → Option Nat
  | 0 => none
  | k + 1 => match n_who f p k with
    | none => if n_apart (f (76 + 4 * k)) p ≤ f (77 + 4 * k) then some k else none
    | some b => if n_apart (f (76 + 4 * k)) p ≤ f (77 + 4 * k) ∧ n_apart (f (76 + 4 * k)) p < n_apart (f (76 + 4 * b)) p then some k else some b
def n_near (f : nF) (p : Int32) : Nat → Option Nat
  | 0 => none
  | k + 1 => match n_near f p k with
    | none => some k
    | some b => if n_apart (f (21 + 11 * k)) p < n_apart (f (21 + 11 * b)) p then some k else some b
def n_sondes (f : nF) (s : Nat) : Int32 := 0 + f (25 + 11 * s) + f (26 + 11 * s) + f (27 + 11 * s) + f (28 + 11 * s) + f (29 + 11 * s)
def n_all (f : nF) : Nat → Int32
  | 0 => 0
  | k + 1 => n_all f k + n_sondes f k
/-- where a sonde on the way is put: behind the last one of the first k that does not arrive later -/
def n_pos (l : List nB) (x : Nat) : Nat → Nat
  | 0 => 0
  | k + 1 => if x < (l.getD k (0, 0, 0)).1 then n_pos l x k else k + 1
def n_ins (x : nB) (l : List nB) : List nB := l.take (n_pos l x.1 l.length) ++ x :: l.drop (n_pos l x.1 l.length)
def n_addO (f : nF) (o : nO) : nF := upd (upd f (24 + 11 * o.2.1) (f (24 + 11 * o.2.1) + nI o.2.2.1)) (25 + 11 * o.2.1) (f (25 + 11 * o.2.1) + nI o.2.2.2)
def n_come (t : Nat) (f : nF) (o : nO) : nF := if o.1 = t then n_addO f o else f
def n_addB (f : nF) (b : nB) : nF := upd (upd (upd f (25 + 11 * b.2.1 + b.2.2) (f (25 + 11 * b.2.1 + b.2.2) + 1)) 7 (f 7 + 1)) 3 (f 3 + f 16)
def n_back (t : Nat) : List nB → nF → nF × List nB
  | [], f => (f, [])
  | b :: l, f => if b.1 = t then n_back t l (n_addB f b) else (f, b :: l)
def n_arr (n : nT) : nT :=
  let t := cl (n.1 0)
  let q := n_back t n.2.2.1 (n.2.1.foldl (n_come t) n.1)
  (q.1, n.2.1.filter (fun o => !(o.1 == t)), q.2, n.2.2.2)
def n_up1 (f : nF) (s m : Nat) : nF := upd (upd (upd (upd f (25 + 11 * s + m) (f (25 + 11 * s + m) - 1)) (24 + 11 * s) (f (24 + 11 * s) - f (23 + 11 * s))) (30 + 11 * s) (f (30 + 11 * s) + 1)) 4 (f 4 + 1)
def n_find (f : nF) (s : Nat) : Option Nat := if n_land f s (cl (f 0) % 4) = -1 then none else n_who f (n_land f s (cl (f 0) % 4)) (cl (f 2))
def n_rel (n : nT) (s : Nat) : nT :=
  let m := (n_most n.1 s).getD 0
  let f := n_up1 n.1 s m
  match n_find f s with
  | none => (upd f 6 (f 6 + 1), n.2)
  | some k =>
    let g := upd f (79 + 4 * k) (f (79 + 4 * k) + 1)
    if g 13 ≤ nI (m + 1) then (upd g 8 (g 8 + 1), n.2)
    else (g, n.2.1, n_ins (cl (g 0) + cl (g (78 + 4 * k)), (n_near g (g (76 + 4 * k)) (cl (g 1))).getD 0, m + 1) n.2.2.1, n.2.2.2)
def n_gap (n : nT) (s r : Nat) : nT := (upd (upd n.1 5 (n.1 5 + 1)) (31 + 11 * s) (n.1 (31 + 11 * s) + 1), n.2.1, n.2.2.1, (if n.2.2.2.length = 12 then n.2.2.2.drop 1 else n.2.2.2) ++ [(cl (n.1 0), s, r)])
def n_step (n : nT) (s : Nat) : nT := if n_deed n.1 s = 0 then n else if n_deed n.1 s = 1 then n_rel n s else n_gap n s (n_deed n.1 s - 1)
def n_loop : Nat → nT → nT
  | 0, n => n
  | k + 1, n => n_step (n_loop k n) k
def n_tick (n : nT) : nT := (upd n.1 0 (n.1 0 + 1), n.2)
def n_watch (n : nT) : nT := n_tick (n_loop (cl ((n_arr n).1 1)) (n_arr n))
def n_run : Nat → nT → nT
  | 0, n => n
  | k + 1, n => n_watch (n_run k n)
/-- the other changes -/
def n_addS (n : nT) (p h z g k : Int32) : nT := (fun i => if i = 1 then n.1 1 + 1 else if i = 21 + 11 * cl (n.1 1) then p else if i = 22 + 11 * cl (n.1 1) then h else if i = 23 + 11 * cl (n.1 1) then z else if i = 24 + 11 * cl (n.1 1) then g else if i = 25 + 11 * cl (n.1 1) then k else if 26 + 11 * cl (n.1 1) ≤ i ∧ i < 32 + 11 * cl (n.1 1) then 0 else n.1 i, n.2)
def n_addF (n : nT) (p r d : Int32) : nT := (fun i => if i = 2 then n.1 2 + 1 else if i = 76 + 4 * cl (n.1 2) then p else if i = 77 + 4 * cl (n.1 2) then r else if i = 78 + 4 * cl (n.1 2) then d else if i = 79 + 4 * cl (n.1 2) then 0 else n.1 i, n.2)
def n_wind (n : nT) (h : Nat) (v : Int32) : nT := (upd n.1 (17 + h) v, n.2)
def n_set (n : nT) (i : Nat) (v : Int32) : nT := (upd n.1 (12 + i) v, n.2)
def n_chg (n : nT) (s : Nat) (h z : Int32) : nT := (upd (upd n.1 (22 + 11 * s) h) (23 + 11 * s) z, n.2)
def n_price (f : nF) (g k : Int32) : Int32 := g * f 14 + k * f 15
def n_ord (n : nT) (s g k : Nat) : nT := (upd n.1 3 (n.1 3 + n_price n.1 (nI g) (nI k)), n.2.1 ++ [(cl (n.1 0) + cl (n.1 12), s, g, k)], n.2.2)
def n_mov (n : nT) (s to : Nat) : nT := let m := (n_most n.1 s).getD 0; (upd (upd n.1 (25 + 11 * s + m) (n.1 (25 + 11 * s + m) - 1)) (25 + 11 * to + m) (n.1 (25 + 11 * to + m) + 1), n.2)
def n_new : nT := (fun i => if i = 12 then nI 4 else if i = 13 then nI 3 else if i = 14 then nI 2 else if i = 15 then nI 20 else if i = 16 then nI 5 else 0, [], [], [])
/-! what holds of every net that can come to be: T bounds the watch -/
def n_cnt (l : List nB) (x : Nat) : Nat := (l.filter (fun b => decide (x ≤ b.1))).length
/-- the part that speaks of the numbers, at watch t -/
def WFf (T : Nat) (f : nF) : Prop := f 0 = nI (cl (f 0)) ∧ cl (f 0) ≤ T ∧ f 1 = nI (cl (f 1)) ∧ cl (f 1) ≤ 5 ∧ f 2 = nI (cl (f 2)) ∧ cl (f 2) ≤ 6 ∧
  (∀ s, s < cl (f 1) → (∃ p, p ≤ 99 ∧ f (21 + 11 * s) = nI p) ∧ (∃ z, 1 ≤ z ∧ z ≤ 5 ∧ f (23 + 11 * s) = nI z)) ∧
  (∀ k, k < cl (f 2) → (∃ p, p ≤ 99 ∧ f (76 + 4 * k) = nI p) ∧ (∃ p, p ≤ 20 ∧ f (77 + 4 * k) = nI p) ∧ (∃ p, 1 ≤ p ∧ p ≤ 30 ∧ f (78 + 4 * k) = nI p)) ∧
  (∃ p, 1 ≤ p ∧ p ≤ 30 ∧ f 12 = nI p) ∧ (∃ p, 1 ≤ p ∧ p ≤ 5 ∧ f 13 = nI p)
/-- gas, of which the least that is lacking speaks -/
def WFg (B : Nat) (f : nF) : Prop := ∀ s, s < cl (f 1) → ∃ g, g ≤ B ∧ f (24 + 11 * s) = nI g
def WFo (f : nF) (l : List nO) : Prop := l.length ≤ 8 ∧ ∀ o ∈ l, o.2.1 < cl (f 1) ∧ o.2.2.1 ≤ 999 ∧ o.2.2.2 ≤ 99 ∧ o.1 ≤ cl (f 0) + 30
def WFb (f : nF) (l : List nB) (lo m : Nat) : Prop := (∀ b ∈ l, cl (f 0) + lo ≤ b.1 ∧ b.1 ≤ cl (f 0) + 29 + lo ∧ b.2.1 < cl (f 1) ∧ 1 ≤ b.2.2 ∧ b.2.2 ≤ 4) ∧ l.Pairwise (fun a b => a.1 ≤ b.1) ∧ ∀ j, lo ≤ j → j ≤ 30 → n_cnt l (cl (f 0) + j) ≤ 5 * (30 - j) + m
def WFn (f : nF) (l : List nB) (m : Nat) : Prop := f 5 = nI (cl (f 5)) ∧ cl (f 5) ≤ 5 * cl (f 0) + m ∧ l.length = min (cl (f 5)) 12 ∧ ∀ b ∈ l, b.1 ≤ cl (f 0) ∧ b.2.1 < 5 ∧ 1 ≤ b.2.2 ∧ b.2.2 ≤ 2
/-- at the begin of a watch -/
def WF (T : Nat) (n : nT) : Prop := WFf T n.1 ∧ WFg (1000 + 8000 * T) n.1 ∧ WFo n.1 n.2.1 ∧ WFb n.1 n.2.2.1 0 0 ∧ WFn n.1 n.2.2.2 0
/-- within a watch, m stations through -/
def WFm (T m : Nat) (n : nT) : Prop := WFf T n.1 ∧ WFg (1000 + 8000 * (T + 1)) n.1 ∧ WFo n.1 n.2.1 ∧ WFb n.1 n.2.2.1 1 m ∧ WFn n.1 n.2.2.2 m
