/-! the text that the law tells is a text -/
def apl (l : List Nat) (a : aS) : aS := l.foldl (fun a c => ap1 c a) a
theorem apl_app {l m : List Nat} {a : aS} : apl (l ++ m) a = apl m (apl l a) := List.foldl_append ..
theorem apl_M : ∀ (l : List Nat) (a : aS), aM (apl l a) = aM a + l.length
  | [], a => rfl
  | c :: l, a => by
    show aM (apl l (ap1 c a)) = _
    rw [apl_M l, ap1_M, List.length_cons]; omega
theorem apl_ok : ∀ (l : List Nat) (a : aS), okA (apl l a) = okA a
  | [], a => rfl
  | c :: l, a => by show okA (apl l (ap1 c a)) = _; rw [apl_ok l, ap1_ok]
theorem apl_1 : ∀ (l : List Nat) (a : aS), (apl l a).1 = a.1
  | [], a => rfl
  | c :: l, a => by show (apl l (ap1 c a)).1 = _; rw [apl_1 l, ap1_1]
theorem apl_lo : ∀ (l : List Nat) (a : aS) (j : Nat), j < aM a → aT (apl l a) j = aT a j
  | [], a, j, _ => rfl
  | c :: l, a, j, h => by
    show aT (apl l (ap1 c a)) j = _
    rw [apl_lo l _ j (by rw [ap1_M]; omega)]
    exact if_neg (by omega)
theorem apl_at : ∀ (l : List Nat) (a : aS) (j c : Nat), l[j]? = some c → aT (apl l a) (aM a + j) = c
  | [], a, j, c, h => by cases h
  | d :: l, a, 0, c, h => by
    cases h
    show aT (apl l (ap1 d a)) (aM a + 0) = d
    rw [apl_lo l _ _ (by rw [ap1_M]; omega)]
    exact if_pos rfl
  | d :: l, a, j + 1, c, h => by
    have := apl_at l (ap1 d a) j c h
    rw [ap1_M] at this
    rw [show aM a + (j + 1) = aM a + 1 + j by omega]
    exact this
/-- from i on the text has the codes l -/
def tAt (t : Nat → Nat) (i : Nat) (l : List Nat) : Prop := ∀ j c, l[j]? = some c → t (i + j) = c
theorem tAt.cons {t : Nat → Nat} {i c : Nat} {l : List Nat} (h : tAt t i (c :: l)) : t i = c ∧ tAt t (i + 1) l :=
  ⟨h 0 c rfl, fun j d hd => by rw [show i + 1 + j = i + (j + 1) by omega]; exact h (j + 1) d hd⟩
theorem tAt.app {t : Nat → Nat} {i : Nat} {l m : List Nat} (h : tAt t i (l ++ m)) : tAt t i l ∧ tAt t (i + l.length) m :=
  ⟨fun j c hc => h j c (by rw [List.getElem?_append_left (List.getElem?_eq_some_iff.mp hc).1]; exact hc), fun j c hc => by
    rw [show i + l.length + j = i + (l.length + j) by omega]
    exact h _ c (by rw [List.getElem?_append_right (by omega), show l.length + j - l.length = j by omega]; exact hc)⟩
theorem p_n1_ok {t : Nat → Nat} {m i lo hi d : Nat} (him : i < m) (ht : t i = 48 + d) (h1 : lo ≤ d) (h2 : d ≤ hi) (h9 : d ≤ 9) : p_n t m i 1 lo hi = (i + 1, some d) := by
  unfold p_n p_n1 p_d
  rw [if_pos rfl, ht, if_pos (by omega), show 48 + d - 48 = d by omega]
theorem p_n2_ok {t : Nat → Nat} {m i lo hi v : Nat} (him : i + 1 < m) (ha : t i = 48 + v / 10) (hb : t (i + 1) = 48 + v % 10) (h1 : lo ≤ v) (h2 : v ≤ hi) (h9 : hi ≤ 99) : p_n t m i 2 lo hi = (i + 1 + 1, some v) := by
  unfold p_n p_n2 p_d
  rw [if_neg (by omega), ha, if_pos (by omega), show 48 + v / 10 - 48 = v / 10 by omega]
  dsimp only
  rw [hb, if_pos ⟨by omega, by omega, by omega, by split <;> omega, by split <;> omega⟩, show 48 + v % 10 - 48 = v % 10 by omega]
  dsimp only
  rw [show 10 * (v / 10) + v % 10 = v by omega]
theorem pb_ok9 {α β : Type} {i : Nat} {a : α} {f : α → Nat → tP β} : pb (i, some a) f = f a i := rfl
theorem c_s_ok {t : Nat → Nat} {m i p h z g k : Nat} (hm : i + 9 ≤ m) (ht : tAt t i [115, 48 + p / 10, 48 + p % 10, 48 + h / 10, 48 + h % 10, 48 + z, 48 + g / 10, 48 + g % 10, 48 + k]) (hp : p ≤ 99) (hh : h ≤ 15) (hz : 1 ≤ z ∧ z ≤ 5) (hg : g ≤ 99) (hk : k ≤ 9) : p_cmd t m i = (i + 9, some (115, p, h, z, g, k)) := by
  obtain ⟨t0, ht⟩ := ht.cons; obtain ⟨t1, ht⟩ := ht.cons; obtain ⟨t2, ht⟩ := ht.cons; obtain ⟨t3, ht⟩ := ht.cons; obtain ⟨t4, ht⟩ := ht.cons; obtain ⟨t5, ht⟩ := ht.cons; obtain ⟨t6, ht⟩ := ht.cons; obtain ⟨t7, ht⟩ := ht.cons; obtain ⟨t8, ht⟩ := ht.cons
  unfold p_cmd
  rw [if_pos t0]
  unfold p_s
  rw [p_n2_ok (v := p) (by omega) t1 t2 (by omega) hp (by omega), pb_ok9, p_n2_ok (v := h) (by omega) t3 t4 (by omega) hh (by omega), pb_ok9, p_n1_ok (d := z) (by omega) t5 hz.1 hz.2 (by omega), pb_ok9, p_n2_ok (v := g) (by omega) t6 t7 (by omega) hg (by omega), pb_ok9, p_n1_ok (d := k) (by omega) t8 (by omega) hk hk, pb_ok9]
  first | done | rfl
theorem c_f_ok {t : Nat → Nat} {m i p r d : Nat} (hm : i + 7 ≤ m) (ht : tAt t i [102, 48 + p / 10, 48 + p % 10, 48 + r / 10, 48 + r % 10, 48 + d / 10, 48 + d % 10]) (hp : p ≤ 99) (hr : r ≤ 20) (hd : 1 ≤ d ∧ d ≤ 30) : p_cmd t m i = (i + 7, some (102, p, r, d, 0, 0)) := by
  obtain ⟨t0, ht⟩ := ht.cons; obtain ⟨t1, ht⟩ := ht.cons; obtain ⟨t2, ht⟩ := ht.cons; obtain ⟨t3, ht⟩ := ht.cons; obtain ⟨t4, ht⟩ := ht.cons; obtain ⟨t5, ht⟩ := ht.cons; obtain ⟨t6, ht⟩ := ht.cons
  unfold p_cmd
  rw [if_neg (by omega), if_pos t0]
  unfold p_f
  rw [p_n2_ok (v := p) (by omega) t1 t2 (by omega) hp (by omega), pb_ok9, p_n2_ok (v := r) (by omega) t3 t4 (by omega) hr (by omega), pb_ok9, p_n2_ok (v := d) (by omega) t5 t6 hd.1 hd.2 (by omega), pb_ok9]
  first | done | rfl
theorem c_w_ok {t : Nat → Nat} {m i h c v : Nat} (hm : i + 5 ≤ m) (ht : tAt t i [119, 48 + h, c, 48 + v / 10, 48 + v % 10]) (hh : h ≤ 3) (hc : c = 43 ∨ c = 45) (hv : v ≤ 20) : ∃ q, p_cmd t m i = (i + 5, some q) := by
  obtain ⟨t0, ht⟩ := ht.cons; obtain ⟨t1, ht⟩ := ht.cons; obtain ⟨t2, ht⟩ := ht.cons; obtain ⟨t3, ht⟩ := ht.cons; obtain ⟨t4, ht⟩ := ht.cons
  unfold p_cmd
  rw [if_neg (by omega), if_neg (by omega), if_pos t0]
  unfold p_w
  rw [p_n1_ok (d := h) (by omega) t1 (by omega) hh (by omega), pb_ok9]
  rcases hc with rfl | rfl
  · have e : p_pm t m (i + 1 + 1) = (i + 1 + 1 + 1, some false) := by unfold p_pm; rw [if_neg (by omega), if_pos (by omega)]
    rw [e, pb_ok9, p_n2_ok (v := v) (by omega) t3 t4 (by omega) hv (by omega), pb_ok9]
    exact ⟨_, rfl⟩
  · have e : p_pm t m (i + 1 + 1) = (i + 1 + 1 + 1, some true) := by unfold p_pm; rw [if_pos (by omega)]
    rw [e, pb_ok9, p_n2_ok (v := v) (by omega) t3 t4 (by omega) hv (by omega), pb_ok9]
    exact ⟨_, rfl⟩
theorem c_d_ok {t : Nat → Nat} {m i s g k : Nat} (hm : i + 5 ≤ m) (ht : tAt t i [100, 48 + s, 48 + g / 10, 48 + g % 10, 48 + k]) (hs : s ≤ 4) (hg : g ≤ 99) (hk : k ≤ 9) : p_cmd t m i = (i + 5, some (100, s, g, k, 0, 0)) := by
  obtain ⟨t0, ht⟩ := ht.cons; obtain ⟨t1, ht⟩ := ht.cons; obtain ⟨t2, ht⟩ := ht.cons; obtain ⟨t3, ht⟩ := ht.cons; obtain ⟨t4, ht⟩ := ht.cons
  unfold p_cmd
  rw [if_neg (by omega), if_neg (by omega), if_neg (by omega), if_pos t0]
  unfold p_o
  rw [p_n1_ok (d := s) (by omega) t1 (by omega) hs (by omega), pb_ok9, p_n2_ok (v := g) (by omega) t2 t3 (by omega) hg (by omega), pb_ok9, p_n1_ok (d := k) (by omega) t4 (by omega) hk hk, pb_ok9]
  first | done | rfl
theorem c_r_ok {t : Nat → Nat} {m i n : Nat} (hm : i + 2 ≤ m) (ht : tAt t i [114, 48 + n]) (hn : 1 ≤ n ∧ n ≤ 9) : p_cmd t m i = (i + 2, some (114, n, 0, 0, 0, 0)) := by
  obtain ⟨t0, ht⟩ := ht.cons; obtain ⟨t1, ht⟩ := ht.cons
  unfold p_cmd
  rw [if_neg (by omega), if_neg (by omega), if_neg (by omega), if_neg (by omega), if_pos t0]
  unfold p_r
  rw [p_n1_ok (d := n) (by omega) t1 hn.1 hn.2 (by omega), pb_ok9]
  first | done | rfl
theorem p_err_s {t : Nat → Nat} {m k i j : Nat} {q : tC} (him : i < m) (h : p_cmd t m i = (j, some q)) : p_err t m (k + 1) i = p_err t m k j := by
  rw [p_err, if_pos him, h]
theorem p_err_e {t : Nat → Nat} {m k i : Nat} (him : m ≤ i) : p_err t m k i = none := by
  cases k with
  | zero => rfl
  | succ k => rw [p_err, if_neg (by omega)]
/-- the numbers of the k-th piece -/
def tv (u k : Nat) : Nat := u / 2 ^ k % 100000 + 101 * k
def tw (v k : Nat) : Nat := v / 2 ^ k % 100000 + 103 * k
def d2 (v : Nat) : List Nat := [48 + v / 10, 48 + v % 10]
def pcS (v w : Nat) : List Nat := [115, 48 + (v % 100) / 10, 48 + (v % 100) % 10, 48 + (v / 100 % 16) / 10, 48 + (v / 100 % 16) % 10, 49 + w % 5, 48 + (w / 5 % 80) / 10, 48 + (w / 5 % 80) % 10, 48 + w / 400 % 6]
def pcF (v w : Nat) : List Nat := [102, 48 + ((v % 100 + w % 15) % 100) / 10, 48 + ((v % 100 + w % 15) % 100) % 10, 48 + (6 + v / 7 % 15) / 10, 48 + (6 + v / 7 % 15) % 10, 48 + (1 + w / 9 % 9) / 10, 48 + (1 + w / 9 % 9) % 10]
def pcW (v w k : Nat) : List Nat := [119, 48 + k, (if w % 2 = 0 then 45 else 43), 48 + (v / 13 % 9) / 10, 48 + (v / 13 % 9) % 10]
def pc (v w k : Nat) : List Nat := pcS v w ++ pcF v w ++ pcW v w k
def pcE (u v : Nat) : List Nat := [100, 48 + u % 3, 48 + (1 + v % 60) / 10, 48 + (1 + v % 60) % 10, 48 + u / 3 % 4, 114, 49 + v % 5]
def tl (u v : Nat) : List Nat := [78] ++ pc (tv u 0) (tw v 0) 0 ++ pc (tv u 1) (tw v 1) 1 ++ pc (tv u 2) (tw v 2) 2 ++ pcE u v
theorem pc_len {v w k : Nat} : (pc v w k).length = 21 := rfl
theorem tl_len {u v : Nat} : (tl u v).length = 71 := rfl
theorem pc_err {t : Nat → Nat} {m i v w k f : Nat} (hm : i + 21 ≤ m) (ht : tAt t i (pc v w k)) (hk : k ≤ 3) : p_err t m (f + 3) i = p_err t m f (i + 21) := by
  obtain ⟨h1, h3⟩ := ht.app
  obtain ⟨h1, h2⟩ := h1.app
  have a1 := c_s_ok (p := v % 100) (h := v / 100 % 16) (z := 1 + w % 5) (g := w / 5 % 80) (k := w / 400 % 6) (t := t) (m := m) (i := i) (by omega) (by rw [show 48 + (1 + w % 5) = 49 + w % 5 by omega]; exact h1) (by omega) (by omega) (by omega) (by omega) (by omega)
  have a2 := c_f_ok (p := (v % 100 + w % 15) % 100) (r := 6 + v / 7 % 15) (d := 1 + w / 9 % 9) (m := m) (i := i + 9) (by omega) h2 (by omega) (by omega) (by omega)
  obtain ⟨q, a3⟩ := c_w_ok (h := k) (c := if w % 2 = 0 then 45 else 43) (v := v / 13 % 9) (m := m) (i := i + 16) (by omega) h3 hk (by split <;> simp) (by omega)
  rw [p_err_s (by omega) a1, p_err_s (by omega) a2, p_err_s (by omega) a3]
theorem tl_err {t : Nat → Nat} {u v : Nat} (ht : tAt t 0 (tl u v)) : p_text t 71 = none := by
  obtain ⟨h1, h5⟩ := ht.app
  obtain ⟨h1, h4⟩ := h1.app
  obtain ⟨h1, h3⟩ := h1.app
  obtain ⟨h1, h2⟩ := h1.app
  have t0 := (h1.cons).1
  unfold p_text
  rw [if_pos ⟨by omega, t0⟩]
  have b1 := pc_err (f := 117) (m := 71) (i := 1) (by omega) h2 (by omega)
  have b2 := pc_err (f := 114) (m := 71) (i := 22) (by omega) h3 (by omega)
  have b3 := pc_err (f := 111) (m := 71) (i := 43) (by omega) h4 (by omega)
  have h5' : tAt t 64 ([100, 48 + u % 3, 48 + (1 + v % 60) / 10, 48 + (1 + v % 60) % 10, 48 + u / 3 % 4] ++ [114, 49 + v % 5]) := h5
  obtain ⟨h6, h7⟩ := h5'.app
  have a1 := c_d_ok (s := u % 3) (g := 1 + v % 60) (k := u / 3 % 4) (m := 71) (i := 64) (by omega) h6 (by omega) (by omega) (by omega)
  have a2 := c_r_ok (n := 1 + v % 5) (m := 71) (i := 69) (by omega) (by rw [show 48 + (1 + v % 5) = 49 + v % 5 by omega]; exact h7) (by omega)
  rw [show (120 : Nat) = 117 + 3 from rfl, b1, show (117 : Nat) = 114 + 3 from rfl, b2, show (114 : Nat) = 111 + 3 from rfl, b3, show (111 : Nat) = 110 + 1 from rfl, p_err_s (by omega) a1, show (110 : Nat) = 109 + 1 from rfl, p_err_s (by omega) a2]
  exact p_err_e (by omega)
/-- the state behind the telling -/
def tellA (u v : Nat) (a : aS) : aS := apl (tl u v) (c_clearText a).2.2
theorem tellA_err {u v : Nat} {a : aS} : (c_errorPosition (tellA u v a)).2.1 = -1 := by
  have hm : aM (tellA u v a) = 71 := by unfold tellA; rw [apl_M, tl_len]; rfl
  have ht : tAt (aT (tellA u v a)) 0 (tl u v) := fun j c hc => by
    have := apl_at (tl u v) (c_clearText a).2.2 j c hc
    exact this
  show oI (p_text (aT (tellA u v a)) (aM (tellA u v a))) = -1
  rw [hm, tl_err ht]
  rfl
theorem tellA_1 {u v : Nat} {a : aS} : (tellA u v a).1 = a.1 := apl_1 _ _
theorem apl_2 : ∀ (l : List Nat) (a : aS), (apl l a).2.1 = a.2.1 ∧ (apl l a).2.2.1 = a.2.2.1 ∧ (apl l a).2.2.2.1 = a.2.2.2.1
  | [], a => ⟨rfl, rfl, rfl⟩
  | c :: l, a => apl_2 l (ap1 c a)
theorem tellA_G {u v k : Nat} {a : aS} (h : GB k a) : GB k (tellA u v a) := by
  have e1 : (tellA u v a).1 = a.1 := tellA_1
  obtain ⟨e2, e3, e4⟩ := apl_2 (tl u v) (c_clearText a).2.2
  have f2 : (tellA u v a).2.1 = a.2.1 := e2
  have f3 : (tellA u v a).2.2.1 = a.2.2.1 := e3
  have f4 : (tellA u v a).2.2.2.1 = a.2.2.2.1 := e4
  have hm : aM (tellA u v a) = 71 := by unfold tellA; rw [apl_M, tl_len]; rfl
  unfold GB WA
  rw [e1, f2, f3, f4, hm]
  exact ⟨h.1, h.2.1, h.2.2.1, h.2.2.2.1, h.2.2.2.2.1, by omega, h.2.2.2.2.2.2⟩
