/-! THE STATE THAT 'FOLLOWS' COMES BACK TO -/
def sS (a : aS) (mem : List nT) : aS := (a.1, mem, a.2.2.1, some a.1, a.2.2.2.2)
def mk9 (mem : List nT) : List nT := if mem.length = 14 then mem.drop 1 else mem
theorem sS_1 {a : aS} {mem : List nT} : (sS a mem).1 = a.1 := rfl
theorem aNet_1 {a : aS} {n : nT} : (aNet a n).1 = n := rfl
theorem sv_save {a : aS} : c_save (nI 1) a = (0, a.1.1 0, sS a a.2.1) := by
  unfold c_save
  rw [if_pos (by decide), if_neg (by decide)]
  rfl
theorem u_act {a : aS} {mem : List nT} {n : nT} : c_undo (aNet (sS a mem) n) = (0, nI ((n_keep mem a.1).length - 1), sS a (mk9 mem)) := by
  unfold c_undo
  have e : (aNet (sS a mem) n).2.1 = mk9 mem ++ [a.1] := rfl
  have e2 : n_keep mem a.1 = mk9 mem ++ [a.1] := rfl
  rw [e, e2, List.getLast?_concat, List.dropLast_concat]
  rfl
theorem mk9_G {k : Nat} {a : aS} {mem : List nT} (h : GB k (sS a mem)) : GB k (sS a (mk9 mem)) := by
  have hs : ∀ x, x ∈ mk9 mem → x ∈ mem := fun x hx => by
    unfold mk9 at hx
    split at hx
    · exact List.mem_of_mem_drop hx
    · exact hx
  have hl : (mk9 mem).length ≤ 14 := by
    have : mem.length ≤ 14 := h.2.2.2.2.2.2
    unfold mk9
    split
    · rw [List.length_drop]; omega
    · exact this
  obtain ⟨⟨w1, w2, w3⟩, h1, h2, h3, h4, h5, -⟩ := h
  exact ⟨⟨w1, fun x hx => w2 x (hs x hx), w3⟩, h1, fun x hx => h2 x (hs x hx), h3, h4, h5, hl⟩
theorem nil_G {k : Nat} {a : aS} {mem : List nT} (h : GB k (sS a mem)) : GB k (sS a []) := by
  obtain ⟨⟨w1, w2, w3⟩, h1, h2, h3, h4, h5, -⟩ := h
  exact ⟨⟨w1, fun x hx => absurd hx List.not_mem_nil, w3⟩, h1, fun x hx => absurd hx List.not_mem_nil, h3, h4, h5, Nat.zero_le _⟩
theorem rs_1 {a : aS} {mem : List nT} : c_restore (nI 1) (sS a mem) = (0, a.1.1 0, sS a []) := by
  unfold c_restore
  rw [if_pos (by decide)]
  have e : aSlot (sS a mem) (nI 1) = some a.1 := by
    unfold aSlot
    rw [if_neg (by decide)]
    rfl
  rw [e]
  rfl
theorem u_nil {a : aS} : c_undo (sS a []) = (1, 0, sS a []) := rfl
theorem r_run {a : aS} {mem : List nT} {N : Nat} (h1 : 1 ≤ N) (h2 : N ≤ 40) : c_run (nI N) (sS a mem) = (0, n_cm a.1 0 N, aNet (sS a mem) (n_run N a.1)) := by
  have hk : bt2 (nI 1) (nI N) (nI 40) := ⟨by rw [nI_le' (by omega) (by omega)]; exact h1, by rw [nI_le' (by omega) (by omega)]; exact h2⟩
  unfold c_run c_act
  rw [if_pos hk, if_pos rfl, cl_nI (by omega)]
  rfl
theorem rO_cases {f : nF} {len s g : Nat} (hs : vS f (nI s)) (h5 : 1 ≤ g) (hg : g ≤ 999) : rO f len (nI s) (nI g) (nI 0) = (if 8 ≤ len then 3 else 0) := by
  have hk : okL (nI g) (nI 0) := ⟨⟨nI_pos' (by omega), by rw [nI_le' (by omega) (by omega)]; exact hg⟩, by decide⟩
  have hn : ¬ (nI g = 0 ∧ nI 0 = 0) := fun q => by have := q.1; rw [nI_e0 (by omega)] at this; omega
  unfold rO
  rw [if_pos hs, if_pos hk]
  by_cases h : 8 ≤ len
  · rw [if_pos (Or.inr h), if_pos h]
  · rw [if_neg (fun q => q.elim hn h), if_neg h]
theorem r_del {a : aS} {mem : List nT} {s g : Nat} (hs : vS a.1.1 (nI s)) (hs5 : s < 5) (h5 : 1 ≤ g) (hg : g ≤ 999) (hl : ¬ 8 ≤ a.1.2.1.length) : c_deliver (nI s) (nI g) (nI 0) (sS a mem) = (0, n_price a.1.1 (nI g) (nI 0), aNet (sS a mem) (n_ord a.1 s g 0)) := by
  unfold c_deliver c_act
  rw [sS_1, rO_cases hs h5 hg, if_neg hl, if_pos rfl, cl_nI (by omega), cl_nI (by omega), cl_nI (by omega)]
theorem r_chg {a : aS} {mem : List nT} {s : Nat} (hs : vS a.1.1 (nI s)) (hs5 : s < 5) : c_change (nI s) (nI 0) (nI 1) (sS a mem) = (0, a.1.1 (22 + 11 * s), aNet (sS a mem) (n_chg a.1 s (nI 0) (nI 1))) := by
  unfold c_change rC c_act
  rw [sS_1, if_pos hs, if_pos (by decide), cl_nI (by omega)]
theorem r_mov {a : aS} {mem : List nT} {s t m : Nat} (hs : vS a.1.1 (nI s)) (ht : vS a.1.1 (nI t)) (hs5 : s < 5) (ht5 : t < 5) (hst : s ≠ t) (hm : n_most a.1.1 s = some m) : c_move (nI s) (nI t) (sS a mem) = (0, nI m, aNet (sS a mem) (n_mov a.1 s t)) := by
  have h3 : rM a.1.1 (nI s) (nI t) = 0 := by
    unfold rM
    rw [if_pos (show vS a.1.1 (nI s) ∧ vS a.1.1 (nI t) from ⟨hs, ht⟩), if_neg (fun q => q.elim (fun e => hst (nI_inj (by omega) (by omega) e)) (fun e => by rw [cl_nI (by omega), hm] at e; cases e))]
  unfold c_move c_act
  rw [sS_1, h3, if_pos (by decide), cl_nI (by omega), cl_nI (by omega), hm]
  rfl
theorem v_ifd {n : nT} {s g N : Nat} (hs : vS n.1 (nI s)) (hs5 : s < 5) (h5 : 1 ≤ g) (hg : g ≤ 999) (h1 : 1 ≤ N) (h2 : N ≤ 60) : v_ifDelivered (nI s) (nI g) (nI 0) (nI N) n = (if 8 ≤ n.2.1.length then -9000000000000000003 else (n_cm (n_ord n s g 0) 1 N).toInt64) := by
  have hk : bt2 (nI 1) (nI N) (nI 60) := ⟨by rw [nI_le' (by omega) (by omega)]; exact h1, by rw [nI_le' (by omega) (by omega)]; exact h2⟩
  unfold v_ifDelivered
  rw [rO_cases hs h5 hg, if_neg (fun q => q.2 hk), cl_nI (by omega), cl_nI (by omega), cl_nI (by omega), cl_nI (by omega)]
  by_cases h : 8 ≤ n.2.1.length
  · rw [if_pos h, if_pos h]; rfl
  · rw [if_neg h, if_neg h, if_pos rfl]
    have e5 : (n_ord n s g 0).1 5 = n.1 5 := n_ord_i (by omega)
    unfold n_cm
    rw [if_neg (by omega), if_pos rfl, e5]
theorem v_lck {n : nT} {s N : Nat} (hs : vS n.1 (nI s)) (hs5 : s < 5) (h1 : 1 ≤ N) (h2 : N ≤ 60) : v_lacks (nI s) (nI N) n = (nI (n_lack n s 300 N)).toInt64 := by
  have hk : bt2 (nI 1) (nI N) (nI 60) := ⟨by rw [nI_le' (by omega) (by omega)]; exact h1, by rw [nI_le' (by omega) (by omega)]; exact h2⟩
  unfold v_lacks
  rw [if_pos hs, if_pos hk, cl_nI (by omega), cl_nI (by omega)]
theorem most_some {B : Nat} {n : nT} (h : KN B n) (hB : B < 2 ^ 30) {s : Nat} (hs : s < cl (n.1 1)) (h0 : 0 < su n.1 (25 + 11 * s) 1 5) : ∃ m, n_most n.1 s = some m ∧ m ≤ 4 ∧ 0 < cl (n.1 (25 + 11 * s + m)) ∧ ∀ j, m < j → j ≤ 4 → cl (n.1 (25 + 11 * s + j)) = 0 := by
  obtain ⟨h1, -, -⟩ := h.st hB hs
  have hp : ∀ j, j ≤ 4 → ((0 < n.1 (25 + 11 * s + j)) ↔ 0 < cl (n.1 (25 + 11 * s + j))) := fun j hj => by
    obtain ⟨q1, q2⟩ := h1 j hj
    refine ⟨fun q => cl_pos q1 (by omega) q, fun q => ?_⟩
    rw [q1]
    show nI 0 < nI _
    rw [nI_lt' (by omega) (by omega)]; exact q
  have p4 := hp 4 (by omega); have p3 := hp 3 (by omega); have p2 := hp 2 (by omega); have p1 := hp 1 (by omega); have p0 := hp 0 (by omega)
  rw [show 25 + 11 * s + 4 = 29 + 11 * s by omega] at p4; rw [show 25 + 11 * s + 3 = 28 + 11 * s by omega] at p3; rw [show 25 + 11 * s + 2 = 27 + 11 * s by omega] at p2; rw [show 25 + 11 * s + 1 = 26 + 11 * s by omega] at p1; rw [Nat.add_zero] at p0
  have hsum : su n.1 (25 + 11 * s) 1 5 = cl (n.1 (25 + 11 * s)) + cl (n.1 (26 + 11 * s)) + cl (n.1 (27 + 11 * s)) + cl (n.1 (28 + 11 * s)) + cl (n.1 (29 + 11 * s)) := by
    show 0 + cl (n.1 (25 + 11 * s + 1 * 0)) + cl (n.1 (25 + 11 * s + 1 * 1)) + cl (n.1 (25 + 11 * s + 1 * 2)) + cl (n.1 (25 + 11 * s + 1 * 3)) + cl (n.1 (25 + 11 * s + 1 * 4)) = _
    rw [show 25 + 11 * s + 1 * 0 = 25 + 11 * s by omega, show 25 + 11 * s + 1 * 1 = 26 + 11 * s by omega, show 25 + 11 * s + 1 * 2 = 27 + 11 * s by omega, show 25 + 11 * s + 1 * 3 = 28 + 11 * s by omega, show 25 + 11 * s + 1 * 4 = 29 + 11 * s by omega]
    omega
  unfold n_most
  have x4 : ∀ j, 3 < j → j ≤ 4 → 25 + 11 * s + j = 29 + 11 * s := fun j a b => by omega
  by_cases q4 : 0 < n.1 (29 + 11 * s)
  · rw [if_pos q4]
    exact ⟨4, rfl, by omega, by rw [show 25 + 11 * s + 4 = 29 + 11 * s by omega]; exact p4.mp q4, fun j a b => by omega⟩
  · rw [if_neg q4]
    have z4 : cl (n.1 (29 + 11 * s)) = 0 := Nat.eq_zero_of_not_pos (fun h => q4 (p4.mpr h))
    by_cases q3 : 0 < n.1 (28 + 11 * s)
    · rw [if_pos q3]
      exact ⟨3, rfl, by omega, by rw [show 25 + 11 * s + 3 = 28 + 11 * s by omega]; exact p3.mp q3, fun j a b => by rw [show 25 + 11 * s + j = 29 + 11 * s by omega]; exact z4⟩
    · rw [if_neg q3]
      have z3 : cl (n.1 (28 + 11 * s)) = 0 := Nat.eq_zero_of_not_pos (fun h => q3 (p3.mpr h))
      by_cases q2 : 0 < n.1 (27 + 11 * s)
      · rw [if_pos q2]
        refine ⟨2, rfl, by omega, by rw [show 25 + 11 * s + 2 = 27 + 11 * s by omega]; exact p2.mp q2, fun j a b => ?_⟩
        rcases (show j = 3 ∨ j = 4 by omega) with rfl | rfl
        · rw [show 25 + 11 * s + 3 = 28 + 11 * s by omega]; exact z3
        · rw [show 25 + 11 * s + 4 = 29 + 11 * s by omega]; exact z4
      · rw [if_neg q2]
        have z2 : cl (n.1 (27 + 11 * s)) = 0 := Nat.eq_zero_of_not_pos (fun h => q2 (p2.mpr h))
        by_cases q1 : 0 < n.1 (26 + 11 * s)
        · rw [if_pos q1]
          refine ⟨1, rfl, by omega, by rw [show 25 + 11 * s + 1 = 26 + 11 * s by omega]; exact p1.mp q1, fun j a b => ?_⟩
          rcases (show j = 2 ∨ j = 3 ∨ j = 4 by omega) with rfl | rfl | rfl
          · rw [show 25 + 11 * s + 2 = 27 + 11 * s by omega]; exact z2
          · rw [show 25 + 11 * s + 3 = 28 + 11 * s by omega]; exact z3
          · rw [show 25 + 11 * s + 4 = 29 + 11 * s by omega]; exact z4
        · rw [if_neg q1]
          have z1 : cl (n.1 (26 + 11 * s)) = 0 := Nat.eq_zero_of_not_pos (fun h => q1 (p1.mpr h))
          have q0 : 0 < cl (n.1 (25 + 11 * s)) := by omega
          rw [if_pos (p0.mpr q0)]
          refine ⟨0, rfl, by omega, by rw [Nat.add_zero]; exact q0, fun j a b => ?_⟩
          rcases (show j = 1 ∨ j = 2 ∨ j = 3 ∨ j = 4 by omega) with rfl | rfl | rfl | rfl
          · rw [show 25 + 11 * s + 1 = 26 + 11 * s by omega]; exact z1
          · rw [show 25 + 11 * s + 2 = 27 + 11 * s by omega]; exact z2
          · rw [show 25 + 11 * s + 3 = 28 + 11 * s by omega]; exact z3
          · rw [show 25 + 11 * s + 4 = 29 + 11 * s by omega]; exact z4
/-- a sonde more where it was brought -/
theorem mov_su {B : Nat} {n : nT} (h : KN B n) (hB : B + 200 < 2 ^ 30) {s t : Nat} (hs : s < cl (n.1 1)) (ht : t < cl (n.1 1)) (hst : s ≠ t) {m : Nat} (hm : n_most n.1 s = some m) : su (n_mov n s t).1 (25 + 11 * t) 1 5 = su n.1 (25 + 11 * t) 1 5 + 1 := by
  have hm4 := n_most_lt hm
  have e : (n_mov n s t).1 = upd (upd n.1 (25 + 11 * s + m) (n.1 (25 + 11 * s + m) - 1)) (25 + 11 * t + m) (n.1 (25 + 11 * t + m) + 1) := by unfold n_mov; rw [hm]; rfl
  obtain ⟨h1, -, -⟩ := h.st (by omega) ht
  have q := isN_add1 (h1 m hm4).1 (by have := (h1 m hm4).2; omega)
  have T := su_up (f := n.1) (g := (n_mov n s t).1) (b := 25 + 11 * t) (d := 1) (j := m) 5 (by omega) (fun j hj hn => by rw [e, upd_nep (by omega), upd_nep (by omega)])
  rw [Nat.one_mul, e, upd_eqp rfl, ← e, q.2] at T
  omega
theorem tot_su {f : nF} {s : Nat} : ∀ k, s < k → su f (25 + 11 * s) 1 5 ≤ tot f k
  | 0, h => absurd h (Nat.not_lt_zero _)
  | k + 1, h => by
    rw [tot]
    by_cases q : s = k
    · subst q; omega
    · have := tot_su (f := f) k (show s < k by omega); omega
theorem l64_59 : (59 : Int64) = lN 59 := rfl
theorem st_ne {x : Int32} : (x.toInt64 = -9000000000000000003) = False := by
  refine eq_false (fun q => ?_)
  have e := congrArg Int64.toInt q
  rw [Int32.toInt_toInt64] at e
  have e1 : (-9000000000000000003 : Int64).toInt = -9000000000000000003 := by decide
  rw [e1] at e
  have := Int32.minValue_le_toInt x
  have e2 : Int32.minValue.toInt = -2147483648 := by decide
  omega
theorem und_nn {m : Nat} (h : m ≤ 14) : ((nI (m - 1)).toInt64 < lN 0) = False := by
  refine eq_false (fun q => ?_)
  rw [nI_l (by omega), pk_lLT (by omega) (by omega)] at q
  omega
theorem lN_lt0 {m : Nat} : (lN m < lN 0) = False ∨ 2 ^ 63 ≤ m := by
  by_cases h : m < 2 ^ 63
  · exact Or.inl (eq_false (fun q => by rw [pk_lLT h (by omega)] at q; omega))
  · exact Or.inr (by omega)
theorem fGv {a : aS} : (c_firstGap a).2.1 = v_firstGap a.1 := rfl
