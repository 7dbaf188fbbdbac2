/-! CALLS THAT ARE REFUSED -/
theorem fo_0 {g : Nat → Int64} {v : Int64} : fo g 0 v = v := rfl
theorem fo4_0 {a b c d : Nat → Int64} {v : Int64} : fo4 a b c d 0 v = v := rfl
theorem nv1_e {n : nT} : nv1 n = fo (fun k => v_about (nI k) n) 12 163 := rfl
theorem nv2_e {n : nT} : nv2 n = fo (fun k => v_setting (nI k) n) 5 (nv1 n) := rfl
theorem nv3_e {n : nT} : nv3 n = fo (fun k => v_windOf (nI k) n) 4 (nv2 n) := rfl
theorem nv4_e {n : nT} : nv4 n = fo (fun k => v_station (nI (k / 8)) (nI (k % 8)) n) (8 * cl (n.1 1)) (nv3 n) := rfl
theorem nv5_e {n : nT} : nv5 n = fo (fun k => v_stock (nI (k / 5)) (nI (k % 5)) n) (5 * cl (n.1 1)) (nv4 n) := rfl
theorem nv6_e {n : nT} : nv6 n = fo (fun k => v_finder (nI (k / 5)) (nI (k % 5)) n) (5 * cl (n.1 2)) (nv5 n) := rfl
theorem nowV_e {n : nT} : nowV n = fo4 (fun k => v_gap (nI k) (nI 0) n) (fun k => v_gap (nI k) (nI 1) n) (fun k => v_back (nI k) (nI 0) n) (fun k => v_back (nI k) (nI 2) n) 6 (nv6 n) := rfl
theorem pk_rm {a d : Nat} : nI a - nI (a / d * d) = nI (a % d) := by
  have h := Nat.mod_add_div a d
  have h2 : a / d * d = d * (a / d) := Nat.mul_comm _ _
  rw [pk_sub (by omega), h2]
  congr 1
  omega
theorem lg_self {x : Int64} : lg_cmp x x = 0 := by unfold lg_cmp; simp
theorem vS_no {n : nT} {k : Nat} (h : n.1 1 = nI k) : ¬ vS n.1 (nI k) := fun q => by have := q.2; rw [h] at this; exact absurd this Int32.lt_irrefl
theorem vF_no {n : nT} {k : Nat} (h : n.1 2 = nI k) : ¬ vF n.1 (nI k) := fun q => by have := q.2; rw [h] at this; exact absurd this Int32.lt_irrefl
theorem vS_m1 {f : nF} : ¬ vS f (-1) := fun q => absurd q.1 (by decide)
theorem vS_ok {n : nT} {k s : Nat} (h : n.1 1 = nI k) (hk : k ≤ 5) (hs : s < k) : vS n.1 (nI s) := ⟨nI_pos' (by omega), by rw [h, nI_lt' (by omega) (by omega)]; exact hs⟩
theorem vF_ok {n : nT} {k s : Nat} (h : n.1 2 = nI k) (hk : k ≤ 6) (hs : s < k) : vF n.1 (nI s) := ⟨nI_pos' (by omega), by rw [h, nI_lt' (by omega) (by omega)]; exact hs⟩
/-- the numbers that the wrappers give -/
theorem lr_a1 {a : aS} {v : Int32} {xs : List String} : lr (x_ar :: xs) (1, v, a) = -9000000000000000002 := lEx_ar
theorem lr_i1 {a : aS} {v : Int32} {xs : List String} : lr (x_ix :: xs) (1, v, a) = -9000000000000000001 := lEx_ix
theorem lr_s1 {a : aS} {v : Int32} {xs : List String} : lr (x_st :: xs) (1, v, a) = -9000000000000000003 := lEx_st
theorem lr_a2 {a : aS} {v : Int32} {x : String} {xs : List String} : lr (x :: x_ar :: xs) (2, v, a) = -9000000000000000002 := lEx_ar
theorem lr_s2 {a : aS} {v : Int32} {x : String} {xs : List String} : lr (x :: x_st :: xs) (2, v, a) = -9000000000000000003 := lEx_st
theorem lr_s3 {a : aS} {v : Int32} {x y : String} {xs : List String} : lr (x :: y :: x_st :: xs) (3, v, a) = -9000000000000000003 := lEx_st
theorem lr_0 {a : aS} {v : Int32} {xs : List String} : lr xs (0, v, a) = v.toInt64 := rfl
section REF
variable {a : aS} {n : nT} {st fi s : Nat}
theorem e_about_m : v_about (-1) n = -9000000000000000002 := if_neg (by decide)
theorem e_about_12 : v_about (nI 12) n = -9000000000000000002 := if_neg (by decide)
theorem e_station (h : n.1 1 = nI st) {i : Int32} : v_station (nI st) i n = -9000000000000000001 := if_neg (vS_no h)
theorem e_stock (h : n.1 1 = nI st) {i : Int32} : v_stock (nI st) i n = -9000000000000000001 := if_neg (vS_no h)
theorem e_finder (h : n.1 2 = nI fi) {i : Int32} : v_finder (nI fi) i n = -9000000000000000001 := if_neg (vF_no h)
theorem e_back_m {i : Int32} : v_back (-1) i n = -9000000000000000002 := if_neg (fun q => absurd q.1 (by decide))
theorem e_back_3 : v_back (nI 0) (nI 3) n = -9000000000000000002 := if_neg (by decide)
theorem e_gap_m : v_gap (nI 0) (-1) n = -9000000000000000002 := if_neg (by decide)
theorem e_wind_4 : v_windOf (nI 4) n = -9000000000000000002 := if_neg (by decide)
theorem e_set_5 : v_setting (nI 5) n = -9000000000000000002 := if_neg (by decide)
theorem e_addS {p h z g k : Int32} (hn : ¬ okS p h z g k) : c_addStation p h z g k a = (1, 0, a) := by
  unfold c_addStation rS c_act
  rw [if_neg hn]; rfl
theorem e_addS5 {p h z g k : Int32} (hn : okS p h z g k) (h5 : 5 ≤ cl (a.1.1 1)) : c_addStation p h z g k a = (2, 0, a) := by
  unfold c_addStation rS c_act
  rw [if_pos hn, if_neg (Nat.not_lt.mpr (by assumption))]; rfl
theorem e_addF {p r d : Int32} (hn : ¬ okF p r d) : c_addFinder p r d a = (1, 0, a) := by
  unfold c_addFinder rF c_act
  rw [if_neg hn]; rfl
theorem e_addF6 {p r d : Int32} (hn : okF p r d) (h6 : 6 ≤ cl (a.1.1 2)) : c_addFinder p r d a = (2, 0, a) := by
  unfold c_addFinder rF c_act
  rw [if_pos hn, if_neg (Nat.not_lt.mpr (by assumption))]; rfl
theorem e_wind {h v : Int32} (hn : ¬ okW h v) : c_wind h v a = (1, 0, a) := by
  unfold c_wind rW c_act
  rw [if_neg hn]; rfl
theorem e_chg_i {s h z : Int32} (hn : ¬ vS a.1.1 s) : c_change s h z a = (1, 0, a) := by
  unfold c_change rC c_act
  rw [if_neg hn]; rfl
theorem e_chg_a {s h z : Int32} (hs : vS a.1.1 s) (hn : ¬ okH h z) : c_change s h z a = (2, 0, a) := by
  unfold c_change rC c_act
  rw [if_pos hs, if_neg hn]; rfl
theorem e_del_i {s g k : Int32} (hn : ¬ vS a.1.1 s) : c_deliver s g k a = (1, 0, a) := by
  unfold c_deliver rO c_act
  rw [if_neg hn]; rfl
theorem e_del_a {s g k : Int32} (hs : vS a.1.1 s) (hn : ¬ okL g k) : c_deliver s g k a = (2, 0, a) := by
  unfold c_deliver rO c_act
  rw [if_pos hs, if_neg hn]; rfl
theorem e_del_s {s g k : Int32} (hs : vS a.1.1 s) (hn : okL g k) (h8 : (g = 0 ∧ k = 0) ∨ 8 ≤ a.1.2.1.length) : c_deliver s g k a = (3, 0, a) := by
  unfold c_deliver rO c_act
  rw [if_pos hs, if_pos hn, if_pos h8]; rfl
theorem e_mov_i {s t : Int32} (hn : ¬ (vS a.1.1 s ∧ vS a.1.1 t)) : c_move s t a = (1, 0, a) := by
  unfold c_move rM c_act
  rw [if_neg hn]; rfl
theorem e_mov_s {s t : Int32} (hs : vS a.1.1 s) (ht : vS a.1.1 t) (h : s = t ∨ n_most a.1.1 (cl s) = none) : c_move s t a = (2, 0, a) := by
  have h3 : rM a.1.1 s t = 3 := by unfold rM; rw [if_pos (show vS a.1.1 s ∧ vS a.1.1 t from ⟨hs, ht⟩), if_pos h]
  unfold c_move c_act
  rw [h3]; rfl
theorem e_run {m : Int32} (hn : ¬ bt2 (nI 1) m (nI 40)) : c_run m a = (1, 0, a) := by
  unfold c_run c_act
  rw [if_neg hn]; rfl
theorem e_set {i v : Int32} (hn : ¬ okT i v) : c_set i v a = (1, 0, a) := by
  unfold c_set rT c_act
  rw [if_neg hn]; rfl
theorem e_land (h : n.1 1 = nI st) {i : Int32} : v_landing (nI st) i n = -9000000000000000001 := if_neg (vS_no h)
theorem e_finds : v_finds (nI 100) n = -9000000000000000002 := if_neg (by decide)
theorem e_com_0 : v_coming (nI 0) (nI 0) n = -9000000000000000002 := if_neg (by decide)
theorem e_com_4 : v_coming (nI 9) (nI 4) n = -9000000000000000002 := if_neg (by decide)
theorem e_lacks (h : n.1 1 = nI st) {i : Int32} : v_lacks (nI st) i n = -9000000000000000001 := if_neg (vS_no h)
theorem e_ifd {g k m : Int32} : v_ifDelivered (-1) g k m n = -9000000000000000001 := by
  have h1 : rO n.1 n.2.1.length (-1) g k = 1 := by unfold rO; rw [if_neg vS_m1]
  unfold v_ifDelivered
  rw [h1]; rfl
theorem e_ifd_a {g k : Int32} (hs : vS n.1 (nI s)) : v_ifDelivered (nI s) g k (nI 61) n = -9000000000000000002 := by
  have h1 : rO n.1 n.2.1.length (nI s) g k ≠ 1 := by unfold rO; rw [if_pos hs]; (repeat' split) <;> omega
  unfold v_ifDelivered
  rw [if_pos ⟨h1, by decide⟩]; rfl
theorem e_ifd_s {m : Int32} (hs : vS n.1 (nI s)) (hm : bt2 (nI 1) m (nI 60)) : v_ifDelivered (nI s) (nI 0) (nI 0) m n = -9000000000000000003 := by
  have h1 : rO n.1 n.2.1.length (nI s) (nI 0) (nI 0) = 3 := by unfold rO; rw [if_pos hs, if_pos (by decide), if_pos (Or.inl ⟨rfl, rfl⟩)]
  unfold v_ifDelivered
  rw [if_neg (fun q => q.2 hm), h1]; rfl
theorem e_station_8 (hs : vS n.1 (nI s)) : v_station (nI s) (nI 8) n = -9000000000000000002 := by unfold v_station; rw [if_pos hs, if_neg (by decide)]; rfl
theorem e_stock_5 (hs : vS n.1 (nI s)) : v_stock (nI s) (nI 5) n = -9000000000000000002 := by unfold v_stock; rw [if_pos hs, if_neg (by decide)]; rfl
theorem e_land_4 (hs : vS n.1 (nI s)) : v_landing (nI s) (nI 4) n = -9000000000000000002 := by unfold v_landing; rw [if_pos hs, if_neg (by decide)]; rfl
theorem e_lacks_61 (hs : vS n.1 (nI s)) : v_lacks (nI s) (nI 61) n = -9000000000000000002 := by unfold v_lacks; rw [if_pos hs, if_neg (by decide)]; rfl
theorem e_finder_5 (hs : vF n.1 (nI s)) : v_finder (nI s) (nI 5) n = -9000000000000000002 := by unfold v_finder; rw [if_pos hs, if_neg (by decide)]; rfl
theorem e_scr_0 {z : Int64} : v_script (nI 0) z n = -9000000000000000002 := if_neg (fun q => absurd q.1 (by decide))
theorem e_scr_3 : v_script (nI 3) 1000000000000000 n = -9000000000000000002 := if_neg (fun q => absurd q.2.2 (by decide))
theorem e_sim {x : Int64} : v_simulate x (nI 0) n = -9000000000000000002 := if_neg (by decide)
theorem e_save : c_save (nI 2) a = (1, 0, a) := if_neg (by decide)
theorem e_restore : c_restore (nI 2) a = (1, 0, a) := if_neg (by decide)
theorem e_append : c_append (-1) a = (1, 0, a) := if_neg (by decide)
end REF
/-! comparisons of longs -/
theorem lgc_lt {x y : Int64} : (lg_cmp x y < 0) = (x < y) := propext (by rw [lg_cmp_lt])
theorem lgc_gt {x y : Int64} : (0 < lg_cmp x y) = (y < x) := propext (by rw [lg_cmp_gt])
theorem lgc_le {x y : Int64} : (lg_cmp x y ≤ 0) = (x ≤ y) := by
  rw [← Int32.not_lt, lgc_gt, Int64.not_lt]
theorem lgc_ge {x y : Int64} : (0 ≤ lg_cmp x y) = (y ≤ x) := by
  rw [← Int32.not_lt, lgc_lt, Int64.not_lt]
theorem lgc_eq {x y : Int64} : (lg_cmp x y = 0) = (x = y) := by
  refine propext ⟨fun h => ?_, fun h => by subst h; exact lg_self⟩
  have h1 : x ≤ y := by rw [← lgc_le, h]; exact Int32.le_refl _
  have h2 : y ≤ x := by rw [← lgc_ge, h]; exact Int32.le_refl _
  exact Int64.le_antisymm h1 h2
theorem l64_8 : (8 : Int64) = lN 8 := rfl
/-! what the stations' sondes are -/
theorem KN.st {B : Nat} {n : nT} (h : KN B n) (hB : B < 2 ^ 30) {s : Nat} (hs : s < cl (n.1 1)) : (∀ j, j ≤ 4 → isN (n.1 (25 + 11 * s + j)) ∧ cl (n.1 (25 + 11 * s + j)) ≤ B) ∧ n_sondes n.1 s = nI (su n.1 (25 + 11 * s) 1 5) ∧ su n.1 (25 + 11 * s) 1 5 ≤ B := by
  have h5 : tot n.1 (cl (n.1 1)) ≤ B := h.2.2.2.1.2.1
  have h2 := (h.1 s hs).2.1
  have hle : ∀ k, s < k → su n.1 (25 + 11 * s) 1 5 ≤ tot n.1 k := by
    intro k
    induction k with
    | zero => intro h; omega
    | succ k ih =>
      intro hk
      rw [tot]
      by_cases q : s = k
      · subst q; omega
      · have := ih (by omega); omega
  have hs5 := Nat.le_trans (hle _ hs) h5
  refine ⟨fun j hj => ⟨h2 j hj, Nat.le_trans (tot_le hj _ hs) h5⟩, ?_, hs5⟩
  have e0 : n.1 (25 + 11 * s) = nI (cl (n.1 (25 + 11 * s + 1 * 0))) := by have := h2 0 (by omega); rw [Nat.add_zero] at this; exact this
  have e1 : n.1 (26 + 11 * s) = nI (cl (n.1 (25 + 11 * s + 1 * 1))) := by have := h2 1 (by omega); rw [show 25 + 11 * s + 1 = 26 + 11 * s by omega] at this; rw [show 25 + 11 * s + 1 * 1 = 26 + 11 * s by omega]; exact this
  have e2 : n.1 (27 + 11 * s) = nI (cl (n.1 (25 + 11 * s + 1 * 2))) := by have := h2 2 (by omega); rw [show 25 + 11 * s + 2 = 27 + 11 * s by omega] at this; rw [show 25 + 11 * s + 1 * 2 = 27 + 11 * s by omega]; exact this
  have e3 : n.1 (28 + 11 * s) = nI (cl (n.1 (25 + 11 * s + 1 * 3))) := by have := h2 3 (by omega); rw [show 25 + 11 * s + 3 = 28 + 11 * s by omega] at this; rw [show 25 + 11 * s + 1 * 3 = 28 + 11 * s by omega]; exact this
  have e4 : n.1 (29 + 11 * s) = nI (cl (n.1 (25 + 11 * s + 1 * 4))) := by have := h2 4 (by omega); rw [show 25 + 11 * s + 4 = 29 + 11 * s by omega] at this; rw [show 25 + 11 * s + 1 * 4 = 29 + 11 * s by omega]; exact this
  unfold n_sondes
  show nI 0 + n.1 (25 + 11 * s) + n.1 (26 + 11 * s) + n.1 (27 + 11 * s) + n.1 (28 + 11 * s) + n.1 (29 + 11 * s) = nI (0 + cl (n.1 (25 + 11 * s + 1 * 0)) + cl (n.1 (25 + 11 * s + 1 * 1)) + cl (n.1 (25 + 11 * s + 1 * 2)) + cl (n.1 (25 + 11 * s + 1 * 3)) + cl (n.1 (25 + 11 * s + 1 * 4)))
  rw [e0, e1, e2, e3, e4]
  simp only [nI_add]
theorem most_none {B : Nat} {n : nT} (h : KN B n) (hB : B < 2 ^ 30) {s : Nat} (hs : s < cl (n.1 1)) (h0 : su n.1 (25 + 11 * s) 1 5 = 0) : n_most n.1 s = none := by
  obtain ⟨h1, -, -⟩ := h.st hB hs
  have hz : ∀ j, j ≤ 4 → n.1 (25 + 11 * s + j) = 0 := fun j hj => by
    have a := su_le (f := n.1) (b := 25 + 11 * s) (d := 1) (j := j) 5 (by omega)
    rw [Nat.one_mul] at a
    rw [(h1 j hj).1, show cl (n.1 (25 + 11 * s + j)) = 0 by omega]; rfl
  have e4 := hz 4 (by omega); have e3 := hz 3 (by omega); have e2 := hz 2 (by omega); have e1 := hz 1 (by omega); have e0 := hz 0 (by omega)
  rw [show 25 + 11 * s + 4 = 29 + 11 * s by omega] at e4; rw [show 25 + 11 * s + 3 = 28 + 11 * s by omega] at e3; rw [show 25 + 11 * s + 2 = 27 + 11 * s by omega] at e2; rw [show 25 + 11 * s + 1 = 26 + 11 * s by omega] at e1; rw [Nat.add_zero] at e0
  unfold n_most
  rw [e0, e1, e2, e3, e4]
  have z : ¬ (0 : Int32) < 0 := by decide
  rw [if_neg z, if_neg z, if_neg z, if_neg z, if_neg z]
theorem v_station_4 {n : nT} {s : Nat} (hs : vS n.1 (nI s)) (h5 : s < 5) : v_station (nI s) (nI 4) n = (n_sondes n.1 s).toInt64 := by
  unfold v_station
  rw [if_pos hs, if_pos (by decide), cl_nI (by omega), cl_nI (by omega)]
  rfl
