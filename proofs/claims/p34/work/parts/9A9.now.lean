/-! ALL THAT IS TOLD OF A NET, as one number -/
def fo (g : Nat → Int64) : Nat → Int64 → Int64
  | 0, v => v
  | k + 1, v => 31 * fo g k v + g k
def fo4 (a b c d : Nat → Int64) : Nat → Int64 → Int64
  | 0, v => v
  | k + 1, v => 31 * (31 * (31 * (31 * fo4 a b c d k v + a k) + b k) + c k) + d k
def nv1 (n : nT) : Int64 := fo (fun k => v_about (nI k) n) 12 163
def nv2 (n : nT) : Int64 := fo (fun k => v_setting (nI k) n) 5 (nv1 n)
def nv3 (n : nT) : Int64 := fo (fun k => v_windOf (nI k) n) 4 (nv2 n)
def nv4 (n : nT) : Int64 := fo (fun k => v_station (nI (k / 8)) (nI (k % 8)) n) (8 * cl (n.1 1)) (nv3 n)
def nv5 (n : nT) : Int64 := fo (fun k => v_stock (nI (k / 5)) (nI (k % 5)) n) (5 * cl (n.1 1)) (nv4 n)
def nv6 (n : nT) : Int64 := fo (fun k => v_finder (nI (k / 5)) (nI (k % 5)) n) (5 * cl (n.1 2)) (nv5 n)
def nowV (n : nT) : Int64 := fo4 (fun k => v_gap (nI k) (nI 0) n) (fun k => v_gap (nI k) (nI 1) n) (fun k => v_back (nI k) (nI 0) n) (fun k => v_back (nI k) (nI 2) n) 6 (nv6 n)
theorem t32 {x : Int32} : x.toInt64.toInt32 = x := by simp
theorem v_about_i {k : Nat} {n : nT} (h : k ≤ 11) : v_about (nI k) n = (n_ab n k).toInt64 := by
  unfold v_about
  have : ∀ k, k < 12 → bt2 (nI 0) (nI k) (nI 11) := by decide
  rw [if_pos (this k (by omega)), cl_nI (by omega)]
theorem v_about_st {n : nT} : v_about (nI 0) n = (n.1 1).toInt64 := v_about_i (by omega)
theorem v_about_fi {n : nT} : v_about (nI 1) n = (n.1 2).toInt64 := v_about_i (by omega)
