/-! WHAT THE QUERIES SAY, as longs, out of the net alone -/
def kIX : Int64 := -9000000000000000001
def kAR : Int64 := -9000000000000000002
def kST : Int64 := -9000000000000000003
def v_about (k : Int32) (n : nT) : Int64 := if bt2 (nI 0) k (nI 11) then (n_ab n (cl k)).toInt64 else kAR
def v_station (s i : Int32) (n : nT) : Int64 := if vS n.1 s then (if bt2 (nI 0) i (nI 7) then (n_st n (cl s) (cl i)).toInt64 else kAR) else kIX
def v_stock (s k : Int32) (n : nT) : Int64 := if vS n.1 s then (if bt2 (nI 0) k (nI 4) then (n.1 (25 + 11 * cl s + cl k)).toInt64 else kAR) else kIX
def v_finder (s i : Int32) (n : nT) : Int64 := if vF n.1 s then (if bt2 (nI 0) i (nI 4) then ((if cl i = 4 then oI (n_near n.1 (n.1 (76 + 4 * cl s)) (cl (n.1 1))) else n.1 (76 + 4 * cl s + cl i)) : Int32).toInt64 else kAR) else kIX
def v_back (k i : Int32) (n : nT) : Int64 := if 0 ≤ k ∧ bt2 (nI 0) i (nI 2) then (n_num n.2.2.1 k (cl i)).toInt64 else kAR
def v_gap (k i : Int32) (n : nT) : Int64 := if 0 ≤ k ∧ bt2 (nI 0) i (nI 2) then (n_gnum n.2.2.2 k (cl i)).toInt64 else kAR
def v_windOf (h : Int32) (n : nT) : Int64 := if bt2 (nI 0) h (nI 3) then (nI 100 + n.1 (17 + cl h)).toInt64 else kAR
def v_setting (h : Int32) (n : nT) : Int64 := if bt2 (nI 0) h (nI 4) then (n.1 (12 + cl h)).toInt64 else kAR
def v_landing (s h : Int32) (n : nT) : Int64 := if vS n.1 s then (if bt2 (nI 0) h (nI 3) then (n_land n.1 (cl s) (cl h)).toInt64 else kAR) else kIX
def v_finds (p : Int32) (n : nT) : Int64 := if bt2 (nI 0) p (nI 99) then (oI (n_who n.1 p (cl (n.1 2)))).toInt64 else kAR
def n_cm (n : nT) (i k : Nat) : Int32 := if i = 0 then (n_run k n).1 4 - n.1 4 else if i = 1 then (n_run k n).1 5 - n.1 5 else if i = 2 then (n_run k n).1 3 - n.1 3 else n_all (n_run k n).1 (cl ((n_run k n).1 1))
def v_coming (k i : Int32) (n : nT) : Int64 := if bt2 (nI 1) k (nI 60) ∧ bt2 (nI 0) i (nI 3) then (n_cm n (cl i) (cl k)).toInt64 else kAR
def v_lacks (s k : Int32) (n : nT) : Int64 := if vS n.1 s then (if bt2 (nI 1) k (nI 60) then (nI (n_lack n (cl s) 300 (cl k))).toInt64 else kAR) else kIX
def v_ifDelivered (s g k m : Int32) (n : nT) : Int64 := if rO n.1 n.2.1.length s g k ≠ 1 ∧ ¬ bt2 (nI 1) m (nI 60) then kAR else if rO n.1 n.2.1.length s g k = 0 then ((n_run (cl m) (n_ord n (cl s) (cl g) (cl k))).1 5 - n.1 5).toInt64 else if rO n.1 n.2.1.length s g k = 1 then kIX else if rO n.1 n.2.1.length s g k = 2 then kAR else kST
def v_script (m : Int32) (z : Int64) (n : nT) : Int64 := if bt2 (nI 1) m (nI 3) ∧ 0 ≤ z.toInt ∧ z.toInt < 100000 ^ (cl m) then (oI (x_scr z.toInt.toNat (cl m) 0 n)).toInt64 else kAR
def v_simulate (x : Int64) (m : Int32) (n : nT) : Int64 := if bt2 (nI 1) m (nI 40) then (nI 1000 * ((x_sim x n (cl m)).1 4 - n.1 4) + (x_sim x n (cl m)).1 5 - n.1 5).toInt64 else kAR
def v_firstGap (n : nT) : Int32 := match n_fg n (n.1 5) 60 0 with
  | none => -1
  | some k => nI (cl (n.1 0) + k)
