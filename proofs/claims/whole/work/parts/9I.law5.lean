section LRL
variable {p : Program} {l : Launch} {e : Env} {s : State} {m : MethodId} {args : Array Value} {below : List Frame} {meth : Method} {c : Code} {w : ab_W} {Q : State → Prop} {nc ns pc sl : Nat} {xs : Nat → Int32} {L L' st r : List Value} {σ : ab_H}
theorem lr_sw (C : lw_Cx p l s m args meth c w sl xs) {j tgt : Nat} {off : Int} (h1 : ¬ (nI j).toInt < 0) (h2 : ¬ 30 < (nI j).toInt) (ho : (#[140, 196, 209, 222, 266, 322, 390, 458, 526, 594, 662, 718, 774, 878, 958, 1026, 1106, 1186, 1254, 1310, 1378, 1422, 1490, 1546, 1614, 1627, 1695, 1787, 1887, 1987, 2043] : Array Int)[((nI j).toInt - 0).toNat]? = some off) (ht : ((40 : Nat) : Int) + off = (tgt : Int)) (k : lw_M p l e s m args below meth c w Q nc ns tgt L st σ) : lw_M p l e s m args below meth c w Q nc ns 40 L (.int (nI j) :: st) σ := fun H locs ls hR hS hL =>
  lv_tableIn C.1 C.2.1 dL_law_40 h1 h2 ho ht (k H locs ls hR hS hL)
theorem lr_end (C : lw_Cx p l s m args meth c w sl xs) {i : Nat} (hi : i + 6 ≤ 3078) (k : lw_M p l e s m args below meth c w Q nc ns 23 (lw_L (i + 6) .null .null) [] σ) : lw_M p l e s m args below meth c w Q nc ns 2139 (lw_L i .null .null) [] σ := by
  intro H locs ls hR hS hL
  have hm : (4, Value.int (nI i)) ∈ ab_ll w 7 (lw_L i .null .null) := ab_ll_in (w := w) (L := lw_L i .null .null) (by omega) (by show Value.int (nI i) ≠ .null; exact fun q => by cases q)
  obtain ⟨k0, hk2⟩ := List.getElem?_of_mem hm
  refine lv_iinc (v := nI (i + 6)) C.1 C.2.1 dL_law_2139 hL.has hk2 (by rw [show Int32.ofInt 6 = nI 6 from by decide, nI_add]) (by omega) rfl (fun ls' hl => ?_)
  exact lv_goto (tgt := 23) C.1 C.2.1 dL_law_2142 (by omega) (k H locs ls' hR hS (hL.st1 (v := .int (nI (i + 6))) rfl hl))
theorem nI_sub_toInt {a b : Nat} (ha : a < 2 ^ 30) (hb : b < 2 ^ 30) : (nI a - nI b).toInt = (a : Int) - b := by
  rw [Int32.toInt_sub, nI_toInt (by omega), nI_toInt (by omega)]
  exact Int.bmod_eq_of_le (by omega) (by omega)
set_option maxRecDepth 20000 in
set_option maxHeartbeats 4000000 in
theorem lr_body (C : lw_Cx p l s m args meth c w sl xs) {i T : Nat} {A : aS} (hRA : RA w σ A) (hRD : RD σ A) (hW : WA T A) (hT0 : 1100 ≤ T) (hT : T < 60000) (hi : i + 6 ≤ sl) (hmc : nc + 1 ≤ 601024 ∧ ns + 6 ≤ 7293034) (kk : ∀ (σ' : ab_H) (A' : aS), RA w σ' A' → RD σ' A' → WA (T + 40) A' → lw_M p l e s m args below meth c w Q (nc + 1) (ns + 6) 2139 (lw_L i .null .null) [] σ') : lw_M p l e s m args below meth c w Q nc ns 33 (lw_L i .null .null) [] σ := by
  refine lr_aload C dL_law_33 rfl rfl (lr_iload C dL_law_34 rfl (lr_ld C dL_law_36 (by omega) (lr_bipush C (x := 31) dL_law_37 (by decide) (lr_iand C dL_law_39 ?_))))
  obtain ⟨j, hj, ej⟩ := pk_andE (xs i) (m := 31) 5 (by decide)
  rw [ej]
  clear ej
  match j, hj with
  | 0, _ => exact lr_sw C (tgt := 180) (off := 140) (by decide +kernel) (by decide +kernel) (by decide +kernel) (by omega) (lr_k0 C hRA hRD hW hT0 hT hi hmc kk)
  | 1, _ => exact lr_sw C (tgt := 236) (off := 196) (by decide +kernel) (by decide +kernel) (by decide +kernel) (by omega) (lr_k1 C hRA hRD hW hT0 hT hi hmc kk)
  | 2, _ => exact lr_sw C (tgt := 249) (off := 209) (by decide +kernel) (by decide +kernel) (by decide +kernel) (by omega) (lr_k2 C hRA hRD hW hT0 hT hi hmc kk)
  | 3, _ => exact lr_sw C (tgt := 262) (off := 222) (by decide +kernel) (by decide +kernel) (by decide +kernel) (by omega) (lr_k3 C hRA hRD hW hT0 hT hi hmc kk)
  | 4, _ => exact lr_sw C (tgt := 306) (off := 266) (by decide +kernel) (by decide +kernel) (by decide +kernel) (by omega) (lr_k4 C hRA hRD hW hT0 hT hi hmc kk)
  | 5, _ => exact lr_sw C (tgt := 362) (off := 322) (by decide +kernel) (by decide +kernel) (by decide +kernel) (by omega) (lr_k5 C hRA hRD hW hT0 hT hi hmc kk)
  | 6, _ => exact lr_sw C (tgt := 430) (off := 390) (by decide +kernel) (by decide +kernel) (by decide +kernel) (by omega) (lr_k6 C hRA hRD hW hT0 hT hi hmc kk)
  | 7, _ => exact lr_sw C (tgt := 498) (off := 458) (by decide +kernel) (by decide +kernel) (by decide +kernel) (by omega) (lr_k7 C hRA hRD hW hT0 hT hi hmc kk)
  | 8, _ => exact lr_sw C (tgt := 566) (off := 526) (by decide +kernel) (by decide +kernel) (by decide +kernel) (by omega) (lr_k8 C hRA hRD hW hT0 hT hi hmc kk)
  | 9, _ => exact lr_sw C (tgt := 634) (off := 594) (by decide +kernel) (by decide +kernel) (by decide +kernel) (by omega) (lr_k9 C hRA hRD hW hT0 hT hi hmc kk)
  | 10, _ => exact lr_sw C (tgt := 702) (off := 662) (by decide +kernel) (by decide +kernel) (by decide +kernel) (by omega) (lr_k10 C hRA hRD hW hT0 hT hi hmc kk)
  | 11, _ => exact lr_sw C (tgt := 758) (off := 718) (by decide +kernel) (by decide +kernel) (by decide +kernel) (by omega) (lr_k11 C hRA hRD hW hT0 hT hi hmc kk)
  | 12, _ => exact lr_sw C (tgt := 814) (off := 774) (by decide +kernel) (by decide +kernel) (by decide +kernel) (by omega) (lr_k12 C hRA hRD hW hT0 hT hi hmc kk)
  | 13, _ => exact lr_sw C (tgt := 918) (off := 878) (by decide +kernel) (by decide +kernel) (by decide +kernel) (by omega) (lr_k13 C hRA hRD hW hT0 hT hi hmc kk)
  | 14, _ => exact lr_sw C (tgt := 998) (off := 958) (by decide +kernel) (by decide +kernel) (by decide +kernel) (by omega) (lr_k14 C hRA hRD hW hT0 hT hi hmc kk)
  | 15, _ => exact lr_sw C (tgt := 1066) (off := 1026) (by decide +kernel) (by decide +kernel) (by decide +kernel) (by omega) (lr_k15 C hRA hRD hW hT0 hT hi hmc kk)
  | 16, _ => exact lr_sw C (tgt := 1146) (off := 1106) (by decide +kernel) (by decide +kernel) (by decide +kernel) (by omega) (lr_k16 C hRA hRD hW hT0 hT hi hmc kk)
  | 17, _ => exact lr_sw C (tgt := 1226) (off := 1186) (by decide +kernel) (by decide +kernel) (by decide +kernel) (by omega) (lr_k17 C hRA hRD hW hT0 hT hi hmc kk)
  | 18, _ => exact lr_sw C (tgt := 1294) (off := 1254) (by decide +kernel) (by decide +kernel) (by decide +kernel) (by omega) (lr_k18 C hRA hRD hW hT0 hT hi hmc kk)
  | 19, _ => exact lr_sw C (tgt := 1350) (off := 1310) (by decide +kernel) (by decide +kernel) (by decide +kernel) (by omega) (lr_k19 C hRA hRD hW hT0 hT hi hmc kk)
  | 20, _ => exact lr_sw C (tgt := 1418) (off := 1378) (by decide +kernel) (by decide +kernel) (by decide +kernel) (by omega) (lr_k20 C hRA hRD hW hT0 hT hi hmc kk)
  | 21, _ => exact lr_sw C (tgt := 1462) (off := 1422) (by decide +kernel) (by decide +kernel) (by decide +kernel) (by omega) (lr_k21 C hRA hRD hW hT0 hT hi hmc kk)
  | 22, _ => exact lr_sw C (tgt := 1530) (off := 1490) (by decide +kernel) (by decide +kernel) (by decide +kernel) (by omega) (lr_k22 C hRA hRD hW hT0 hT hi hmc kk)
  | 23, _ => exact lr_sw C (tgt := 1586) (off := 1546) (by decide +kernel) (by decide +kernel) (by decide +kernel) (by omega) (lr_k23 C hRA hRD hW hT0 hT hi hmc kk)
  | 24, _ => exact lr_sw C (tgt := 1654) (off := 1614) (by decide +kernel) (by decide +kernel) (by decide +kernel) (by omega) (lr_k24 C hRA hRD hW hT0 hT hi hmc kk)
  | 25, _ => exact lr_sw C (tgt := 1667) (off := 1627) (by decide +kernel) (by decide +kernel) (by decide +kernel) (by omega) (lr_k25 C hRA hRD hW hT0 hT hi hmc kk)
  | 26, _ => exact lr_sw C (tgt := 1735) (off := 1695) (by decide +kernel) (by decide +kernel) (by decide +kernel) (by omega) (lr_k26 C hRA hRD hW hT0 hT hi hmc kk)
  | 27, _ => exact lr_sw C (tgt := 1827) (off := 1787) (by decide +kernel) (by decide +kernel) (by decide +kernel) (by omega) (lr_k27 C hRA hRD hW hT0 hT hi hmc kk)
  | 28, _ => exact lr_sw C (tgt := 1927) (off := 1887) (by decide +kernel) (by decide +kernel) (by decide +kernel) (by omega) (lr_k28 C hRA hRD hW hT0 hT hi hmc kk)
  | 29, _ => exact lr_sw C (tgt := 2027) (off := 1987) (by decide +kernel) (by decide +kernel) (by decide +kernel) (by omega) (lr_k29 C hRA hRD hW hT0 hT hi hmc kk)
  | 30, _ => exact lr_sw C (tgt := 2083) (off := 2043) (by decide +kernel) (by decide +kernel) (by decide +kernel) (by omega) (lr_k30 C hRA hRD hW hT0 hT hi hmc kk)
  | 31, _ => exact fun H locs ls hR hS hL => lv_tableOut (tgt := 2139) C.1 C.2.1 dL_law_40 (Or.inr (by decide)) (by omega) (lr_wide (Nat.le_succ nc) (Nat.le_add_right ns 6) (kk σ A hRA hRD (hW.mono (by omega))) H locs ls hR hS hL)
  | j + 32, hj => exact absurd hj (by omega)
theorem lr_loop (C : lw_Cx p l s m args meth c w sl xs) {N S : Nat} (hN : N ≤ 600000) (hS : S ≤ 7000000) (hend : ∀ (σ : ab_H) (i nc ns : Nat), nc ≤ 601024 → ns ≤ 7293034 → lw_M p l e s m args below meth c w Q nc ns 2145 (lw_L i .null .null) [] σ) : ∀ (k t : Nat) (σ : ab_H) (A : aS), sl < 6 * t + 6 * k + 6 → t ≤ 512 → RA w σ A → RD σ A → WA (1100 + 40 * t) A → lw_M p l e s m args below meth c w Q (N + t) (S + 6 * t) 23 (lw_L (6 * t) .null .null) [] σ := by
  intro k
  induction k with
  | zero =>
    intro t σ A hk ht hRA hRD hW
    have hs : sl ≤ 3072 := C.2.2.2.2.2.2.2.2.2.2.2.2.2.2.1
    refine lr_iload C dL_law_23 rfl (lr_aload C dL_law_25 rfl rfl (lr_len C dL_law_26 (lr_bipush C (x := nI 6) dL_law_27 (by decide) (lr_isub C dL_law_29 ?_))))
    intro H locs ls hR hS2 hL
    refine lv_icmp_gt (tgt := 2145) C.1 C.2.1 dL_law_30 (by omega) (fun _ => hend σ (6 * t) _ _ (by omega) (by omega) H locs ls hR hS2 hL) (fun q => absurd ?_ q)
    show nI sl - nI 6 < nI (6 * t)
    rw [Int32.lt_iff_toInt_lt, nI_sub_toInt (by omega) (by omega), nI_toInt (by omega)]
    omega
  | succ k ih =>
    intro t σ A hk ht hRA hRD hW
    have hs : sl ≤ 3072 := C.2.2.2.2.2.2.2.2.2.2.2.2.2.2.1
    refine lr_iload C dL_law_23 rfl (lr_aload C dL_law_25 rfl rfl (lr_len C dL_law_26 (lr_bipush C (x := nI 6) dL_law_27 (by decide) (lr_isub C dL_law_29 ?_))))
    intro H locs ls hR hS2 hL
    refine lv_icmp_gt (tgt := 2145) C.1 C.2.1 dL_law_30 (by omega) (fun _ => hend σ (6 * t) _ _ (by omega) (by omega) H locs ls hR hS2 hL) (fun q => ?_)
    have hi : 6 * t + 6 ≤ sl := by
      have q2 : ¬ (nI sl - nI 6 < nI (6 * t)) := q
      rw [Int32.lt_iff_toInt_lt, nI_sub_toInt (by omega) (by omega), nI_toInt (by omega)] at q2
      omega
    refine lr_body (nc := N + t) (ns := S + 6 * t) (i := 6 * t) C hRA hRD hW (by omega) (by omega) hi ⟨by omega, by omega⟩ (fun σ' A' g1 g2 g3 => ?_) H locs ls hR hS2 hL
    refine lr_end C (by omega) ?_
    have := ih (t + 1) σ' A' (by omega) (by omega) g1 g2 (by rw [show 1100 + 40 * (t + 1) = 1100 + 40 * t + 40 by omega]; exact g3)
    rw [show N + (t + 1) = N + t + 1 by omega, show S + 6 * (t + 1) = S + 6 * t + 6 by omega, show 6 * (t + 1) = 6 * t + 6 by omega] at this
    exact this
end LRL
