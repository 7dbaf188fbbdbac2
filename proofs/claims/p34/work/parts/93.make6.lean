theorem we_2 : Cond.initialized yX8_init.cls ∈ ab_T := ab_in 2 (by decide +kernel) rfl
theorem we_9 : Cond.initialized yX2_init.cls ∈ ab_T := ab_in 9 (by decide +kernel) rfl
theorem we_10 : Cond.initialized yX6_init.cls ∈ ab_T := ab_in 10 (by decide +kernel) rfl
theorem we_24 : Cond.methodLink RX9 1 objectInit ∈ ab_T := ab_in 24 (by decide +kernel) rfl
theorem we_27 : Cond.classLink RX9 7 RX8 ∈ ab_T := ab_in 27 (by decide +kernel) rfl
theorem we_28 : Cond.instantiable RX8 5 ∈ ab_T := ab_in 28 (by decide +kernel) rfl
theorem wf_29 : Cond.methodLinkNest RX9 9 yX8_init "SondeStations" ∈ ab_N := ab_inN 29 (by decide +kernel) rfl
theorem we_30 : Cond.instanceMethod yX8_init ∈ ab_T := ab_in 30 (by decide +kernel) rfl
theorem we_31 : Cond.code yX8_init cX8_init 1 none ∈ ab_T := ab_in 31 (by decide +kernel) rfl
theorem we_54 : Cond.classLink RX9 16 RX3 ∈ ab_T := ab_in 54 (by decide +kernel) rfl
theorem wf_56 : Cond.methodLinkNest RX9 18 yX3_init "SondeStations" ∈ ab_N := ab_inN 56 (by decide +kernel) rfl
theorem we_256 : Cond.classLink RX9 29 RX2 ∈ ab_T := ab_in 256 (by decide +kernel) rfl
theorem we_257 : Cond.instantiable RX2 3 ∈ ab_T := ab_in 257 (by decide +kernel) rfl
theorem we_258 : Cond.methodLink RX9 31 yX2_init ∈ ab_T := ab_in 258 (by decide +kernel) rfl
theorem we_259 : Cond.instanceMethod yX2_init ∈ ab_T := ab_in 259 (by decide +kernel) rfl
theorem we_260 : Cond.code yX2_init cX2_init 2 none ∈ ab_T := ab_in 260 (by decide +kernel) rfl
theorem we_261 : Cond.methodLink RX2 3 objectInit ∈ ab_T := ab_in 261 (by decide +kernel) rfl
theorem we_262 : Cond.classLink RX2 9 RX3 ∈ ab_T := ab_in 262 (by decide +kernel) rfl
theorem wf_264 : Cond.methodLinkNest RX2 17 yX3_init "SondeStations" ∈ ab_N := ab_inN 264 (by decide +kernel) rfl
theorem we_268 : Cond.fieldLink RX2 11 "SondeStations$Memory" "nets" "[LSondeStations$Net;" ∈ ab_T := ab_in 268 (by decide +kernel) rfl
theorem we_276 : Cond.classLink RX9 36 RX6 ∈ ab_T := ab_in 276 (by decide +kernel) rfl
theorem we_277 : Cond.instantiable RX6 2 ∈ ab_T := ab_in 277 (by decide +kernel) rfl
theorem wf_278 : Cond.methodLinkNest RX9 38 yX6_init "SondeStations" ∈ ab_N := ab_inN 278 (by decide +kernel) rfl
theorem we_279 : Cond.instanceMethod yX6_init ∈ ab_T := ab_in 279 (by decide +kernel) rfl
theorem we_280 : Cond.code yX6_init cX6_init 1 none ∈ ab_T := ab_in 280 (by decide +kernel) rfl
theorem we_292 : Cond.fieldLink RX9 10 "SondeStations" "text" "LSondeStations$Text;" ∈ ab_T := ab_in 292 (by decide +kernel) rfl
theorem we_293 : Cond.fieldLink RX9 19 "SondeStations" "net" "LSondeStations$Net;" ∈ ab_T := ab_in 293 (by decide +kernel) rfl
theorem we_294 : Cond.fieldLink RX9 23 "SondeStations" "emptyNet" "LSondeStations$Net;" ∈ ab_T := ab_in 294 (by decide +kernel) rfl
theorem we_295 : Cond.fieldLink RX9 26 "SondeStations" "trial" "LSondeStations$Net;" ∈ ab_T := ab_in 295 (by decide +kernel) rfl
theorem we_296 : Cond.fieldLink RX9 32 "SondeStations" "memory" "LSondeStations$Memory;" ∈ ab_T := ab_in 296 (by decide +kernel) rfl
theorem we_297 : Cond.fieldLink RX9 39 "SondeStations" "slot0" "LSondeStations$Slot;" ∈ ab_T := ab_in 297 (by decide +kernel) rfl
theorem we_298 : Cond.fieldLink RX9 43 "SondeStations" "slot1" "LSondeStations$Slot;" ∈ ab_T := ab_in 298 (by decide +kernel) rfl
theorem dX2_init_0 : decode cX2_init 0 = .ok (.aload_n 0, 1) := by decide +kernel
theorem dX2_init_1 : decode cX2_init 1 = .ok (.invokespecial 3, 3) := by decide +kernel
theorem dX2_init_4 : decode cX2_init 4 = .ok (.aload_n 0, 1) := by decide +kernel
theorem dX2_init_5 : decode cX2_init 5 = .ok (.bipush 14, 2) := by decide +kernel
theorem dX2_init_7 : decode cX2_init 7 = .ok (.anewarray 9, 3) := by decide +kernel
theorem dX2_init_10 : decode cX2_init 10 = .ok (.putfield 11, 3) := by decide +kernel
theorem dX2_init_13 : decode cX2_init 13 = .ok (.iconst 0, 1) := by decide +kernel
theorem dX2_init_14 : decode cX2_init 14 = .ok (.istore_n 1, 1) := by decide +kernel
theorem dX2_init_15 : decode cX2_init 15 = .ok (.iload_n 1, 1) := by decide +kernel
theorem dX2_init_16 : decode cX2_init 16 = .ok (.bipush 14, 2) := by decide +kernel
theorem dX2_init_18 : decode cX2_init 18 = .ok (.if_icmp .ge 22, 3) := by decide +kernel
theorem dX2_init_21 : decode cX2_init 21 = .ok (.aload_n 0, 1) := by decide +kernel
theorem dX2_init_22 : decode cX2_init 22 = .ok (.getfield 11, 3) := by decide +kernel
theorem dX2_init_25 : decode cX2_init 25 = .ok (.iload_n 1, 1) := by decide +kernel
theorem dX2_init_26 : decode cX2_init 26 = .ok (.new 9, 3) := by decide +kernel
theorem dX2_init_29 : decode cX2_init 29 = .ok (.dup, 1) := by decide +kernel
theorem dX2_init_30 : decode cX2_init 30 = .ok (.invokespecial 17, 3) := by decide +kernel
theorem dX2_init_33 : decode cX2_init 33 = .ok (.aastore, 1) := by decide +kernel
theorem dX2_init_34 : decode cX2_init 34 = .ok (.iinc 1 1, 3) := by decide +kernel
theorem dX2_init_37 : decode cX2_init 37 = .ok (.goto (-22), 3) := by decide +kernel
theorem dX2_init_40 : decode cX2_init 40 = .ok (.return_, 1) := by decide +kernel
theorem dX9_init_0 : decode cX9_init 0 = .ok (.aload_n 0, 1) := by decide +kernel
theorem dX9_init_1 : decode cX9_init 1 = .ok (.invokespecial 1, 3) := by decide +kernel
theorem dX9_init_4 : decode cX9_init 4 = .ok (.aload_n 0, 1) := by decide +kernel
theorem dX9_init_5 : decode cX9_init 5 = .ok (.new 7, 3) := by decide +kernel
theorem dX9_init_8 : decode cX9_init 8 = .ok (.dup, 1) := by decide +kernel
theorem dX9_init_9 : decode cX9_init 9 = .ok (.invokespecial 9, 3) := by decide +kernel
theorem dX9_init_12 : decode cX9_init 12 = .ok (.putfield 10, 3) := by decide +kernel
theorem dX9_init_15 : decode cX9_init 15 = .ok (.aload_n 0, 1) := by decide +kernel
theorem dX9_init_16 : decode cX9_init 16 = .ok (.new 16, 3) := by decide +kernel
theorem dX9_init_19 : decode cX9_init 19 = .ok (.dup, 1) := by decide +kernel
theorem dX9_init_20 : decode cX9_init 20 = .ok (.invokespecial 18, 3) := by decide +kernel
theorem dX9_init_23 : decode cX9_init 23 = .ok (.putfield 19, 3) := by decide +kernel
theorem dX9_init_26 : decode cX9_init 26 = .ok (.aload_n 0, 1) := by decide +kernel
theorem dX9_init_27 : decode cX9_init 27 = .ok (.new 16, 3) := by decide +kernel
theorem dX9_init_30 : decode cX9_init 30 = .ok (.dup, 1) := by decide +kernel
theorem dX9_init_31 : decode cX9_init 31 = .ok (.invokespecial 18, 3) := by decide +kernel
theorem dX9_init_34 : decode cX9_init 34 = .ok (.putfield 23, 3) := by decide +kernel
theorem dX9_init_37 : decode cX9_init 37 = .ok (.aload_n 0, 1) := by decide +kernel
theorem dX9_init_38 : decode cX9_init 38 = .ok (.new 16, 3) := by decide +kernel
theorem dX9_init_41 : decode cX9_init 41 = .ok (.dup, 1) := by decide +kernel
theorem dX9_init_42 : decode cX9_init 42 = .ok (.invokespecial 18, 3) := by decide +kernel
theorem dX9_init_45 : decode cX9_init 45 = .ok (.putfield 26, 3) := by decide +kernel
theorem dX9_init_48 : decode cX9_init 48 = .ok (.aload_n 0, 1) := by decide +kernel
theorem dX9_init_49 : decode cX9_init 49 = .ok (.new 29, 3) := by decide +kernel
theorem dX9_init_52 : decode cX9_init 52 = .ok (.dup, 1) := by decide +kernel
theorem dX9_init_53 : decode cX9_init 53 = .ok (.invokespecial 31, 3) := by decide +kernel
theorem dX9_init_56 : decode cX9_init 56 = .ok (.putfield 32, 3) := by decide +kernel
theorem dX9_init_59 : decode cX9_init 59 = .ok (.aload_n 0, 1) := by decide +kernel
theorem dX9_init_60 : decode cX9_init 60 = .ok (.new 36, 3) := by decide +kernel
theorem dX9_init_63 : decode cX9_init 63 = .ok (.dup, 1) := by decide +kernel
theorem dX9_init_64 : decode cX9_init 64 = .ok (.invokespecial 38, 3) := by decide +kernel
theorem dX9_init_67 : decode cX9_init 67 = .ok (.putfield 39, 3) := by decide +kernel
theorem dX9_init_70 : decode cX9_init 70 = .ok (.aload_n 0, 1) := by decide +kernel
theorem dX9_init_71 : decode cX9_init 71 = .ok (.new 36, 3) := by decide +kernel
theorem dX9_init_74 : decode cX9_init 74 = .ok (.dup, 1) := by decide +kernel
theorem dX9_init_75 : decode cX9_init 75 = .ok (.invokespecial 38, 3) := by decide +kernel
theorem dX9_init_78 : decode cX9_init 78 = .ok (.putfield 43, 3) := by decide +kernel
theorem dX9_init_81 : decode cX9_init 81 = .ok (.return_, 1) := by decide +kernel
theorem get_mid {α : Type} {a c : List α} {x : α} : ((a ++ [x]) ++ c)[a.length]? = some x := by
  have h : a.length < (a ++ [x]).length := by rw [List.length_append, List.length_singleton]; omega
  rw [List.getElem?_append_left h, List.getElem?_append_right (Nat.le_refl _), Nat.sub_self]; rfl
def memN (w : bW) (a : Nat) : Nat → List bC
  | 0 => []
  | i + 1 => (memN w a i ++ [.inl (3, f1X3 w (a + (1 + 29 * i) + 1))]) ++ c1X3 w (a + (1 + 29 * i) + 1)
def memF (a i : Nat) : Nat → Value := fun j => if j < i then .ref (a + (1 + 29 * j)) else .null
theorem len_X3 (w : bW) (a : Nat) : (c1X3 w a).length = 28 := rfl
theorem memN_len (w : bW) (a : Nat) : ∀ i, (memN w a i).length = 29 * i
  | 0 => rfl
  | i + 1 => by rw [memN, List.length_append, List.length_append, memN_len w a i, len_X3, List.length_singleton]; omega
theorem memF_1 (a i : Nat) : updV (memF a i) i (.ref (a + (1 + 29 * i))) = memF a (i + 1) := by
  funext j
  unfold updV memF
  by_cases h : j = i
  · subst h; rw [if_pos rfl, if_pos (by omega)]
  · rw [if_neg h]
    by_cases h2 : j < i
    · rw [if_pos h2, if_pos (by omega)]
    · rw [if_neg h2, if_neg (by omega)]
def f0X2 : List Value := [.int 0, .int 0, .null]
theorem f0X2_ok : ∀ j, j < 3 → defaultValue (tyX2 j) = vp_V f0X2 j := by
  intro j hj
  rcases (by omega : j = 0 ∨ j = 1 ∨ j = 2) with rfl | rfl | rfl <;> rfl
def f1X2 : bW → Nat → List Value := fun _ a => [.int 0, .int 0, .ref a]
def c1X2 : bW → Nat → List bC := fun w a => [.inr (w.2 14, 14, memF a 14)] ++ memN w a 14
theorem len_X2 (w : bW) (a : Nat) : (c1X2 w a).length = 407 := by
  unfold c1X2; rw [List.length_append, memN_len]; rfl
set_option maxRecDepth 20000 in
set_option maxHeartbeats 4000000 in
theorem mk_X2 {l : Launch} : bCon l yX2_init (Cond.code yX2_init cX2_init 2 none) 3 407 9058 2 f0X2 f1X2 c1X2 := by
  refine bEnter (by decide) rfl (by decide) (by decide) ?_
  intro p e R s m args below meth c w h0 C hr
  refine bs_ald C 0 dX2_init_0 rfl rfl ?_
  refine bs_init C dX2_init_1 we_261 we_25 we_26 ?_
  refine bs_ald C 0 dX2_init_4 rfl rfl ?_
  refine bs_bipush (x := nI 14) C dX2_init_5 (by decide +kernel) ?_
  refine bs_newq (N := 14) C dX2_init_7 we_262 (by decide +kernel) (by decide +kernel) (Nat.le_of_ble_eq_true rfl) (Nat.le_of_ble_eq_true rfl) (Nat.le_of_ble_eq_true rfl) ?_
  refine bs_putF (f := 2) (r := (RX2, TX2, 3)) (ty := .array (.object "SondeStations$Net")) C rfl dX2_init_10 (Nat.le_of_ble_eq_true rfl) rfl rfl we_268 (by decide +kernel) rfl rfl (Nat.le_of_ble_eq_true rfl) ?_
  refine bs_iconst (x := nI 0) C dX2_init_13 (by decide +kernel) ?_
  refine bs_ist (lv' := [(1, .int (nI 0)), (0, .ref h0)]) C dX2_init_14 rfl (by decide) rfl ?_
  have H : ∀ d i, i + d = 14 → bM p l e R s m args below meth c w 2 (MQ below (bPost w h0 s.heap.size 2 (f1X2 w s.heap.size) (c1X2 w s.heap.size)) args s 407 9058 (bA h0 s.heap.size)) h0 2 [(1, .int (nI i)), (0, .ref h0)] [] [.int 0, .int 0, .ref (s.heap.size + 0)] ([.inr (w.2 14, 14, memF s.heap.size i)] ++ memN w s.heap.size i) (1 + 29 * i) (14 + 646 * i) 15 := by
    intro d
    induction d with
    | zero =>
      intro i hi
      obtain rfl : i = 14 := by omega
      refine bs_ild C 0 dX2_init_15 rfl rfl ?_
      refine bs_bipush (x := nI 14) C dX2_init_16 (by decide +kernel) ?_
      refine bs_ge (tgt := 40) C dX2_init_18 (by decide) (fun _ => ?_) (fun q => absurd (by first | exact Int32.le_refl _ | decide +kernel) q)
      exact bs_ret C hr dX2_init_40
    | succ d ih =>
      intro i hi
      have hlen : ([Sum.inr (w.2 14, 14, memF s.heap.size i)] ++ memN w s.heap.size i).length = 1 + 29 * i := by rw [List.length_append, memN_len]; rfl
      refine bs_ild C 0 dX2_init_15 rfl rfl ?_
      refine bs_bipush (x := nI 14) C dX2_init_16 (by decide +kernel) ?_
      refine bs_ge (tgt := 40) C dX2_init_18 (by decide) (fun q => absurd ((nI_leI (by omega) (by omega)).mp q) (by omega)) (fun _ => ?_)
      refine bs_ald C 1 dX2_init_21 rfl rfl ?_
      refine bs_getF (f := 2) (r := (RX2, TX2, 3)) C rfl dX2_init_22 (Nat.le_of_ble_eq_true rfl) we_268 rfl ?_
      refine bs_ild C 0 dX2_init_25 rfl rfl ?_
      refine bs_new (fs0 := f0X3) (r := (RX3, TX3, 13)) C (ci' := 3) rfl dX2_init_26 tyX3 tyX3_ok we_262 we_55 we_3 (fun j hj => f0X3_ok j hj) (by omega) (by show 14 + 646 * i + 13 ≤ 9058; omega) ?_
      refine bs_dup C dX2_init_29 rfl ?_
      refine bs_callN (ci' := 3) (fs0 := f0X3) C mk_X3 ⟨by decide, by decide, we_58, we_3, by decide +kernel, rfl, we_57⟩ wf_264 dX2_init_30 (Nat.le_of_ble_eq_true rfl) (by omega) (by show 14 + 646 * i + 13 + 633 ≤ 9058; omega) ?_
      refine bs_aas (N := 14) (f := memF s.heap.size i) (i := i) (j := 0) (q := ([Sum.inr (w.2 14, 14, memF s.heap.size i)] ++ memN w s.heap.size i).length) (vs := f1X3 w (s.heap.size + ([Sum.inr (w.2 14, 14, memF s.heap.size i)] ++ memN w s.heap.size i).length + 1)) C ?_ ?_ (by omega) (by omega) dX2_init_33 ?_
      · rfl
      · exact get_mid
      rw [hlen, memF_1]
      refine bs_inc (y := nI (i + 1)) (lv' := [(1, .int (nI (i + 1))), (0, .ref h0)]) C 0 dX2_init_34 rfl (nI_1 i) (by decide) rfl ?_
      refine bs_goto (tgt := 15) C dX2_init_37 (by decide) ?_
      have := ih (i + 1) (by omega)
      rw [show 1 + 29 * (i + 1) = 1 + 29 * i + 1 + 28 by omega, show 14 + 646 * (i + 1) = 14 + 646 * i + 13 + 633 by omega] at this
      exact this
  exact H 14 0 rfl
theorem len_X8 (w : bW) (a : Nat) : (c1X8 w a).length = 2 := rfl
theorem len_X6 (w : bW) (a : Nat) : (c1X6 w a).length = 29 := rfl
def f0X9 : List Value := [.null, .null, .null, .null, .null, .null, .null]
theorem f0X9_ok : ∀ j, j < 7 → defaultValue (tyX9 j) = vp_V f0X9 j := by
  intro j hj
  rcases (by omega : j = 0 ∨ j = 1 ∨ j = 2 ∨ j = 3 ∨ j = 4 ∨ j = 5 ∨ j = 6) with rfl | rfl | rfl | rfl | rfl | rfl | rfl <;> rfl
def f1X9 : bW → Nat → List Value := fun _ a => [.ref (a + 0), .ref (a + 3), .ref (a + 32), .ref (a + 61), .ref (a + 90), .ref (a + 498), .ref (a + 528)]
def c1X9_1 : bW → Nat → List bC := fun w a => (([] : List bC) ++ [.inl (8, f1X8 w (a + 0 + 1))]) ++ c1X8 w (a + 0 + 1)
theorem len_X9_1 (w : bW) (a : Nat) : (c1X9_1 w a).length = 3 := by
  unfold c1X9_1; rw [List.length_append, List.length_append, len_X8]; rfl
def c1X9_2 : bW → Nat → List bC := fun w a => (c1X9_1 w a ++ [.inl (3, f1X3 w (a + 3 + 1))]) ++ c1X3 w (a + 3 + 1)
theorem len_X9_2 (w : bW) (a : Nat) : (c1X9_2 w a).length = 32 := by
  unfold c1X9_2; rw [List.length_append, List.length_append, len_X3, len_X9_1]; rfl
def c1X9_3 : bW → Nat → List bC := fun w a => (c1X9_2 w a ++ [.inl (3, f1X3 w (a + 32 + 1))]) ++ c1X3 w (a + 32 + 1)
theorem len_X9_3 (w : bW) (a : Nat) : (c1X9_3 w a).length = 61 := by
  unfold c1X9_3; rw [List.length_append, List.length_append, len_X3, len_X9_2]; rfl
def c1X9_4 : bW → Nat → List bC := fun w a => (c1X9_3 w a ++ [.inl (3, f1X3 w (a + 61 + 1))]) ++ c1X3 w (a + 61 + 1)
theorem len_X9_4 (w : bW) (a : Nat) : (c1X9_4 w a).length = 90 := by
  unfold c1X9_4; rw [List.length_append, List.length_append, len_X3, len_X9_3]; rfl
def c1X9_5 : bW → Nat → List bC := fun w a => (c1X9_4 w a ++ [.inl (2, f1X2 w (a + 90 + 1))]) ++ c1X2 w (a + 90 + 1)
theorem len_X9_5 (w : bW) (a : Nat) : (c1X9_5 w a).length = 498 := by
  unfold c1X9_5; rw [List.length_append, List.length_append, len_X2, len_X9_4]; rfl
def c1X9_6 : bW → Nat → List bC := fun w a => (c1X9_5 w a ++ [.inl (6, f1X6 w (a + 498 + 1))]) ++ c1X6 w (a + 498 + 1)
theorem len_X9_6 (w : bW) (a : Nat) : (c1X9_6 w a).length = 528 := by
  unfold c1X9_6; rw [List.length_append, List.length_append, len_X6, len_X9_5]; rfl
def c1X9_7 : bW → Nat → List bC := fun w a => (c1X9_6 w a ++ [.inl (6, f1X6 w (a + 528 + 1))]) ++ c1X6 w (a + 528 + 1)
theorem len_X9_7 (w : bW) (a : Nat) : (c1X9_7 w a).length = 558 := by
  unfold c1X9_7; rw [List.length_append, List.length_append, len_X6, len_X9_6]; rfl
set_option maxRecDepth 20000 in
set_option maxHeartbeats 4000000 in
theorem mk_X9 {l : Launch} : bCon l yX9_init (Cond.code yX9_init cX9_init 1 none) 4 558 12425 9 f0X9 f1X9 c1X9_7 := by
  refine bEnter (by decide) rfl (by decide) (by decide) ?_
  intro p e R s m args below meth c w h0 C hr
  have L1 := len_X9_1 w s.heap.size
  have L2 := len_X9_2 w s.heap.size
  have L3 := len_X9_3 w s.heap.size
  have L4 := len_X9_4 w s.heap.size
  have L5 := len_X9_5 w s.heap.size
  have L6 := len_X9_6 w s.heap.size
  refine bs_ald C 0 dX9_init_0 rfl rfl ?_
  refine bs_init C dX9_init_1 we_24 we_25 we_26 ?_
  refine bs_obj (L := 0) (f := 0) (r := (RX9, TX9, 7)) (r' := (RX8, TX8, 5)) (ci' := 8) (fs0 := f0X8) (f1 := f1X8) (c1 := c1X8) (ty := .object "SondeStations$Text") C (by rfl) (Or.inr ⟨_, wf_29⟩) rfl rfl dX9_init_4 dX9_init_5 dX9_init_8 dX9_init_9 dX9_init_12 tyX8 tyX8_ok we_27 we_28 we_2 (fun j hj => f0X8_ok j hj) mk_X8 ⟨by decide, by decide, we_31, we_2, by decide +kernel, rfl, we_30⟩ (Nat.le_of_ble_eq_true rfl) rfl rfl we_292 (by decide +kernel) (fun _ => ⟨rfl, rfl⟩) (Nat.le_of_ble_eq_true rfl) (Nat.le_of_ble_eq_true rfl) (Nat.le_of_ble_eq_true rfl) ?_
  refine bs_obj (L := 3) (f := 1) (r := (RX9, TX9, 7)) (r' := (RX3, TX3, 13)) (ci' := 3) (fs0 := f0X3) (f1 := f1X3) (c1 := c1X3) (ty := .object "SondeStations$Net") C L1 (Or.inr ⟨_, wf_56⟩) rfl rfl dX9_init_15 dX9_init_16 dX9_init_19 dX9_init_20 dX9_init_23 tyX3 tyX3_ok we_54 we_55 we_3 (fun j hj => f0X3_ok j hj) mk_X3 ⟨by decide, by decide, we_58, we_3, by decide +kernel, rfl, we_57⟩ (Nat.le_of_ble_eq_true rfl) rfl rfl we_293 (by decide +kernel) (fun _ => ⟨rfl, rfl⟩) (Nat.le_of_ble_eq_true rfl) (Nat.le_of_ble_eq_true rfl) (Nat.le_of_ble_eq_true rfl) ?_
  refine bs_obj (L := 32) (f := 2) (r := (RX9, TX9, 7)) (r' := (RX3, TX3, 13)) (ci' := 3) (fs0 := f0X3) (f1 := f1X3) (c1 := c1X3) (ty := .object "SondeStations$Net") C L2 (Or.inr ⟨_, wf_56⟩) rfl rfl dX9_init_26 dX9_init_27 dX9_init_30 dX9_init_31 dX9_init_34 tyX3 tyX3_ok we_54 we_55 we_3 (fun j hj => f0X3_ok j hj) mk_X3 ⟨by decide, by decide, we_58, we_3, by decide +kernel, rfl, we_57⟩ (Nat.le_of_ble_eq_true rfl) rfl rfl we_294 (by decide +kernel) (fun _ => ⟨rfl, rfl⟩) (Nat.le_of_ble_eq_true rfl) (Nat.le_of_ble_eq_true rfl) (Nat.le_of_ble_eq_true rfl) ?_
  refine bs_obj (L := 61) (f := 3) (r := (RX9, TX9, 7)) (r' := (RX3, TX3, 13)) (ci' := 3) (fs0 := f0X3) (f1 := f1X3) (c1 := c1X3) (ty := .object "SondeStations$Net") C L3 (Or.inr ⟨_, wf_56⟩) rfl rfl dX9_init_37 dX9_init_38 dX9_init_41 dX9_init_42 dX9_init_45 tyX3 tyX3_ok we_54 we_55 we_3 (fun j hj => f0X3_ok j hj) mk_X3 ⟨by decide, by decide, we_58, we_3, by decide +kernel, rfl, we_57⟩ (Nat.le_of_ble_eq_true rfl) rfl rfl we_295 (by decide +kernel) (fun _ => ⟨rfl, rfl⟩) (Nat.le_of_ble_eq_true rfl) (Nat.le_of_ble_eq_true rfl) (Nat.le_of_ble_eq_true rfl) ?_
  refine bs_obj (L := 90) (f := 4) (r := (RX9, TX9, 7)) (r' := (RX2, TX2, 3)) (ci' := 2) (fs0 := f0X2) (f1 := f1X2) (c1 := c1X2) (ty := .object "SondeStations$Memory") C L4 (Or.inl we_258) rfl rfl dX9_init_48 dX9_init_49 dX9_init_52 dX9_init_53 dX9_init_56 tyX2 tyX2_ok we_256 we_257 we_9 (fun j hj => f0X2_ok j hj) mk_X2 ⟨by decide, by decide, we_260, we_9, by decide +kernel, rfl, we_259⟩ (Nat.le_of_ble_eq_true rfl) rfl rfl we_296 (by decide +kernel) (fun _ => ⟨rfl, rfl⟩) (Nat.le_of_ble_eq_true rfl) (Nat.le_of_ble_eq_true rfl) (Nat.le_of_ble_eq_true rfl) ?_
  refine bs_obj (L := 498) (f := 5) (r := (RX9, TX9, 7)) (r' := (RX6, TX6, 2)) (ci' := 6) (fs0 := f0X6) (f1 := f1X6) (c1 := c1X6) (ty := .object "SondeStations$Slot") C L5 (Or.inr ⟨_, wf_278⟩) rfl rfl dX9_init_59 dX9_init_60 dX9_init_63 dX9_init_64 dX9_init_67 tyX6 tyX6_ok we_276 we_277 we_10 (fun j hj => f0X6_ok j hj) mk_X6 ⟨by decide, by decide, we_280, we_10, by decide +kernel, rfl, we_279⟩ (Nat.le_of_ble_eq_true rfl) rfl rfl we_297 (by decide +kernel) (fun _ => ⟨rfl, rfl⟩) (Nat.le_of_ble_eq_true rfl) (Nat.le_of_ble_eq_true rfl) (Nat.le_of_ble_eq_true rfl) ?_
  refine bs_obj (L := 528) (f := 6) (r := (RX9, TX9, 7)) (r' := (RX6, TX6, 2)) (ci' := 6) (fs0 := f0X6) (f1 := f1X6) (c1 := c1X6) (ty := .object "SondeStations$Slot") C L6 (Or.inr ⟨_, wf_278⟩) rfl rfl dX9_init_70 dX9_init_71 dX9_init_74 dX9_init_75 dX9_init_78 tyX6 tyX6_ok we_276 we_277 we_10 (fun j hj => f0X6_ok j hj) mk_X6 ⟨by decide, by decide, we_280, we_10, by decide +kernel, rfl, we_279⟩ (Nat.le_of_ble_eq_true rfl) rfl rfl we_298 (by decide +kernel) (fun _ => ⟨rfl, rfl⟩) (Nat.le_of_ble_eq_true rfl) (Nat.le_of_ble_eq_true rfl) (Nat.le_of_ble_eq_true rfl) ?_
  exact bs_ret C hr dX9_init_81
