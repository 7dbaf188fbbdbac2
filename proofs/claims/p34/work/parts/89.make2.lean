theorem we_3 : Cond.initialized yX3_init.cls ∈ ab_T := ab_in 3 (by decide +kernel) rfl
theorem we_4 : Cond.initialized yX7_init.cls ∈ ab_T := ab_in 4 (by decide +kernel) rfl
theorem we_5 : Cond.initialized yX0_init.cls ∈ ab_T := ab_in 5 (by decide +kernel) rfl
theorem we_6 : Cond.initialized yX4_init.cls ∈ ab_T := ab_in 6 (by decide +kernel) rfl
theorem we_7 : Cond.initialized yX5_init.cls ∈ ab_T := ab_in 7 (by decide +kernel) rfl
theorem we_8 : Cond.initialized yX1_init.cls ∈ ab_T := ab_in 8 (by decide +kernel) rfl
theorem we_25 : Cond.instanceMethod objectInit ∈ ab_T := ab_in 25 (by decide +kernel) rfl
theorem we_26 : Cond.code objectInit ⟨#[0xb1]⟩ 1 none ∈ ab_T := ab_in 26 (by decide +kernel) rfl
theorem we_32 : Cond.methodLink RX8 3 objectInit ∈ ab_T := ab_in 32 (by decide +kernel) rfl
theorem we_33 : Cond.fieldLink RX8 9 "SondeStations$Text" "signs" "[C" ∈ ab_T := ab_in 33 (by decide +kernel) rfl
theorem we_39 : Cond.fieldLink RX8 15 "SondeStations$Text" "values" "[I" ∈ ab_T := ab_in 39 (by decide +kernel) rfl
theorem we_52 : Cond.arrayClass .char ∈ ab_T := ab_in 52 (by decide +kernel) rfl
theorem we_53 : Cond.arrayClass .int ∈ ab_T := ab_in 53 (by decide +kernel) rfl
theorem we_55 : Cond.instantiable RX3 13 ∈ ab_T := ab_in 55 (by decide +kernel) rfl
theorem we_57 : Cond.instanceMethod yX3_init ∈ ab_T := ab_in 57 (by decide +kernel) rfl
theorem we_58 : Cond.code yX3_init cX3_init 1 none ∈ ab_T := ab_in 58 (by decide +kernel) rfl
theorem we_59 : Cond.methodLink RX3 3 objectInit ∈ ab_T := ab_in 59 (by decide +kernel) rfl
theorem we_60 : Cond.classLink RX3 9 RX7 ∈ ab_T := ab_in 60 (by decide +kernel) rfl
theorem we_61 : Cond.instantiable RX7 8 ∈ ab_T := ab_in 61 (by decide +kernel) rfl
theorem wf_62 : Cond.methodLinkNest RX3 11 yX7_init "SondeStations" ∈ ab_N := ab_inN 62 (by decide +kernel) rfl
theorem we_63 : Cond.instanceMethod yX7_init ∈ ab_T := ab_in 63 (by decide +kernel) rfl
theorem we_64 : Cond.code yX7_init cX7_init 1 none ∈ ab_T := ab_in 64 (by decide +kernel) rfl
theorem we_65 : Cond.methodLink RX7 3 objectInit ∈ ab_T := ab_in 65 (by decide +kernel) rfl
theorem we_69 : Cond.fieldLink RX7 9 "SondeStations$Stations" "place" "[I" ∈ ab_T := ab_in 69 (by decide +kernel) rfl
theorem we_72 : Cond.fieldLink RX7 15 "SondeStations$Stations" "hours" "[I" ∈ ab_T := ab_in 72 (by decide +kernel) rfl
theorem we_75 : Cond.fieldLink RX7 18 "SondeStations$Stations" "size" "[I" ∈ ab_T := ab_in 75 (by decide +kernel) rfl
theorem we_78 : Cond.fieldLink RX7 21 "SondeStations$Stations" "gas" "[I" ∈ ab_T := ab_in 78 (by decide +kernel) rfl
theorem we_81 : Cond.fieldLink RX7 24 "SondeStations$Stations" "releases" "[I" ∈ ab_T := ab_in 81 (by decide +kernel) rfl
theorem we_84 : Cond.fieldLink RX7 27 "SondeStations$Stations" "gaps" "[I" ∈ ab_T := ab_in 84 (by decide +kernel) rfl
theorem we_87 : Cond.fieldLink RX7 30 "SondeStations$Stations" "sondes" "[I" ∈ ab_T := ab_in 87 (by decide +kernel) rfl
theorem we_105 : Cond.classLink RX3 18 RX0 ∈ ab_T := ab_in 105 (by decide +kernel) rfl
theorem we_106 : Cond.instantiable RX0 5 ∈ ab_T := ab_in 106 (by decide +kernel) rfl
theorem wf_107 : Cond.methodLinkNest RX3 20 yX0_init "SondeStations" ∈ ab_N := ab_inN 107 (by decide +kernel) rfl
theorem we_108 : Cond.instanceMethod yX0_init ∈ ab_T := ab_in 108 (by decide +kernel) rfl
theorem we_109 : Cond.code yX0_init cX0_init 1 none ∈ ab_T := ab_in 109 (by decide +kernel) rfl
theorem we_110 : Cond.methodLink RX0 3 objectInit ∈ ab_T := ab_in 110 (by decide +kernel) rfl
theorem we_114 : Cond.fieldLink RX0 9 "SondeStations$Finders" "place" "[I" ∈ ab_T := ab_in 114 (by decide +kernel) rfl
theorem we_117 : Cond.fieldLink RX0 15 "SondeStations$Finders" "reach" "[I" ∈ ab_T := ab_in 117 (by decide +kernel) rfl
theorem we_119 : Cond.fieldLink RX0 18 "SondeStations$Finders" "delay" "[I" ∈ ab_T := ab_in 119 (by decide +kernel) rfl
theorem we_122 : Cond.fieldLink RX0 21 "SondeStations$Finders" "found" "[I" ∈ ab_T := ab_in 122 (by decide +kernel) rfl
theorem we_136 : Cond.classLink RX3 25 RX4 ∈ ab_T := ab_in 136 (by decide +kernel) rfl
theorem we_137 : Cond.instantiable RX4 5 ∈ ab_T := ab_in 137 (by decide +kernel) rfl
theorem wf_138 : Cond.methodLinkNest RX3 27 yX4_init "SondeStations" ∈ ab_N := ab_inN 138 (by decide +kernel) rfl
theorem we_139 : Cond.instanceMethod yX4_init ∈ ab_T := ab_in 139 (by decide +kernel) rfl
theorem we_140 : Cond.code yX4_init cX4_init 1 none ∈ ab_T := ab_in 140 (by decide +kernel) rfl
theorem we_141 : Cond.methodLink RX4 3 objectInit ∈ ab_T := ab_in 141 (by decide +kernel) rfl
theorem we_145 : Cond.fieldLink RX4 9 "SondeStations$Orders" "arrival" "[I" ∈ ab_T := ab_in 145 (by decide +kernel) rfl
theorem we_146 : Cond.fieldLink RX4 15 "SondeStations$Orders" "station" "[I" ∈ ab_T := ab_in 146 (by decide +kernel) rfl
theorem we_147 : Cond.fieldLink RX4 18 "SondeStations$Orders" "gas" "[I" ∈ ab_T := ab_in 147 (by decide +kernel) rfl
theorem we_148 : Cond.fieldLink RX4 21 "SondeStations$Orders" "sondes" "[I" ∈ ab_T := ab_in 148 (by decide +kernel) rfl
theorem we_160 : Cond.classLink RX3 32 RX5 ∈ ab_T := ab_in 160 (by decide +kernel) rfl
theorem we_161 : Cond.instantiable RX5 4 ∈ ab_T := ab_in 161 (by decide +kernel) rfl
theorem wf_162 : Cond.methodLinkNest RX3 34 yX5_init "SondeStations" ∈ ab_N := ab_inN 162 (by decide +kernel) rfl
theorem we_163 : Cond.instanceMethod yX5_init ∈ ab_T := ab_in 163 (by decide +kernel) rfl
theorem we_164 : Cond.code yX5_init cX5_init 1 none ∈ ab_T := ab_in 164 (by decide +kernel) rfl
theorem we_165 : Cond.methodLink RX5 3 objectInit ∈ ab_T := ab_in 165 (by decide +kernel) rfl
theorem we_168 : Cond.fieldLink RX5 11 "SondeStations$Returns" "arrival" "[I" ∈ ab_T := ab_in 168 (by decide +kernel) rfl
theorem we_169 : Cond.fieldLink RX5 15 "SondeStations$Returns" "station" "[I" ∈ ab_T := ab_in 169 (by decide +kernel) rfl
theorem we_170 : Cond.fieldLink RX5 18 "SondeStations$Returns" "flights" "[I" ∈ ab_T := ab_in 170 (by decide +kernel) rfl
theorem we_180 : Cond.classLink RX3 39 RX1 ∈ ab_T := ab_in 180 (by decide +kernel) rfl
theorem we_181 : Cond.instantiable RX1 5 ∈ ab_T := ab_in 181 (by decide +kernel) rfl
theorem wf_182 : Cond.methodLinkNest RX3 41 yX1_init "SondeStations" ∈ ab_N := ab_inN 182 (by decide +kernel) rfl
theorem we_183 : Cond.instanceMethod yX1_init ∈ ab_T := ab_in 183 (by decide +kernel) rfl
theorem we_184 : Cond.code yX1_init cX1_init 1 none ∈ ab_T := ab_in 184 (by decide +kernel) rfl
theorem we_185 : Cond.methodLink RX1 3 objectInit ∈ ab_T := ab_in 185 (by decide +kernel) rfl
theorem we_189 : Cond.fieldLink RX1 9 "SondeStations$Gaps" "watch" "[I" ∈ ab_T := ab_in 189 (by decide +kernel) rfl
theorem we_190 : Cond.fieldLink RX1 15 "SondeStations$Gaps" "station" "[I" ∈ ab_T := ab_in 190 (by decide +kernel) rfl
theorem we_191 : Cond.fieldLink RX1 18 "SondeStations$Gaps" "reason" "[I" ∈ ab_T := ab_in 191 (by decide +kernel) rfl
theorem we_203 : Cond.fieldLink RX3 12 "SondeStations$Net" "stations" "LSondeStations$Stations;" ∈ ab_T := ab_in 203 (by decide +kernel) rfl
theorem we_205 : Cond.fieldLink RX3 21 "SondeStations$Net" "finders" "LSondeStations$Finders;" ∈ ab_T := ab_in 205 (by decide +kernel) rfl
theorem we_207 : Cond.fieldLink RX3 28 "SondeStations$Net" "orders" "LSondeStations$Orders;" ∈ ab_T := ab_in 207 (by decide +kernel) rfl
theorem we_209 : Cond.fieldLink RX3 35 "SondeStations$Net" "returns" "LSondeStations$Returns;" ∈ ab_T := ab_in 209 (by decide +kernel) rfl
theorem we_211 : Cond.fieldLink RX3 42 "SondeStations$Net" "gaps" "LSondeStations$Gaps;" ∈ ab_T := ab_in 211 (by decide +kernel) rfl
theorem we_213 : Cond.fieldLink RX3 46 "SondeStations$Net" "winds" "[I" ∈ ab_T := ab_in 213 (by decide +kernel) rfl
theorem we_215 : Cond.fieldLink RX3 50 "SondeStations$Net" "settings" "[I" ∈ ab_T := ab_in 215 (by decide +kernel) rfl
theorem we_281 : Cond.methodLink RX6 1 objectInit ∈ ab_T := ab_in 281 (by decide +kernel) rfl
theorem we_282 : Cond.classLink RX6 7 RX3 ∈ ab_T := ab_in 282 (by decide +kernel) rfl
theorem wf_283 : Cond.methodLinkNest RX6 9 yX3_init "SondeStations" ∈ ab_N := ab_inN 283 (by decide +kernel) rfl
theorem we_284 : Cond.fieldLink RX6 10 "SondeStations$Slot" "net" "LSondeStations$Net;" ∈ ab_T := ab_in 284 (by decide +kernel) rfl
theorem dX0_init_0 : decode cX0_init 0 = .ok (.aload_n 0, 1) := by decide +kernel
theorem dX0_init_1 : decode cX0_init 1 = .ok (.invokespecial 3, 3) := by decide +kernel
theorem dX0_init_4 : decode cX0_init 4 = .ok (.aload_n 0, 1) := by decide +kernel
theorem dX0_init_5 : decode cX0_init 5 = .ok (.bipush 6, 2) := by decide +kernel
theorem dX0_init_7 : decode cX0_init 7 = .ok (.newarray .int, 2) := by decide +kernel
theorem dX0_init_9 : decode cX0_init 9 = .ok (.putfield 9, 3) := by decide +kernel
theorem dX0_init_12 : decode cX0_init 12 = .ok (.aload_n 0, 1) := by decide +kernel
theorem dX0_init_13 : decode cX0_init 13 = .ok (.bipush 6, 2) := by decide +kernel
theorem dX0_init_15 : decode cX0_init 15 = .ok (.newarray .int, 2) := by decide +kernel
theorem dX0_init_17 : decode cX0_init 17 = .ok (.putfield 15, 3) := by decide +kernel
theorem dX0_init_20 : decode cX0_init 20 = .ok (.aload_n 0, 1) := by decide +kernel
theorem dX0_init_21 : decode cX0_init 21 = .ok (.bipush 6, 2) := by decide +kernel
theorem dX0_init_23 : decode cX0_init 23 = .ok (.newarray .int, 2) := by decide +kernel
theorem dX0_init_25 : decode cX0_init 25 = .ok (.putfield 18, 3) := by decide +kernel
theorem dX0_init_28 : decode cX0_init 28 = .ok (.aload_n 0, 1) := by decide +kernel
theorem dX0_init_29 : decode cX0_init 29 = .ok (.bipush 6, 2) := by decide +kernel
theorem dX0_init_31 : decode cX0_init 31 = .ok (.newarray .int, 2) := by decide +kernel
theorem dX0_init_33 : decode cX0_init 33 = .ok (.putfield 21, 3) := by decide +kernel
theorem dX0_init_36 : decode cX0_init 36 = .ok (.return_, 1) := by decide +kernel
def f0X0 : List Value := [.int 0, .null, .null, .null, .null]
theorem f0X0_ok : ∀ j, j < 5 → defaultValue (tyX0 j) = vp_V f0X0 j := by
  intro j hj
  rcases (by omega : j = 0 ∨ j = 1 ∨ j = 2 ∨ j = 3 ∨ j = 4) with rfl | rfl | rfl | rfl | rfl <;> rfl
def f1X0 : bW → Nat → List Value := fun _ a => [.int 0, .ref a, .ref (a + 1), .ref (a + 2), .ref (a + 3)]
def c1X0 : bW → Nat → List bC := fun w a => [.inr (w.2 11, 6, fun _ => .int 0), .inr (w.2 11, 6, fun _ => .int 0), .inr (w.2 11, 6, fun _ => .int 0), .inr (w.2 11, 6, fun _ => .int 0)]
set_option maxRecDepth 20000 in
set_option maxHeartbeats 4000000 in
theorem mk_X0 {l : Launch} : bCon l yX0_init (Cond.code yX0_init cX0_init 1 none) 1 4 24 0 f0X0 f1X0 c1X0 := by
  refine bEnter (by decide) rfl (by decide) (by decide) ?_
  intro p e R s m args below meth c w h0 C hr
  refine bs_ald C 0 dX0_init_0 rfl rfl ?_
  refine bs_init C dX0_init_1 we_110 we_25 we_26 ?_
  refine bs_ald C 0 dX0_init_4 rfl rfl ?_
  refine bs_bipush (x := nI 6) C dX0_init_5 (by decide +kernel) ?_
  refine bs_newa (N := 6) (ty := .int) (v0 := .int 0) (cA := w.2 11) C 0 dX0_init_7 rfl (fun _ h => by cases h) rfl we_53 (by decide +kernel) (by decide +kernel) (Nat.le_of_ble_eq_true rfl) (Nat.le_of_ble_eq_true rfl) (Nat.le_of_ble_eq_true rfl) rfl ?_
  refine bs_putF (f := 1) (r := (RX0, TX0, 5)) (ty := .array .int) C rfl dX0_init_9 (Nat.le_of_ble_eq_true rfl) rfl rfl we_114 (by decide +kernel) rfl rfl (Nat.le_of_ble_eq_true rfl) ?_
  refine bs_ald C 0 dX0_init_12 rfl rfl ?_
  refine bs_bipush (x := nI 6) C dX0_init_13 (by decide +kernel) ?_
  refine bs_newa (N := 6) (ty := .int) (v0 := .int 0) (cA := w.2 11) C 0 dX0_init_15 rfl (fun _ h => by cases h) rfl we_53 (by decide +kernel) (by decide +kernel) (Nat.le_of_ble_eq_true rfl) (Nat.le_of_ble_eq_true rfl) (Nat.le_of_ble_eq_true rfl) rfl ?_
  refine bs_putF (f := 2) (r := (RX0, TX0, 5)) (ty := .array .int) C rfl dX0_init_17 (Nat.le_of_ble_eq_true rfl) rfl rfl we_117 (by decide +kernel) rfl rfl (Nat.le_of_ble_eq_true rfl) ?_
  refine bs_ald C 0 dX0_init_20 rfl rfl ?_
  refine bs_bipush (x := nI 6) C dX0_init_21 (by decide +kernel) ?_
  refine bs_newa (N := 6) (ty := .int) (v0 := .int 0) (cA := w.2 11) C 0 dX0_init_23 rfl (fun _ h => by cases h) rfl we_53 (by decide +kernel) (by decide +kernel) (Nat.le_of_ble_eq_true rfl) (Nat.le_of_ble_eq_true rfl) (Nat.le_of_ble_eq_true rfl) rfl ?_
  refine bs_putF (f := 3) (r := (RX0, TX0, 5)) (ty := .array .int) C rfl dX0_init_25 (Nat.le_of_ble_eq_true rfl) rfl rfl we_119 (by decide +kernel) rfl rfl (Nat.le_of_ble_eq_true rfl) ?_
  refine bs_ald C 0 dX0_init_28 rfl rfl ?_
  refine bs_bipush (x := nI 6) C dX0_init_29 (by decide +kernel) ?_
  refine bs_newa (N := 6) (ty := .int) (v0 := .int 0) (cA := w.2 11) C 0 dX0_init_31 rfl (fun _ h => by cases h) rfl we_53 (by decide +kernel) (by decide +kernel) (Nat.le_of_ble_eq_true rfl) (Nat.le_of_ble_eq_true rfl) (Nat.le_of_ble_eq_true rfl) rfl ?_
  refine bs_putF (f := 4) (r := (RX0, TX0, 5)) (ty := .array .int) C rfl dX0_init_33 (Nat.le_of_ble_eq_true rfl) rfl rfl we_122 (by decide +kernel) rfl rfl (Nat.le_of_ble_eq_true rfl) ?_
  exact bs_ret C hr dX0_init_36
theorem dX1_init_0 : decode cX1_init 0 = .ok (.aload_n 0, 1) := by decide +kernel
theorem dX1_init_1 : decode cX1_init 1 = .ok (.invokespecial 3, 3) := by decide +kernel
theorem dX1_init_4 : decode cX1_init 4 = .ok (.aload_n 0, 1) := by decide +kernel
theorem dX1_init_5 : decode cX1_init 5 = .ok (.bipush 12, 2) := by decide +kernel
theorem dX1_init_7 : decode cX1_init 7 = .ok (.newarray .int, 2) := by decide +kernel
theorem dX1_init_9 : decode cX1_init 9 = .ok (.putfield 9, 3) := by decide +kernel
theorem dX1_init_12 : decode cX1_init 12 = .ok (.aload_n 0, 1) := by decide +kernel
theorem dX1_init_13 : decode cX1_init 13 = .ok (.bipush 12, 2) := by decide +kernel
theorem dX1_init_15 : decode cX1_init 15 = .ok (.newarray .int, 2) := by decide +kernel
theorem dX1_init_17 : decode cX1_init 17 = .ok (.putfield 15, 3) := by decide +kernel
theorem dX1_init_20 : decode cX1_init 20 = .ok (.aload_n 0, 1) := by decide +kernel
theorem dX1_init_21 : decode cX1_init 21 = .ok (.bipush 12, 2) := by decide +kernel
theorem dX1_init_23 : decode cX1_init 23 = .ok (.newarray .int, 2) := by decide +kernel
theorem dX1_init_25 : decode cX1_init 25 = .ok (.putfield 18, 3) := by decide +kernel
theorem dX1_init_28 : decode cX1_init 28 = .ok (.return_, 1) := by decide +kernel
def f0X1 : List Value := [.int 0, .int 0, .null, .null, .null]
theorem f0X1_ok : ∀ j, j < 5 → defaultValue (tyX1 j) = vp_V f0X1 j := by
  intro j hj
  rcases (by omega : j = 0 ∨ j = 1 ∨ j = 2 ∨ j = 3 ∨ j = 4) with rfl | rfl | rfl | rfl | rfl <;> rfl
def f1X1 : bW → Nat → List Value := fun _ a => [.int 0, .int 0, .ref a, .ref (a + 1), .ref (a + 2)]
def c1X1 : bW → Nat → List bC := fun w a => [.inr (w.2 11, 12, fun _ => .int 0), .inr (w.2 11, 12, fun _ => .int 0), .inr (w.2 11, 12, fun _ => .int 0)]
set_option maxRecDepth 20000 in
set_option maxHeartbeats 4000000 in
theorem mk_X1 {l : Launch} : bCon l yX1_init (Cond.code yX1_init cX1_init 1 none) 1 3 36 1 f0X1 f1X1 c1X1 := by
  refine bEnter (by decide) rfl (by decide) (by decide) ?_
  intro p e R s m args below meth c w h0 C hr
  refine bs_ald C 0 dX1_init_0 rfl rfl ?_
  refine bs_init C dX1_init_1 we_185 we_25 we_26 ?_
  refine bs_ald C 0 dX1_init_4 rfl rfl ?_
  refine bs_bipush (x := nI 12) C dX1_init_5 (by decide +kernel) ?_
  refine bs_newa (N := 12) (ty := .int) (v0 := .int 0) (cA := w.2 11) C 0 dX1_init_7 rfl (fun _ h => by cases h) rfl we_53 (by decide +kernel) (by decide +kernel) (Nat.le_of_ble_eq_true rfl) (Nat.le_of_ble_eq_true rfl) (Nat.le_of_ble_eq_true rfl) rfl ?_
  refine bs_putF (f := 2) (r := (RX1, TX1, 5)) (ty := .array .int) C rfl dX1_init_9 (Nat.le_of_ble_eq_true rfl) rfl rfl we_189 (by decide +kernel) rfl rfl (Nat.le_of_ble_eq_true rfl) ?_
  refine bs_ald C 0 dX1_init_12 rfl rfl ?_
  refine bs_bipush (x := nI 12) C dX1_init_13 (by decide +kernel) ?_
  refine bs_newa (N := 12) (ty := .int) (v0 := .int 0) (cA := w.2 11) C 0 dX1_init_15 rfl (fun _ h => by cases h) rfl we_53 (by decide +kernel) (by decide +kernel) (Nat.le_of_ble_eq_true rfl) (Nat.le_of_ble_eq_true rfl) (Nat.le_of_ble_eq_true rfl) rfl ?_
  refine bs_putF (f := 3) (r := (RX1, TX1, 5)) (ty := .array .int) C rfl dX1_init_17 (Nat.le_of_ble_eq_true rfl) rfl rfl we_190 (by decide +kernel) rfl rfl (Nat.le_of_ble_eq_true rfl) ?_
  refine bs_ald C 0 dX1_init_20 rfl rfl ?_
  refine bs_bipush (x := nI 12) C dX1_init_21 (by decide +kernel) ?_
  refine bs_newa (N := 12) (ty := .int) (v0 := .int 0) (cA := w.2 11) C 0 dX1_init_23 rfl (fun _ h => by cases h) rfl we_53 (by decide +kernel) (by decide +kernel) (Nat.le_of_ble_eq_true rfl) (Nat.le_of_ble_eq_true rfl) (Nat.le_of_ble_eq_true rfl) rfl ?_
  refine bs_putF (f := 4) (r := (RX1, TX1, 5)) (ty := .array .int) C rfl dX1_init_25 (Nat.le_of_ble_eq_true rfl) rfl rfl we_191 (by decide +kernel) rfl rfl (Nat.le_of_ble_eq_true rfl) ?_
  exact bs_ret C hr dX1_init_28
theorem dX4_init_0 : decode cX4_init 0 = .ok (.aload_n 0, 1) := by decide +kernel
theorem dX4_init_1 : decode cX4_init 1 = .ok (.invokespecial 3, 3) := by decide +kernel
theorem dX4_init_4 : decode cX4_init 4 = .ok (.aload_n 0, 1) := by decide +kernel
theorem dX4_init_5 : decode cX4_init 5 = .ok (.bipush 8, 2) := by decide +kernel
theorem dX4_init_7 : decode cX4_init 7 = .ok (.newarray .int, 2) := by decide +kernel
theorem dX4_init_9 : decode cX4_init 9 = .ok (.putfield 9, 3) := by decide +kernel
theorem dX4_init_12 : decode cX4_init 12 = .ok (.aload_n 0, 1) := by decide +kernel
theorem dX4_init_13 : decode cX4_init 13 = .ok (.bipush 8, 2) := by decide +kernel
theorem dX4_init_15 : decode cX4_init 15 = .ok (.newarray .int, 2) := by decide +kernel
theorem dX4_init_17 : decode cX4_init 17 = .ok (.putfield 15, 3) := by decide +kernel
theorem dX4_init_20 : decode cX4_init 20 = .ok (.aload_n 0, 1) := by decide +kernel
theorem dX4_init_21 : decode cX4_init 21 = .ok (.bipush 8, 2) := by decide +kernel
theorem dX4_init_23 : decode cX4_init 23 = .ok (.newarray .int, 2) := by decide +kernel
theorem dX4_init_25 : decode cX4_init 25 = .ok (.putfield 18, 3) := by decide +kernel
theorem dX4_init_28 : decode cX4_init 28 = .ok (.aload_n 0, 1) := by decide +kernel
theorem dX4_init_29 : decode cX4_init 29 = .ok (.bipush 8, 2) := by decide +kernel
theorem dX4_init_31 : decode cX4_init 31 = .ok (.newarray .int, 2) := by decide +kernel
theorem dX4_init_33 : decode cX4_init 33 = .ok (.putfield 21, 3) := by decide +kernel
theorem dX4_init_36 : decode cX4_init 36 = .ok (.return_, 1) := by decide +kernel
def f0X4 : List Value := [.int 0, .null, .null, .null, .null]
theorem f0X4_ok : ∀ j, j < 5 → defaultValue (tyX4 j) = vp_V f0X4 j := by
  intro j hj
  rcases (by omega : j = 0 ∨ j = 1 ∨ j = 2 ∨ j = 3 ∨ j = 4) with rfl | rfl | rfl | rfl | rfl <;> rfl
def f1X4 : bW → Nat → List Value := fun _ a => [.int 0, .ref a, .ref (a + 1), .ref (a + 2), .ref (a + 3)]
def c1X4 : bW → Nat → List bC := fun w a => [.inr (w.2 11, 8, fun _ => .int 0), .inr (w.2 11, 8, fun _ => .int 0), .inr (w.2 11, 8, fun _ => .int 0), .inr (w.2 11, 8, fun _ => .int 0)]
set_option maxRecDepth 20000 in
set_option maxHeartbeats 4000000 in
theorem mk_X4 {l : Launch} : bCon l yX4_init (Cond.code yX4_init cX4_init 1 none) 1 4 32 4 f0X4 f1X4 c1X4 := by
  refine bEnter (by decide) rfl (by decide) (by decide) ?_
  intro p e R s m args below meth c w h0 C hr
  refine bs_ald C 0 dX4_init_0 rfl rfl ?_
  refine bs_init C dX4_init_1 we_141 we_25 we_26 ?_
  refine bs_ald C 0 dX4_init_4 rfl rfl ?_
  refine bs_bipush (x := nI 8) C dX4_init_5 (by decide +kernel) ?_
  refine bs_newa (N := 8) (ty := .int) (v0 := .int 0) (cA := w.2 11) C 0 dX4_init_7 rfl (fun _ h => by cases h) rfl we_53 (by decide +kernel) (by decide +kernel) (Nat.le_of_ble_eq_true rfl) (Nat.le_of_ble_eq_true rfl) (Nat.le_of_ble_eq_true rfl) rfl ?_
  refine bs_putF (f := 1) (r := (RX4, TX4, 5)) (ty := .array .int) C rfl dX4_init_9 (Nat.le_of_ble_eq_true rfl) rfl rfl we_145 (by decide +kernel) rfl rfl (Nat.le_of_ble_eq_true rfl) ?_
  refine bs_ald C 0 dX4_init_12 rfl rfl ?_
  refine bs_bipush (x := nI 8) C dX4_init_13 (by decide +kernel) ?_
  refine bs_newa (N := 8) (ty := .int) (v0 := .int 0) (cA := w.2 11) C 0 dX4_init_15 rfl (fun _ h => by cases h) rfl we_53 (by decide +kernel) (by decide +kernel) (Nat.le_of_ble_eq_true rfl) (Nat.le_of_ble_eq_true rfl) (Nat.le_of_ble_eq_true rfl) rfl ?_
  refine bs_putF (f := 2) (r := (RX4, TX4, 5)) (ty := .array .int) C rfl dX4_init_17 (Nat.le_of_ble_eq_true rfl) rfl rfl we_146 (by decide +kernel) rfl rfl (Nat.le_of_ble_eq_true rfl) ?_
  refine bs_ald C 0 dX4_init_20 rfl rfl ?_
  refine bs_bipush (x := nI 8) C dX4_init_21 (by decide +kernel) ?_
  refine bs_newa (N := 8) (ty := .int) (v0 := .int 0) (cA := w.2 11) C 0 dX4_init_23 rfl (fun _ h => by cases h) rfl we_53 (by decide +kernel) (by decide +kernel) (Nat.le_of_ble_eq_true rfl) (Nat.le_of_ble_eq_true rfl) (Nat.le_of_ble_eq_true rfl) rfl ?_
  refine bs_putF (f := 3) (r := (RX4, TX4, 5)) (ty := .array .int) C rfl dX4_init_25 (Nat.le_of_ble_eq_true rfl) rfl rfl we_147 (by decide +kernel) rfl rfl (Nat.le_of_ble_eq_true rfl) ?_
  refine bs_ald C 0 dX4_init_28 rfl rfl ?_
  refine bs_bipush (x := nI 8) C dX4_init_29 (by decide +kernel) ?_
  refine bs_newa (N := 8) (ty := .int) (v0 := .int 0) (cA := w.2 11) C 0 dX4_init_31 rfl (fun _ h => by cases h) rfl we_53 (by decide +kernel) (by decide +kernel) (Nat.le_of_ble_eq_true rfl) (Nat.le_of_ble_eq_true rfl) (Nat.le_of_ble_eq_true rfl) rfl ?_
  refine bs_putF (f := 4) (r := (RX4, TX4, 5)) (ty := .array .int) C rfl dX4_init_33 (Nat.le_of_ble_eq_true rfl) rfl rfl we_148 (by decide +kernel) rfl rfl (Nat.le_of_ble_eq_true rfl) ?_
  exact bs_ret C hr dX4_init_36
theorem dX5_init_0 : decode cX5_init 0 = .ok (.aload_n 0, 1) := by decide +kernel
theorem dX5_init_1 : decode cX5_init 1 = .ok (.invokespecial 3, 3) := by decide +kernel
theorem dX5_init_4 : decode cX5_init 4 = .ok (.aload_n 0, 1) := by decide +kernel
theorem dX5_init_5 : decode cX5_init 5 = .ok (.sipush 150, 3) := by decide +kernel
theorem dX5_init_8 : decode cX5_init 8 = .ok (.newarray .int, 2) := by decide +kernel
theorem dX5_init_10 : decode cX5_init 10 = .ok (.putfield 11, 3) := by decide +kernel
theorem dX5_init_13 : decode cX5_init 13 = .ok (.aload_n 0, 1) := by decide +kernel
theorem dX5_init_14 : decode cX5_init 14 = .ok (.sipush 150, 3) := by decide +kernel
theorem dX5_init_17 : decode cX5_init 17 = .ok (.newarray .int, 2) := by decide +kernel
theorem dX5_init_19 : decode cX5_init 19 = .ok (.putfield 15, 3) := by decide +kernel
theorem dX5_init_22 : decode cX5_init 22 = .ok (.aload_n 0, 1) := by decide +kernel
theorem dX5_init_23 : decode cX5_init 23 = .ok (.sipush 150, 3) := by decide +kernel
theorem dX5_init_26 : decode cX5_init 26 = .ok (.newarray .int, 2) := by decide +kernel
theorem dX5_init_28 : decode cX5_init 28 = .ok (.putfield 18, 3) := by decide +kernel
theorem dX5_init_31 : decode cX5_init 31 = .ok (.return_, 1) := by decide +kernel
def f0X5 : List Value := [.int 0, .null, .null, .null]
theorem f0X5_ok : ∀ j, j < 4 → defaultValue (tyX5 j) = vp_V f0X5 j := by
  intro j hj
  rcases (by omega : j = 0 ∨ j = 1 ∨ j = 2 ∨ j = 3) with rfl | rfl | rfl | rfl <;> rfl
def f1X5 : bW → Nat → List Value := fun _ a => [.int 0, .ref a, .ref (a + 1), .ref (a + 2)]
def c1X5 : bW → Nat → List bC := fun w a => [.inr (w.2 11, 150, fun _ => .int 0), .inr (w.2 11, 150, fun _ => .int 0), .inr (w.2 11, 150, fun _ => .int 0)]
set_option maxRecDepth 20000 in
set_option maxHeartbeats 4000000 in
theorem mk_X5 {l : Launch} : bCon l yX5_init (Cond.code yX5_init cX5_init 1 none) 1 3 450 5 f0X5 f1X5 c1X5 := by
  refine bEnter (by decide) rfl (by decide) (by decide) ?_
  intro p e R s m args below meth c w h0 C hr
  refine bs_ald C 0 dX5_init_0 rfl rfl ?_
  refine bs_init C dX5_init_1 we_165 we_25 we_26 ?_
  refine bs_ald C 0 dX5_init_4 rfl rfl ?_
  refine bs_sipush (x := nI 150) C dX5_init_5 (by decide +kernel) ?_
  refine bs_newa (N := 150) (ty := .int) (v0 := .int 0) (cA := w.2 11) C 0 dX5_init_8 rfl (fun _ h => by cases h) rfl we_53 (by decide +kernel) (by decide +kernel) (Nat.le_of_ble_eq_true rfl) (Nat.le_of_ble_eq_true rfl) (Nat.le_of_ble_eq_true rfl) rfl ?_
  refine bs_putF (f := 1) (r := (RX5, TX5, 4)) (ty := .array .int) C rfl dX5_init_10 (Nat.le_of_ble_eq_true rfl) rfl rfl we_168 (by decide +kernel) rfl rfl (Nat.le_of_ble_eq_true rfl) ?_
  refine bs_ald C 0 dX5_init_13 rfl rfl ?_
  refine bs_sipush (x := nI 150) C dX5_init_14 (by decide +kernel) ?_
  refine bs_newa (N := 150) (ty := .int) (v0 := .int 0) (cA := w.2 11) C 0 dX5_init_17 rfl (fun _ h => by cases h) rfl we_53 (by decide +kernel) (by decide +kernel) (Nat.le_of_ble_eq_true rfl) (Nat.le_of_ble_eq_true rfl) (Nat.le_of_ble_eq_true rfl) rfl ?_
  refine bs_putF (f := 2) (r := (RX5, TX5, 4)) (ty := .array .int) C rfl dX5_init_19 (Nat.le_of_ble_eq_true rfl) rfl rfl we_169 (by decide +kernel) rfl rfl (Nat.le_of_ble_eq_true rfl) ?_
  refine bs_ald C 0 dX5_init_22 rfl rfl ?_
  refine bs_sipush (x := nI 150) C dX5_init_23 (by decide +kernel) ?_
  refine bs_newa (N := 150) (ty := .int) (v0 := .int 0) (cA := w.2 11) C 0 dX5_init_26 rfl (fun _ h => by cases h) rfl we_53 (by decide +kernel) (by decide +kernel) (Nat.le_of_ble_eq_true rfl) (Nat.le_of_ble_eq_true rfl) (Nat.le_of_ble_eq_true rfl) rfl ?_
  refine bs_putF (f := 3) (r := (RX5, TX5, 4)) (ty := .array .int) C rfl dX5_init_28 (Nat.le_of_ble_eq_true rfl) rfl rfl we_170 (by decide +kernel) rfl rfl (Nat.le_of_ble_eq_true rfl) ?_
  exact bs_ret C hr dX5_init_31
theorem dX7_init_0 : decode cX7_init 0 = .ok (.aload_n 0, 1) := by decide +kernel
theorem dX7_init_1 : decode cX7_init 1 = .ok (.invokespecial 3, 3) := by decide +kernel
theorem dX7_init_4 : decode cX7_init 4 = .ok (.aload_n 0, 1) := by decide +kernel
theorem dX7_init_5 : decode cX7_init 5 = .ok (.iconst 5, 1) := by decide +kernel
theorem dX7_init_6 : decode cX7_init 6 = .ok (.newarray .int, 2) := by decide +kernel
theorem dX7_init_8 : decode cX7_init 8 = .ok (.putfield 9, 3) := by decide +kernel
theorem dX7_init_11 : decode cX7_init 11 = .ok (.aload_n 0, 1) := by decide +kernel
theorem dX7_init_12 : decode cX7_init 12 = .ok (.iconst 5, 1) := by decide +kernel
theorem dX7_init_13 : decode cX7_init 13 = .ok (.newarray .int, 2) := by decide +kernel
theorem dX7_init_15 : decode cX7_init 15 = .ok (.putfield 15, 3) := by decide +kernel
theorem dX7_init_18 : decode cX7_init 18 = .ok (.aload_n 0, 1) := by decide +kernel
theorem dX7_init_19 : decode cX7_init 19 = .ok (.iconst 5, 1) := by decide +kernel
theorem dX7_init_20 : decode cX7_init 20 = .ok (.newarray .int, 2) := by decide +kernel
theorem dX7_init_22 : decode cX7_init 22 = .ok (.putfield 18, 3) := by decide +kernel
theorem dX7_init_25 : decode cX7_init 25 = .ok (.aload_n 0, 1) := by decide +kernel
theorem dX7_init_26 : decode cX7_init 26 = .ok (.iconst 5, 1) := by decide +kernel
theorem dX7_init_27 : decode cX7_init 27 = .ok (.newarray .int, 2) := by decide +kernel
theorem dX7_init_29 : decode cX7_init 29 = .ok (.putfield 21, 3) := by decide +kernel
theorem dX7_init_32 : decode cX7_init 32 = .ok (.aload_n 0, 1) := by decide +kernel
theorem dX7_init_33 : decode cX7_init 33 = .ok (.iconst 5, 1) := by decide +kernel
theorem dX7_init_34 : decode cX7_init 34 = .ok (.newarray .int, 2) := by decide +kernel
theorem dX7_init_36 : decode cX7_init 36 = .ok (.putfield 24, 3) := by decide +kernel
theorem dX7_init_39 : decode cX7_init 39 = .ok (.aload_n 0, 1) := by decide +kernel
theorem dX7_init_40 : decode cX7_init 40 = .ok (.iconst 5, 1) := by decide +kernel
theorem dX7_init_41 : decode cX7_init 41 = .ok (.newarray .int, 2) := by decide +kernel
theorem dX7_init_43 : decode cX7_init 43 = .ok (.putfield 27, 3) := by decide +kernel
theorem dX7_init_46 : decode cX7_init 46 = .ok (.aload_n 0, 1) := by decide +kernel
theorem dX7_init_47 : decode cX7_init 47 = .ok (.bipush 25, 2) := by decide +kernel
theorem dX7_init_49 : decode cX7_init 49 = .ok (.newarray .int, 2) := by decide +kernel
theorem dX7_init_51 : decode cX7_init 51 = .ok (.putfield 30, 3) := by decide +kernel
theorem dX7_init_54 : decode cX7_init 54 = .ok (.return_, 1) := by decide +kernel
def f0X7 : List Value := [.int 0, .null, .null, .null, .null, .null, .null, .null]
theorem f0X7_ok : ∀ j, j < 8 → defaultValue (tyX7 j) = vp_V f0X7 j := by
  intro j hj
  rcases (by omega : j = 0 ∨ j = 1 ∨ j = 2 ∨ j = 3 ∨ j = 4 ∨ j = 5 ∨ j = 6 ∨ j = 7) with rfl | rfl | rfl | rfl | rfl | rfl | rfl | rfl <;> rfl
def f1X7 : bW → Nat → List Value := fun _ a => [.int 0, .ref a, .ref (a + 1), .ref (a + 2), .ref (a + 3), .ref (a + 4), .ref (a + 5), .ref (a + 6)]
def c1X7 : bW → Nat → List bC := fun w a => [.inr (w.2 11, 5, fun _ => .int 0), .inr (w.2 11, 5, fun _ => .int 0), .inr (w.2 11, 5, fun _ => .int 0), .inr (w.2 11, 5, fun _ => .int 0), .inr (w.2 11, 5, fun _ => .int 0), .inr (w.2 11, 5, fun _ => .int 0), .inr (w.2 11, 25, fun _ => .int 0)]
set_option maxRecDepth 20000 in
set_option maxHeartbeats 4000000 in
theorem mk_X7 {l : Launch} : bCon l yX7_init (Cond.code yX7_init cX7_init 1 none) 1 7 55 7 f0X7 f1X7 c1X7 := by
  refine bEnter (by decide) rfl (by decide) (by decide) ?_
  intro p e R s m args below meth c w h0 C hr
  refine bs_ald C 0 dX7_init_0 rfl rfl ?_
  refine bs_init C dX7_init_1 we_65 we_25 we_26 ?_
  refine bs_ald C 0 dX7_init_4 rfl rfl ?_
  refine bs_iconst (x := nI 5) C dX7_init_5 (by decide +kernel) ?_
  refine bs_newa (N := 5) (ty := .int) (v0 := .int 0) (cA := w.2 11) C 0 dX7_init_6 rfl (fun _ h => by cases h) rfl we_53 (by decide +kernel) (by decide +kernel) (Nat.le_of_ble_eq_true rfl) (Nat.le_of_ble_eq_true rfl) (Nat.le_of_ble_eq_true rfl) rfl ?_
  refine bs_putF (f := 1) (r := (RX7, TX7, 8)) (ty := .array .int) C rfl dX7_init_8 (Nat.le_of_ble_eq_true rfl) rfl rfl we_69 (by decide +kernel) rfl rfl (Nat.le_of_ble_eq_true rfl) ?_
  refine bs_ald C 0 dX7_init_11 rfl rfl ?_
  refine bs_iconst (x := nI 5) C dX7_init_12 (by decide +kernel) ?_
  refine bs_newa (N := 5) (ty := .int) (v0 := .int 0) (cA := w.2 11) C 0 dX7_init_13 rfl (fun _ h => by cases h) rfl we_53 (by decide +kernel) (by decide +kernel) (Nat.le_of_ble_eq_true rfl) (Nat.le_of_ble_eq_true rfl) (Nat.le_of_ble_eq_true rfl) rfl ?_
  refine bs_putF (f := 2) (r := (RX7, TX7, 8)) (ty := .array .int) C rfl dX7_init_15 (Nat.le_of_ble_eq_true rfl) rfl rfl we_72 (by decide +kernel) rfl rfl (Nat.le_of_ble_eq_true rfl) ?_
  refine bs_ald C 0 dX7_init_18 rfl rfl ?_
  refine bs_iconst (x := nI 5) C dX7_init_19 (by decide +kernel) ?_
  refine bs_newa (N := 5) (ty := .int) (v0 := .int 0) (cA := w.2 11) C 0 dX7_init_20 rfl (fun _ h => by cases h) rfl we_53 (by decide +kernel) (by decide +kernel) (Nat.le_of_ble_eq_true rfl) (Nat.le_of_ble_eq_true rfl) (Nat.le_of_ble_eq_true rfl) rfl ?_
  refine bs_putF (f := 3) (r := (RX7, TX7, 8)) (ty := .array .int) C rfl dX7_init_22 (Nat.le_of_ble_eq_true rfl) rfl rfl we_75 (by decide +kernel) rfl rfl (Nat.le_of_ble_eq_true rfl) ?_
  refine bs_ald C 0 dX7_init_25 rfl rfl ?_
  refine bs_iconst (x := nI 5) C dX7_init_26 (by decide +kernel) ?_
  refine bs_newa (N := 5) (ty := .int) (v0 := .int 0) (cA := w.2 11) C 0 dX7_init_27 rfl (fun _ h => by cases h) rfl we_53 (by decide +kernel) (by decide +kernel) (Nat.le_of_ble_eq_true rfl) (Nat.le_of_ble_eq_true rfl) (Nat.le_of_ble_eq_true rfl) rfl ?_
  refine bs_putF (f := 4) (r := (RX7, TX7, 8)) (ty := .array .int) C rfl dX7_init_29 (Nat.le_of_ble_eq_true rfl) rfl rfl we_78 (by decide +kernel) rfl rfl (Nat.le_of_ble_eq_true rfl) ?_
  refine bs_ald C 0 dX7_init_32 rfl rfl ?_
  refine bs_iconst (x := nI 5) C dX7_init_33 (by decide +kernel) ?_
  refine bs_newa (N := 5) (ty := .int) (v0 := .int 0) (cA := w.2 11) C 0 dX7_init_34 rfl (fun _ h => by cases h) rfl we_53 (by decide +kernel) (by decide +kernel) (Nat.le_of_ble_eq_true rfl) (Nat.le_of_ble_eq_true rfl) (Nat.le_of_ble_eq_true rfl) rfl ?_
  refine bs_putF (f := 5) (r := (RX7, TX7, 8)) (ty := .array .int) C rfl dX7_init_36 (Nat.le_of_ble_eq_true rfl) rfl rfl we_81 (by decide +kernel) rfl rfl (Nat.le_of_ble_eq_true rfl) ?_
  refine bs_ald C 0 dX7_init_39 rfl rfl ?_
  refine bs_iconst (x := nI 5) C dX7_init_40 (by decide +kernel) ?_
  refine bs_newa (N := 5) (ty := .int) (v0 := .int 0) (cA := w.2 11) C 0 dX7_init_41 rfl (fun _ h => by cases h) rfl we_53 (by decide +kernel) (by decide +kernel) (Nat.le_of_ble_eq_true rfl) (Nat.le_of_ble_eq_true rfl) (Nat.le_of_ble_eq_true rfl) rfl ?_
  refine bs_putF (f := 6) (r := (RX7, TX7, 8)) (ty := .array .int) C rfl dX7_init_43 (Nat.le_of_ble_eq_true rfl) rfl rfl we_84 (by decide +kernel) rfl rfl (Nat.le_of_ble_eq_true rfl) ?_
  refine bs_ald C 0 dX7_init_46 rfl rfl ?_
  refine bs_bipush (x := nI 25) C dX7_init_47 (by decide +kernel) ?_
  refine bs_newa (N := 25) (ty := .int) (v0 := .int 0) (cA := w.2 11) C 0 dX7_init_49 rfl (fun _ h => by cases h) rfl we_53 (by decide +kernel) (by decide +kernel) (Nat.le_of_ble_eq_true rfl) (Nat.le_of_ble_eq_true rfl) (Nat.le_of_ble_eq_true rfl) rfl ?_
  refine bs_putF (f := 7) (r := (RX7, TX7, 8)) (ty := .array .int) C rfl dX7_init_51 (Nat.le_of_ble_eq_true rfl) rfl rfl we_87 (by decide +kernel) rfl rfl (Nat.le_of_ble_eq_true rfl) ?_
  exact bs_ret C hr dX7_init_54
theorem dX8_init_0 : decode cX8_init 0 = .ok (.aload_n 0, 1) := by decide +kernel
theorem dX8_init_1 : decode cX8_init 1 = .ok (.invokespecial 3, 3) := by decide +kernel
theorem dX8_init_4 : decode cX8_init 4 = .ok (.aload_n 0, 1) := by decide +kernel
theorem dX8_init_5 : decode cX8_init 5 = .ok (.bipush 120, 2) := by decide +kernel
theorem dX8_init_7 : decode cX8_init 7 = .ok (.newarray .char, 2) := by decide +kernel
theorem dX8_init_9 : decode cX8_init 9 = .ok (.putfield 9, 3) := by decide +kernel
theorem dX8_init_12 : decode cX8_init 12 = .ok (.aload_n 0, 1) := by decide +kernel
theorem dX8_init_13 : decode cX8_init 13 = .ok (.iconst 5, 1) := by decide +kernel
theorem dX8_init_14 : decode cX8_init 14 = .ok (.newarray .int, 2) := by decide +kernel
theorem dX8_init_16 : decode cX8_init 16 = .ok (.putfield 15, 3) := by decide +kernel
theorem dX8_init_19 : decode cX8_init 19 = .ok (.return_, 1) := by decide +kernel
def f0X8 : List Value := [.null, .int 0, .int 0, .int 0, .null]
theorem f0X8_ok : ∀ j, j < 5 → defaultValue (tyX8 j) = vp_V f0X8 j := by
  intro j hj
  rcases (by omega : j = 0 ∨ j = 1 ∨ j = 2 ∨ j = 3 ∨ j = 4) with rfl | rfl | rfl | rfl | rfl <;> rfl
def f1X8 : bW → Nat → List Value := fun _ a => [.ref a, .int 0, .int 0, .int 0, .ref (a + 1)]
def c1X8 : bW → Nat → List bC := fun w a => [.inr (w.2 12, 120, fun _ => .int 0), .inr (w.2 11, 5, fun _ => .int 0)]
set_option maxRecDepth 20000 in
set_option maxHeartbeats 4000000 in
theorem mk_X8 {l : Launch} : bCon l yX8_init (Cond.code yX8_init cX8_init 1 none) 1 2 125 8 f0X8 f1X8 c1X8 := by
  refine bEnter (by decide) rfl (by decide) (by decide) ?_
  intro p e R s m args below meth c w h0 C hr
  refine bs_ald C 0 dX8_init_0 rfl rfl ?_
  refine bs_init C dX8_init_1 we_32 we_25 we_26 ?_
  refine bs_ald C 0 dX8_init_4 rfl rfl ?_
  refine bs_bipush (x := nI 120) C dX8_init_5 (by decide +kernel) ?_
  refine bs_newa (N := 120) (ty := .char) (v0 := .int 0) (cA := w.2 12) C 1 dX8_init_7 rfl (fun _ h => by cases h) rfl we_52 (by decide +kernel) (by decide +kernel) (Nat.le_of_ble_eq_true rfl) (Nat.le_of_ble_eq_true rfl) (Nat.le_of_ble_eq_true rfl) rfl ?_
  refine bs_putF (f := 0) (r := (RX8, TX8, 5)) (ty := .array .char) C rfl dX8_init_9 (Nat.le_of_ble_eq_true rfl) rfl rfl we_33 (by decide +kernel) rfl rfl (Nat.le_of_ble_eq_true rfl) ?_
  refine bs_ald C 0 dX8_init_12 rfl rfl ?_
  refine bs_iconst (x := nI 5) C dX8_init_13 (by decide +kernel) ?_
  refine bs_newa (N := 5) (ty := .int) (v0 := .int 0) (cA := w.2 11) C 0 dX8_init_14 rfl (fun _ h => by cases h) rfl we_53 (by decide +kernel) (by decide +kernel) (Nat.le_of_ble_eq_true rfl) (Nat.le_of_ble_eq_true rfl) (Nat.le_of_ble_eq_true rfl) rfl ?_
  refine bs_putF (f := 4) (r := (RX8, TX8, 5)) (ty := .array .int) C rfl dX8_init_16 (Nat.le_of_ble_eq_true rfl) rfl rfl we_39 (by decide +kernel) rfl rfl (Nat.le_of_ble_eq_true rfl) ?_
  exact bs_ret C hr dX8_init_19
theorem dX3_init_0 : decode cX3_init 0 = .ok (.aload_n 0, 1) := by decide +kernel
theorem dX3_init_1 : decode cX3_init 1 = .ok (.invokespecial 3, 3) := by decide +kernel
theorem dX3_init_4 : decode cX3_init 4 = .ok (.aload_n 0, 1) := by decide +kernel
theorem dX3_init_5 : decode cX3_init 5 = .ok (.new 9, 3) := by decide +kernel
theorem dX3_init_8 : decode cX3_init 8 = .ok (.dup, 1) := by decide +kernel
theorem dX3_init_9 : decode cX3_init 9 = .ok (.invokespecial 11, 3) := by decide +kernel
theorem dX3_init_12 : decode cX3_init 12 = .ok (.putfield 12, 3) := by decide +kernel
theorem dX3_init_15 : decode cX3_init 15 = .ok (.aload_n 0, 1) := by decide +kernel
theorem dX3_init_16 : decode cX3_init 16 = .ok (.new 18, 3) := by decide +kernel
theorem dX3_init_19 : decode cX3_init 19 = .ok (.dup, 1) := by decide +kernel
theorem dX3_init_20 : decode cX3_init 20 = .ok (.invokespecial 20, 3) := by decide +kernel
theorem dX3_init_23 : decode cX3_init 23 = .ok (.putfield 21, 3) := by decide +kernel
theorem dX3_init_26 : decode cX3_init 26 = .ok (.aload_n 0, 1) := by decide +kernel
theorem dX3_init_27 : decode cX3_init 27 = .ok (.new 25, 3) := by decide +kernel
theorem dX3_init_30 : decode cX3_init 30 = .ok (.dup, 1) := by decide +kernel
theorem dX3_init_31 : decode cX3_init 31 = .ok (.invokespecial 27, 3) := by decide +kernel
theorem dX3_init_34 : decode cX3_init 34 = .ok (.putfield 28, 3) := by decide +kernel
theorem dX3_init_37 : decode cX3_init 37 = .ok (.aload_n 0, 1) := by decide +kernel
theorem dX3_init_38 : decode cX3_init 38 = .ok (.new 32, 3) := by decide +kernel
theorem dX3_init_41 : decode cX3_init 41 = .ok (.dup, 1) := by decide +kernel
theorem dX3_init_42 : decode cX3_init 42 = .ok (.invokespecial 34, 3) := by decide +kernel
theorem dX3_init_45 : decode cX3_init 45 = .ok (.putfield 35, 3) := by decide +kernel
theorem dX3_init_48 : decode cX3_init 48 = .ok (.aload_n 0, 1) := by decide +kernel
theorem dX3_init_49 : decode cX3_init 49 = .ok (.new 39, 3) := by decide +kernel
theorem dX3_init_52 : decode cX3_init 52 = .ok (.dup, 1) := by decide +kernel
theorem dX3_init_53 : decode cX3_init 53 = .ok (.invokespecial 41, 3) := by decide +kernel
theorem dX3_init_56 : decode cX3_init 56 = .ok (.putfield 42, 3) := by decide +kernel
theorem dX3_init_59 : decode cX3_init 59 = .ok (.aload_n 0, 1) := by decide +kernel
theorem dX3_init_60 : decode cX3_init 60 = .ok (.iconst 4, 1) := by decide +kernel
theorem dX3_init_61 : decode cX3_init 61 = .ok (.newarray .int, 2) := by decide +kernel
theorem dX3_init_63 : decode cX3_init 63 = .ok (.putfield 46, 3) := by decide +kernel
theorem dX3_init_66 : decode cX3_init 66 = .ok (.aload_n 0, 1) := by decide +kernel
theorem dX3_init_67 : decode cX3_init 67 = .ok (.iconst 5, 1) := by decide +kernel
theorem dX3_init_68 : decode cX3_init 68 = .ok (.newarray .int, 2) := by decide +kernel
theorem dX3_init_70 : decode cX3_init 70 = .ok (.dup, 1) := by decide +kernel
theorem dX3_init_71 : decode cX3_init 71 = .ok (.iconst 0, 1) := by decide +kernel
theorem dX3_init_72 : decode cX3_init 72 = .ok (.iconst 4, 1) := by decide +kernel
theorem dX3_init_73 : decode cX3_init 73 = .ok (.iastore, 1) := by decide +kernel
theorem dX3_init_74 : decode cX3_init 74 = .ok (.dup, 1) := by decide +kernel
theorem dX3_init_75 : decode cX3_init 75 = .ok (.iconst 1, 1) := by decide +kernel
theorem dX3_init_76 : decode cX3_init 76 = .ok (.iconst 3, 1) := by decide +kernel
theorem dX3_init_77 : decode cX3_init 77 = .ok (.iastore, 1) := by decide +kernel
theorem dX3_init_78 : decode cX3_init 78 = .ok (.dup, 1) := by decide +kernel
theorem dX3_init_79 : decode cX3_init 79 = .ok (.iconst 2, 1) := by decide +kernel
theorem dX3_init_80 : decode cX3_init 80 = .ok (.iconst 2, 1) := by decide +kernel
theorem dX3_init_81 : decode cX3_init 81 = .ok (.iastore, 1) := by decide +kernel
theorem dX3_init_82 : decode cX3_init 82 = .ok (.dup, 1) := by decide +kernel
theorem dX3_init_83 : decode cX3_init 83 = .ok (.iconst 3, 1) := by decide +kernel
theorem dX3_init_84 : decode cX3_init 84 = .ok (.bipush 20, 2) := by decide +kernel
theorem dX3_init_86 : decode cX3_init 86 = .ok (.iastore, 1) := by decide +kernel
theorem dX3_init_87 : decode cX3_init 87 = .ok (.dup, 1) := by decide +kernel
theorem dX3_init_88 : decode cX3_init 88 = .ok (.iconst 4, 1) := by decide +kernel
theorem dX3_init_89 : decode cX3_init 89 = .ok (.iconst 5, 1) := by decide +kernel
theorem dX3_init_90 : decode cX3_init 90 = .ok (.iastore, 1) := by decide +kernel
theorem dX3_init_91 : decode cX3_init 91 = .ok (.putfield 50, 3) := by decide +kernel
theorem dX3_init_94 : decode cX3_init 94 = .ok (.return_, 1) := by decide +kernel
def f0X3 : List Value := [.null, .null, .null, .null, .null, .null, .null, .int 0, .int 0, .int 0, .int 0, .int 0, .int 0]
theorem f0X3_ok : ∀ j, j < 13 → defaultValue (tyX3 j) = vp_V f0X3 j := by
  intro j hj
  rcases (by omega : j = 0 ∨ j = 1 ∨ j = 2 ∨ j = 3 ∨ j = 4 ∨ j = 5 ∨ j = 6 ∨ j = 7 ∨ j = 8 ∨ j = 9 ∨ j = 10 ∨ j = 11 ∨ j = 12) with rfl | rfl | rfl | rfl | rfl | rfl | rfl | rfl | rfl | rfl | rfl | rfl | rfl <;> rfl
def f1X3 : bW → Nat → List Value := fun _ a => [.ref a, .ref (a + 8), .ref (a + 13), .ref (a + 18), .ref (a + 22), .ref (a + 26), .ref (a + 27), .int 0, .int 0, .int 0, .int 0, .int 0, .int 0]
def c1X3 : bW → Nat → List bC := fun w a => [.inl (7, f1X7 w (a + 1))] ++ c1X7 w (a + 1) ++ [.inl (0, f1X0 w (a + 9))] ++ c1X0 w (a + 9) ++ [.inl (4, f1X4 w (a + 14))] ++ c1X4 w (a + 14) ++ [.inl (5, f1X5 w (a + 19))] ++ c1X5 w (a + 19) ++ [.inl (1, f1X1 w (a + 23))] ++ c1X1 w (a + 23) ++ [.inr (w.2 11, 4, fun _ => .int 0), .inr (w.2 11, 5, fun q => if q = 4 then .int (nI 5) else if q = 3 then .int (nI 20) else if q = 2 then .int (nI 2) else if q = 1 then .int (nI 3) else if q = 0 then .int (nI 4) else .int 0)]
set_option maxRecDepth 20000 in
set_option maxHeartbeats 4000000 in
theorem mk_X3 {l : Launch} : bCon l yX3_init (Cond.code yX3_init cX3_init 1 none) 2 28 633 3 f0X3 f1X3 c1X3 := by
  refine bEnter (by decide) rfl (by decide) (by decide) ?_
  intro p e R s m args below meth c w h0 C hr
  refine bs_ald C 0 dX3_init_0 rfl rfl ?_
  refine bs_init C dX3_init_1 we_59 we_25 we_26 ?_
  refine bs_ald C 0 dX3_init_4 rfl rfl ?_
  refine bs_new (fs0 := f0X7) (r := (RX7, TX7, 8)) C (ci' := 7) rfl dX3_init_5 tyX7 tyX7_ok we_60 we_61 we_4 (fun j hj => f0X7_ok j hj) (Nat.le_of_ble_eq_true rfl) (Nat.le_of_ble_eq_true rfl) ?_
  refine bs_dup C dX3_init_8 rfl ?_
  refine bs_callN (ci' := 7) (fs0 := f0X7) (cs0 := _) (st := _) C mk_X7 ⟨by decide, by decide, we_64, we_4, by decide +kernel, rfl, we_63⟩ wf_62 dX3_init_9 (Nat.le_of_ble_eq_true rfl) (Nat.le_of_ble_eq_true rfl) (Nat.le_of_ble_eq_true rfl) ?_
  refine bs_putF (f := 0) (r := (RX3, TX3, 13)) (ty := .object "SondeStations$Stations") C rfl dX3_init_12 (Nat.le_of_ble_eq_true rfl) rfl rfl we_203 (by decide +kernel) rfl rfl (Nat.le_of_ble_eq_true rfl) ?_
  refine bs_ald C 0 dX3_init_15 rfl rfl ?_
  refine bs_new (fs0 := f0X0) (r := (RX0, TX0, 5)) C (ci' := 0) rfl dX3_init_16 tyX0 tyX0_ok we_105 we_106 we_5 (fun j hj => f0X0_ok j hj) (Nat.le_of_ble_eq_true rfl) (Nat.le_of_ble_eq_true rfl) ?_
  refine bs_dup C dX3_init_19 rfl ?_
  refine bs_callN (ci' := 0) (fs0 := f0X0) (cs0 := _) (st := _) C mk_X0 ⟨by decide, by decide, we_109, we_5, by decide +kernel, rfl, we_108⟩ wf_107 dX3_init_20 (Nat.le_of_ble_eq_true rfl) (Nat.le_of_ble_eq_true rfl) (Nat.le_of_ble_eq_true rfl) ?_
  refine bs_putF (f := 1) (r := (RX3, TX3, 13)) (ty := .object "SondeStations$Finders") C rfl dX3_init_23 (Nat.le_of_ble_eq_true rfl) rfl rfl we_205 (by decide +kernel) rfl rfl (Nat.le_of_ble_eq_true rfl) ?_
  refine bs_ald C 0 dX3_init_26 rfl rfl ?_
  refine bs_new (fs0 := f0X4) (r := (RX4, TX4, 5)) C (ci' := 4) rfl dX3_init_27 tyX4 tyX4_ok we_136 we_137 we_6 (fun j hj => f0X4_ok j hj) (Nat.le_of_ble_eq_true rfl) (Nat.le_of_ble_eq_true rfl) ?_
  refine bs_dup C dX3_init_30 rfl ?_
  refine bs_callN (ci' := 4) (fs0 := f0X4) (cs0 := _) (st := _) C mk_X4 ⟨by decide, by decide, we_140, we_6, by decide +kernel, rfl, we_139⟩ wf_138 dX3_init_31 (Nat.le_of_ble_eq_true rfl) (Nat.le_of_ble_eq_true rfl) (Nat.le_of_ble_eq_true rfl) ?_
  refine bs_putF (f := 2) (r := (RX3, TX3, 13)) (ty := .object "SondeStations$Orders") C rfl dX3_init_34 (Nat.le_of_ble_eq_true rfl) rfl rfl we_207 (by decide +kernel) rfl rfl (Nat.le_of_ble_eq_true rfl) ?_
  refine bs_ald C 0 dX3_init_37 rfl rfl ?_
  refine bs_new (fs0 := f0X5) (r := (RX5, TX5, 4)) C (ci' := 5) rfl dX3_init_38 tyX5 tyX5_ok we_160 we_161 we_7 (fun j hj => f0X5_ok j hj) (Nat.le_of_ble_eq_true rfl) (Nat.le_of_ble_eq_true rfl) ?_
  refine bs_dup C dX3_init_41 rfl ?_
  refine bs_callN (ci' := 5) (fs0 := f0X5) (cs0 := _) (st := _) C mk_X5 ⟨by decide, by decide, we_164, we_7, by decide +kernel, rfl, we_163⟩ wf_162 dX3_init_42 (Nat.le_of_ble_eq_true rfl) (Nat.le_of_ble_eq_true rfl) (Nat.le_of_ble_eq_true rfl) ?_
  refine bs_putF (f := 3) (r := (RX3, TX3, 13)) (ty := .object "SondeStations$Returns") C rfl dX3_init_45 (Nat.le_of_ble_eq_true rfl) rfl rfl we_209 (by decide +kernel) rfl rfl (Nat.le_of_ble_eq_true rfl) ?_
  refine bs_ald C 0 dX3_init_48 rfl rfl ?_
  refine bs_new (fs0 := f0X1) (r := (RX1, TX1, 5)) C (ci' := 1) rfl dX3_init_49 tyX1 tyX1_ok we_180 we_181 we_8 (fun j hj => f0X1_ok j hj) (Nat.le_of_ble_eq_true rfl) (Nat.le_of_ble_eq_true rfl) ?_
  refine bs_dup C dX3_init_52 rfl ?_
  refine bs_callN (ci' := 1) (fs0 := f0X1) (cs0 := _) (st := _) C mk_X1 ⟨by decide, by decide, we_184, we_8, by decide +kernel, rfl, we_183⟩ wf_182 dX3_init_53 (Nat.le_of_ble_eq_true rfl) (Nat.le_of_ble_eq_true rfl) (Nat.le_of_ble_eq_true rfl) ?_
  refine bs_putF (f := 4) (r := (RX3, TX3, 13)) (ty := .object "SondeStations$Gaps") C rfl dX3_init_56 (Nat.le_of_ble_eq_true rfl) rfl rfl we_211 (by decide +kernel) rfl rfl (Nat.le_of_ble_eq_true rfl) ?_
  refine bs_ald C 0 dX3_init_59 rfl rfl ?_
  refine bs_iconst (x := nI 4) C dX3_init_60 (by decide +kernel) ?_
  refine bs_newa (N := 4) (ty := .int) (v0 := .int 0) (cA := w.2 11) C 0 dX3_init_61 rfl (fun _ h => by cases h) rfl we_53 (by decide +kernel) (by decide +kernel) (Nat.le_of_ble_eq_true rfl) (Nat.le_of_ble_eq_true rfl) (Nat.le_of_ble_eq_true rfl) rfl ?_
  refine bs_putF (f := 5) (r := (RX3, TX3, 13)) (ty := .array .int) C rfl dX3_init_63 (Nat.le_of_ble_eq_true rfl) rfl rfl we_213 (by decide +kernel) rfl rfl (Nat.le_of_ble_eq_true rfl) ?_
  refine bs_ald C 0 dX3_init_66 rfl rfl ?_
  refine bs_iconst (x := nI 5) C dX3_init_67 (by decide +kernel) ?_
  refine bs_newa (N := 5) (ty := .int) (v0 := .int 0) (cA := w.2 11) C 0 dX3_init_68 rfl (fun _ h => by cases h) rfl we_53 (by decide +kernel) (by decide +kernel) (Nat.le_of_ble_eq_true rfl) (Nat.le_of_ble_eq_true rfl) (Nat.le_of_ble_eq_true rfl) rfl ?_
  refine bs_dup C dX3_init_70 rfl ?_
  refine bs_iconst (x := nI 0) C dX3_init_71 (by decide +kernel) ?_
  refine bs_iconst (x := nI 4) C dX3_init_72 (by decide +kernel) ?_
  refine bs_ias (j := 27) (i := 0) C rfl (by decide) (by decide) dX3_init_73 ?_
  refine bs_dup C dX3_init_74 rfl ?_
  refine bs_iconst (x := nI 1) C dX3_init_75 (by decide +kernel) ?_
  refine bs_iconst (x := nI 3) C dX3_init_76 (by decide +kernel) ?_
  refine bs_ias (j := 27) (i := 1) C rfl (by decide) (by decide) dX3_init_77 ?_
  refine bs_dup C dX3_init_78 rfl ?_
  refine bs_iconst (x := nI 2) C dX3_init_79 (by decide +kernel) ?_
  refine bs_iconst (x := nI 2) C dX3_init_80 (by decide +kernel) ?_
  refine bs_ias (j := 27) (i := 2) C rfl (by decide) (by decide) dX3_init_81 ?_
  refine bs_dup C dX3_init_82 rfl ?_
  refine bs_iconst (x := nI 3) C dX3_init_83 (by decide +kernel) ?_
  refine bs_bipush (x := nI 20) C dX3_init_84 (by decide +kernel) ?_
  refine bs_ias (j := 27) (i := 3) C rfl (by decide) (by decide) dX3_init_86 ?_
  refine bs_dup C dX3_init_87 rfl ?_
  refine bs_iconst (x := nI 4) C dX3_init_88 (by decide +kernel) ?_
  refine bs_iconst (x := nI 5) C dX3_init_89 (by decide +kernel) ?_
  refine bs_ias (j := 27) (i := 4) C rfl (by decide) (by decide) dX3_init_90 ?_
  refine bs_putF (f := 6) (r := (RX3, TX3, 13)) (ty := .array .int) C rfl dX3_init_91 (Nat.le_of_ble_eq_true rfl) rfl rfl we_215 (by decide +kernel) rfl rfl (Nat.le_of_ble_eq_true rfl) ?_
  exact bs_ret C hr dX3_init_94
theorem dX6_init_0 : decode cX6_init 0 = .ok (.aload_n 0, 1) := by decide +kernel
theorem dX6_init_1 : decode cX6_init 1 = .ok (.invokespecial 1, 3) := by decide +kernel
theorem dX6_init_4 : decode cX6_init 4 = .ok (.aload_n 0, 1) := by decide +kernel
theorem dX6_init_5 : decode cX6_init 5 = .ok (.new 7, 3) := by decide +kernel
theorem dX6_init_8 : decode cX6_init 8 = .ok (.dup, 1) := by decide +kernel
theorem dX6_init_9 : decode cX6_init 9 = .ok (.invokespecial 9, 3) := by decide +kernel
theorem dX6_init_12 : decode cX6_init 12 = .ok (.putfield 10, 3) := by decide +kernel
theorem dX6_init_15 : decode cX6_init 15 = .ok (.return_, 1) := by decide +kernel
def f0X6 : List Value := [.null, .int 0]
theorem f0X6_ok : ∀ j, j < 2 → defaultValue (tyX6 j) = vp_V f0X6 j := by
  intro j hj
  rcases (by omega : j = 0 ∨ j = 1) with rfl | rfl <;> rfl
def f1X6 : bW → Nat → List Value := fun _ a => [.ref a, .int 0]
def c1X6 : bW → Nat → List bC := fun w a => [.inl (3, f1X3 w (a + 1))] ++ c1X3 w (a + 1)
set_option maxRecDepth 20000 in
set_option maxHeartbeats 4000000 in
theorem mk_X6 {l : Launch} : bCon l yX6_init (Cond.code yX6_init cX6_init 1 none) 3 29 646 6 f0X6 f1X6 c1X6 := by
  refine bEnter (by decide) rfl (by decide) (by decide) ?_
  intro p e R s m args below meth c w h0 C hr
  refine bs_ald C 0 dX6_init_0 rfl rfl ?_
  refine bs_init C dX6_init_1 we_281 we_25 we_26 ?_
  refine bs_ald C 0 dX6_init_4 rfl rfl ?_
  refine bs_new (fs0 := f0X3) (r := (RX3, TX3, 13)) C (ci' := 3) rfl dX6_init_5 tyX3 tyX3_ok we_282 we_55 we_3 (fun j hj => f0X3_ok j hj) (Nat.le_of_ble_eq_true rfl) (Nat.le_of_ble_eq_true rfl) ?_
  refine bs_dup C dX6_init_8 rfl ?_
  refine bs_callN (ci' := 3) (fs0 := f0X3) (cs0 := _) (st := _) C mk_X3 ⟨by decide, by decide, we_58, we_3, by decide +kernel, rfl, we_57⟩ wf_283 dX6_init_9 (Nat.le_of_ble_eq_true rfl) (Nat.le_of_ble_eq_true rfl) (Nat.le_of_ble_eq_true rfl) ?_
  refine bs_putF (f := 0) (r := (RX6, TX6, 2)) (ty := .object "SondeStations$Net") C rfl dX6_init_12 (Nat.le_of_ble_eq_true rfl) rfl rfl we_284 (by decide +kernel) rfl rfl (Nat.le_of_ble_eq_true rfl) ?_
  exact bs_ret C hr dX6_init_15
