section LRK
variable {p : Program} {l : Launch} {e : Env} {s : State} {m : MethodId} {args : Array Value} {below : List Frame} {meth : Method} {c : Code} {w : ab_W} {Q : State → Prop} {nc ns pc sl : Nat} {xs : Nat → Int32} {L L' st r : List Value} {σ : ab_H}
set_option maxRecDepth 20000 in
set_option maxHeartbeats 4000000 in
theorem lr_k0 (C : lw_Cx p l s m args meth c w sl xs) {i T : Nat} {A : aS} (hRA : RA w σ A) (hRD : RD σ A) (hW : WA T A) (hT0 : 1100 ≤ T) (hT : T < 60000) (hi : i + 6 ≤ sl) (hmc : nc + 1 ≤ 601024 ∧ ns + 6 ≤ 7293034) (kk : ∀ (σ' : ab_H) (A' : aS), RA w σ' A' → RD σ' A' → WA (T + 40) A' → lw_M p l e s m args below meth c w Q (nc + 1) (ns + 6) 2139 (lw_L i .null .null) [] σ') : lw_M p l e s m args below meth c w Q nc ns 180 (lw_L i .null .null) [] σ := by
  have hl : l.stackTraces = false := C.2.2.2.2.2.2.2.2.2.1
  have hI : ab_Inj w := C.2.2.2.2.2.2.2.2.1
  refine lr_case C (i := i) (T := T) (A := A) (f := (c_append (xs (i + 1)))) hRA hRD hW hT (cE_append _) (cM_append _) (As := [.int (xs (i + 1))]) (n := 1) rfl 187 200 dL_law_180 (fun nc ns a b st σ k => lr_sc C (i := i) (j := 1) ⟨dL_law_181, dL_law_182, ⟨1, dL_law_184, by decide⟩, dL_law_185, dL_law_186⟩ rfl rfl (by omega) (k)) dL_law_187 dL_law_188 dL_law_191 dL_law_193 (fun nc ns a b st σ k => lr_sc C (i := i) (j := 1) ⟨dL_law_194, dL_law_195, ⟨1, dL_law_197, by decide⟩, dL_law_198, dL_law_199⟩ rfl rfl (by omega) (k)) dL_law_200 ⟨⟨dL_law_203, dL_law_205, dL_law_206, dL_law_209, dL_law_211⟩, dL_law_216, dL_law_218, dL_law_221, dL_law_222, dL_law_223, dL_law_224, dL_law_226, dL_law_227, dL_law_228, 1906, dL_law_233, by omega⟩
    (dS := 7) (by decide) (by decide) wq_480 wq_0 (by decide +kernel) wq_478 wq_479 (fun σ K h => lw_append hl hI (xs (i + 1)) h)
    (dV := 2) ⟨by decide, by decide, wq_1042, wq_11, by decide +kernel⟩ rfl wq_1039 wq_1040 wq_1041 (fun σ Kn h => cd_X10_append hl hI (xs (i + 1)) h) hmc ?_
  intro σ' g1 g2
  exact kk σ' _ g1 g2 (cK_append _ T A hW hT0 hT)
set_option maxRecDepth 20000 in
set_option maxHeartbeats 4000000 in
theorem lr_k1 (C : lw_Cx p l s m args meth c w sl xs) {i T : Nat} {A : aS} (hRA : RA w σ A) (hRD : RD σ A) (hW : WA T A) (hT0 : 1100 ≤ T) (hT : T < 60000) (hi : i + 6 ≤ sl) (hmc : nc + 1 ≤ 601024 ∧ ns + 6 ≤ 7293034) (kk : ∀ (σ' : ab_H) (A' : aS), RA w σ' A' → RD σ' A' → WA (T + 40) A' → lw_M p l e s m args below meth c w Q (nc + 1) (ns + 6) 2139 (lw_L i .null .null) [] σ') : lw_M p l e s m args below meth c w Q nc ns 236 (lw_L i .null .null) [] σ := by
  have hl : l.stackTraces = false := C.2.2.2.2.2.2.2.2.2.1
  have hI : ab_Inj w := C.2.2.2.2.2.2.2.2.1
  have hwA : wA w := C.2.2.2.2.2.2.2.2.2.2.2.2.2.2.2.1
  have hwD : wD w := C.2.2.2.2.2.2.2.2.2.2.2.2.2.2.2.2.1
  refine lr_aload C dL_law_236 rfl rfl ?_
  refine lr_callV C (ci := 9) (row := (RX9, TX9, 7)) (As := []) (a := 0) (r := []) (mcy := 0) (n := 0) (d' := 1) rfl rfl ⟨by decide, by decide, wq_318, wq_1, by decide +kernel⟩ wq_315 wq_316 wq_317 dL_law_237 rfl rfl hwA.1 ⟨by omega, by omega⟩ (ok_X9_clearText hl w σ [.ref 0] (fun v σ' => v = some (.int (c_clearText A).2.1) ∧ RA w σ' (c_clearText A).2.2 ∧ FrA σ σ') hI ⟨rfl, hwA, A, hRA, fun σ' g1 g2 => ⟨rfl, g1, g2⟩⟩) ?_
  rintro v σ1 ⟨rfl, hA1, hF1⟩
  refine lr_aload C dL_law_240 rfl rfl ?_
  refine lr_callV C (ci := 10) (row := (RX10, TX10, 15)) (As := []) (a := 8) (r := [.int (c_clearText A).2.1]) (mcy := 0) (n := 0) (d' := 1) rfl rfl ⟨by decide, by decide, wq_1054, wq_11, by decide +kernel⟩ wq_1051 wq_1052 wq_1053 dL_law_241 rfl rfl hwD.1 ⟨by omega, by omega⟩ (cd_X10_clearText hl hI (Kn := fun v σ' => v = some (.int (c_clearText A).2.1) ∧ RD σ' (c_clearText A).2.2 ∧ FrB σ1 σ') ⟨hwD, A, T, hRD.frA (fun v h1 h2 _ => hF1 v h1 h2), hW, hT, fun σ' v g1 g2 g3 g4 => ⟨by rw [g4 rfl], g1, g2⟩⟩) ?_
  rintro v σ2 ⟨rfl, hD2, hF2⟩
  exact lr_wide (by omega) (by omega) (lr_cmp C dL_law_244 (by omega) (kk σ2 _ (hA1.frB hF2) hD2 (cK_clearText T A hW hT0 hT)))
set_option maxRecDepth 20000 in
set_option maxHeartbeats 4000000 in
theorem lr_k2 (C : lw_Cx p l s m args meth c w sl xs) {i T : Nat} {A : aS} (hRA : RA w σ A) (hRD : RD σ A) (hW : WA T A) (hT0 : 1100 ≤ T) (hT : T < 60000) (hi : i + 6 ≤ sl) (hmc : nc + 1 ≤ 601024 ∧ ns + 6 ≤ 7293034) (kk : ∀ (σ' : ab_H) (A' : aS), RA w σ' A' → RD σ' A' → WA (T + 40) A' → lw_M p l e s m args below meth c w Q (nc + 1) (ns + 6) 2139 (lw_L i .null .null) [] σ') : lw_M p l e s m args below meth c w Q nc ns 249 (lw_L i .null .null) [] σ := by
  have hl : l.stackTraces = false := C.2.2.2.2.2.2.2.2.2.1
  have hI : ab_Inj w := C.2.2.2.2.2.2.2.2.1
  have hwA : wA w := C.2.2.2.2.2.2.2.2.2.2.2.2.2.2.2.1
  have hwD : wD w := C.2.2.2.2.2.2.2.2.2.2.2.2.2.2.2.2.1
  refine lr_aload C dL_law_249 rfl rfl ?_
  refine lr_callV C (ci := 9) (row := (RX9, TX9, 7)) (As := []) (a := 0) (r := []) (mcy := 0) (n := 0) (d' := 5) rfl rfl ⟨by decide, by decide, wq_322, wq_1, by decide +kernel⟩ wq_319 wq_320 wq_321 dL_law_250 rfl rfl hwA.1 ⟨by omega, by omega⟩ (ok_X9_errorPosition hl w σ [.ref 0] (fun v σ' => v = some (.int (c_errorPosition A).2.1) ∧ RA w σ' (c_errorPosition A).2.2 ∧ FrA σ σ') hI ⟨rfl, hwA, A, hRA, fun σ' g1 g2 => ⟨rfl, g1, g2⟩⟩) ?_
  rintro v σ1 ⟨rfl, hA1, hF1⟩
  refine lr_aload C dL_law_253 rfl rfl ?_
  refine lr_callV C (ci := 10) (row := (RX10, TX10, 15)) (As := []) (a := 8) (r := [.int (c_errorPosition A).2.1]) (mcy := 0) (n := 0) (d' := 9) rfl rfl ⟨by decide, by decide, wq_1058, wq_11, by decide +kernel⟩ wq_1055 wq_1056 wq_1057 dL_law_254 rfl rfl hwD.1 ⟨by omega, by omega⟩ (cd_X10_errorPosition hl hI (Kn := fun v σ' => v = some (.int (c_errorPosition A).2.1) ∧ RD σ' (c_errorPosition A).2.2 ∧ FrB σ1 σ') ⟨hwD, A, T, hRD.frA (fun v h1 h2 _ => hF1 v h1 h2), hW, hT, fun σ' v g1 g2 g3 g4 => ⟨by rw [g4 rfl], g1, g2⟩⟩) ?_
  rintro v σ2 ⟨rfl, hD2, hF2⟩
  exact lr_wide (by omega) (by omega) (lr_cmp C dL_law_257 (by omega) (kk σ2 _ (hA1.frB hF2) hD2 (cK_errorPosition T A hW hT0 hT)))
set_option maxRecDepth 20000 in
set_option maxHeartbeats 4000000 in
theorem lr_k3 (C : lw_Cx p l s m args meth c w sl xs) {i T : Nat} {A : aS} (hRA : RA w σ A) (hRD : RD σ A) (hW : WA T A) (hT0 : 1100 ≤ T) (hT : T < 60000) (hi : i + 6 ≤ sl) (hmc : nc + 1 ≤ 601024 ∧ ns + 6 ≤ 7293034) (kk : ∀ (σ' : ab_H) (A' : aS), RA w σ' A' → RD σ' A' → WA (T + 40) A' → lw_M p l e s m args below meth c w Q (nc + 1) (ns + 6) 2139 (lw_L i .null .null) [] σ') : lw_M p l e s m args below meth c w Q nc ns 262 (lw_L i .null .null) [] σ := by
  have hl : l.stackTraces = false := C.2.2.2.2.2.2.2.2.2.1
  have hI : ab_Inj w := C.2.2.2.2.2.2.2.2.1
  refine lr_case C (i := i) (T := T) (A := A) (f := (c_load)) hRA hRD hW hT (cE_load) (cM_load) (As := []) (n := 0) rfl 263 270 dL_law_262 (fun nc ns a b st σ k => k) dL_law_263 dL_law_264 dL_law_267 dL_law_269 (fun nc ns a b st σ k => k) dL_law_270 ⟨⟨dL_law_273, dL_law_275, dL_law_276, dL_law_279, dL_law_281⟩, dL_law_286, dL_law_288, dL_law_291, dL_law_292, dL_law_293, dL_law_294, dL_law_296, dL_law_297, dL_law_298, 1836, dL_law_303, by omega⟩
    (dS := 8) (by decide) (by decide) wq_578 wq_0 (by decide +kernel) wq_576 wq_577 (fun σ K h => lw_load hl hI h)
    (dV := 9) ⟨by decide, by decide, wq_1183, wq_11, by decide +kernel⟩ rfl wq_1180 wq_1181 wq_1182 (fun σ Kn h => cd_X10_load hl hI h) hmc ?_
  intro σ' g1 g2
  exact kk σ' _ g1 g2 (cK_load T A hW hT0 hT)
set_option maxRecDepth 20000 in
set_option maxHeartbeats 4000000 in
theorem lr_k4 (C : lw_Cx p l s m args meth c w sl xs) {i T : Nat} {A : aS} (hRA : RA w σ A) (hRD : RD σ A) (hW : WA T A) (hT0 : 1100 ≤ T) (hT : T < 60000) (hi : i + 6 ≤ sl) (hmc : nc + 1 ≤ 601024 ∧ ns + 6 ≤ 7293034) (kk : ∀ (σ' : ab_H) (A' : aS), RA w σ' A' → RD σ' A' → WA (T + 40) A' → lw_M p l e s m args below meth c w Q (nc + 1) (ns + 6) 2139 (lw_L i .null .null) [] σ') : lw_M p l e s m args below meth c w Q nc ns 306 (lw_L i .null .null) [] σ := by
  have hl : l.stackTraces = false := C.2.2.2.2.2.2.2.2.2.1
  have hI : ab_Inj w := C.2.2.2.2.2.2.2.2.1
  refine lr_case C (i := i) (T := T) (A := A) (f := (c_about (xs (i + 1)))) hRA hRD hW hT (cE_about _) (cM_about _) (As := [.int (xs (i + 1))]) (n := 1) rfl 313 326 dL_law_306 (fun nc ns a b st σ k => lr_sc C (i := i) (j := 1) ⟨dL_law_307, dL_law_308, ⟨1, dL_law_310, by decide⟩, dL_law_311, dL_law_312⟩ rfl rfl (by omega) (k)) dL_law_313 dL_law_314 dL_law_317 dL_law_319 (fun nc ns a b st σ k => lr_sc C (i := i) (j := 1) ⟨dL_law_320, dL_law_321, ⟨1, dL_law_323, by decide⟩, dL_law_324, dL_law_325⟩ rfl rfl (by omega) (k)) dL_law_326 ⟨⟨dL_law_329, dL_law_331, dL_law_332, dL_law_335, dL_law_337⟩, dL_law_342, dL_law_344, dL_law_347, dL_law_348, dL_law_349, dL_law_350, dL_law_352, dL_law_353, dL_law_354, 1780, dL_law_359, by omega⟩
    (dS := 7) (by decide) (by decide) wq_645 wq_0 (by decide +kernel) wq_643 wq_644 (fun σ K h => lw_about hl hI (xs (i + 1)) h)
    (dV := 4) ⟨by decide, by decide, wq_1187, wq_11, by decide +kernel⟩ rfl wq_1184 wq_1185 wq_1186 (fun σ Kn h => cd_X10_about hl hI (xs (i + 1)) h) hmc ?_
  intro σ' g1 g2
  exact kk σ' _ g1 g2 (cK_about _ T A hW hT0 hT)
set_option maxRecDepth 20000 in
set_option maxHeartbeats 4000000 in
theorem lr_k5 (C : lw_Cx p l s m args meth c w sl xs) {i T : Nat} {A : aS} (hRA : RA w σ A) (hRD : RD σ A) (hW : WA T A) (hT0 : 1100 ≤ T) (hT : T < 60000) (hi : i + 6 ≤ sl) (hmc : nc + 1 ≤ 601024 ∧ ns + 6 ≤ 7293034) (kk : ∀ (σ' : ab_H) (A' : aS), RA w σ' A' → RD σ' A' → WA (T + 40) A' → lw_M p l e s m args below meth c w Q (nc + 1) (ns + 6) 2139 (lw_L i .null .null) [] σ') : lw_M p l e s m args below meth c w Q nc ns 362 (lw_L i .null .null) [] σ := by
  have hl : l.stackTraces = false := C.2.2.2.2.2.2.2.2.2.1
  have hI : ab_Inj w := C.2.2.2.2.2.2.2.2.1
  refine lr_case C (i := i) (T := T) (A := A) (f := (c_station (xs (i + 1)) (xs (i + 2)))) hRA hRD hW hT (cE_station _ _) (cM_station _ _) (As := [.int (xs (i + 1)), .int (xs (i + 2))]) (n := 2) rfl 375 394 dL_law_362 (fun nc ns a b st σ k => lr_sc C (i := i) (j := 1) ⟨dL_law_363, dL_law_364, ⟨1, dL_law_366, by decide⟩, dL_law_367, dL_law_368⟩ rfl rfl (by omega) (lr_sc C (i := i) (j := 2) ⟨dL_law_369, dL_law_370, ⟨2, dL_law_372, by decide⟩, dL_law_373, dL_law_374⟩ rfl rfl (by omega) (k))) dL_law_375 dL_law_376 dL_law_379 dL_law_381 (fun nc ns a b st σ k => lr_sc C (i := i) (j := 1) ⟨dL_law_382, dL_law_383, ⟨1, dL_law_385, by decide⟩, dL_law_386, dL_law_387⟩ rfl rfl (by omega) (lr_sc C (i := i) (j := 2) ⟨dL_law_388, dL_law_389, ⟨2, dL_law_391, by decide⟩, dL_law_392, dL_law_393⟩ rfl rfl (by omega) (k))) dL_law_394 ⟨⟨dL_law_397, dL_law_399, dL_law_400, dL_law_403, dL_law_405⟩, dL_law_410, dL_law_412, dL_law_415, dL_law_416, dL_law_417, dL_law_418, dL_law_420, dL_law_421, dL_law_422, 1712, dL_law_427, by omega⟩
    (dS := 8) (by decide) (by decide) wq_661 wq_0 (by decide +kernel) wq_659 wq_660 (fun σ K h => lw_station hl hI (xs (i + 1)) (xs (i + 2)) h)
    (dV := 5) ⟨by decide, by decide, wq_1198, wq_11, by decide +kernel⟩ rfl wq_1195 wq_1196 wq_1197 (fun σ Kn h => cd_X10_station hl hI (xs (i + 1)) (xs (i + 2)) h) hmc ?_
  intro σ' g1 g2
  exact kk σ' _ g1 g2 (cK_station _ _ T A hW hT0 hT)
set_option maxRecDepth 20000 in
set_option maxHeartbeats 4000000 in
theorem lr_k6 (C : lw_Cx p l s m args meth c w sl xs) {i T : Nat} {A : aS} (hRA : RA w σ A) (hRD : RD σ A) (hW : WA T A) (hT0 : 1100 ≤ T) (hT : T < 60000) (hi : i + 6 ≤ sl) (hmc : nc + 1 ≤ 601024 ∧ ns + 6 ≤ 7293034) (kk : ∀ (σ' : ab_H) (A' : aS), RA w σ' A' → RD σ' A' → WA (T + 40) A' → lw_M p l e s m args below meth c w Q (nc + 1) (ns + 6) 2139 (lw_L i .null .null) [] σ') : lw_M p l e s m args below meth c w Q nc ns 430 (lw_L i .null .null) [] σ := by
  have hl : l.stackTraces = false := C.2.2.2.2.2.2.2.2.2.1
  have hI : ab_Inj w := C.2.2.2.2.2.2.2.2.1
  refine lr_case C (i := i) (T := T) (A := A) (f := (c_stock (xs (i + 1)) (xs (i + 2)))) hRA hRD hW hT (cE_stock _ _) (cM_stock _ _) (As := [.int (xs (i + 1)), .int (xs (i + 2))]) (n := 2) rfl 443 462 dL_law_430 (fun nc ns a b st σ k => lr_sc C (i := i) (j := 1) ⟨dL_law_431, dL_law_432, ⟨1, dL_law_434, by decide⟩, dL_law_435, dL_law_436⟩ rfl rfl (by omega) (lr_sc C (i := i) (j := 2) ⟨dL_law_437, dL_law_438, ⟨2, dL_law_440, by decide⟩, dL_law_441, dL_law_442⟩ rfl rfl (by omega) (k))) dL_law_443 dL_law_444 dL_law_447 dL_law_449 (fun nc ns a b st σ k => lr_sc C (i := i) (j := 1) ⟨dL_law_450, dL_law_451, ⟨1, dL_law_453, by decide⟩, dL_law_454, dL_law_455⟩ rfl rfl (by omega) (lr_sc C (i := i) (j := 2) ⟨dL_law_456, dL_law_457, ⟨2, dL_law_459, by decide⟩, dL_law_460, dL_law_461⟩ rfl rfl (by omega) (k))) dL_law_462 ⟨⟨dL_law_465, dL_law_467, dL_law_468, dL_law_471, dL_law_473⟩, dL_law_478, dL_law_480, dL_law_483, dL_law_484, dL_law_485, dL_law_486, dL_law_488, dL_law_489, dL_law_490, 1644, dL_law_495, by omega⟩
    (dS := 8) (by decide) (by decide) wq_698 wq_0 (by decide +kernel) wq_696 wq_697 (fun σ K h => lw_stock hl hI (xs (i + 1)) (xs (i + 2)) h)
    (dV := 3) ⟨by decide, by decide, wq_1215, wq_11, by decide +kernel⟩ rfl wq_1212 wq_1213 wq_1214 (fun σ Kn h => cd_X10_stock hl hI (xs (i + 1)) (xs (i + 2)) h) hmc ?_
  intro σ' g1 g2
  exact kk σ' _ g1 g2 (cK_stock _ _ T A hW hT0 hT)
set_option maxRecDepth 20000 in
set_option maxHeartbeats 4000000 in
theorem lr_k7 (C : lw_Cx p l s m args meth c w sl xs) {i T : Nat} {A : aS} (hRA : RA w σ A) (hRD : RD σ A) (hW : WA T A) (hT0 : 1100 ≤ T) (hT : T < 60000) (hi : i + 6 ≤ sl) (hmc : nc + 1 ≤ 601024 ∧ ns + 6 ≤ 7293034) (kk : ∀ (σ' : ab_H) (A' : aS), RA w σ' A' → RD σ' A' → WA (T + 40) A' → lw_M p l e s m args below meth c w Q (nc + 1) (ns + 6) 2139 (lw_L i .null .null) [] σ') : lw_M p l e s m args below meth c w Q nc ns 498 (lw_L i .null .null) [] σ := by
  have hl : l.stackTraces = false := C.2.2.2.2.2.2.2.2.2.1
  have hI : ab_Inj w := C.2.2.2.2.2.2.2.2.1
  refine lr_case C (i := i) (T := T) (A := A) (f := (c_finder (xs (i + 1)) (xs (i + 2)))) hRA hRD hW hT (cE_finder _ _) (cM_finder _ _) (As := [.int (xs (i + 1)), .int (xs (i + 2))]) (n := 2) rfl 511 530 dL_law_498 (fun nc ns a b st σ k => lr_sc C (i := i) (j := 1) ⟨dL_law_499, dL_law_500, ⟨1, dL_law_502, by decide⟩, dL_law_503, dL_law_504⟩ rfl rfl (by omega) (lr_sc C (i := i) (j := 2) ⟨dL_law_505, dL_law_506, ⟨2, dL_law_508, by decide⟩, dL_law_509, dL_law_510⟩ rfl rfl (by omega) (k))) dL_law_511 dL_law_512 dL_law_515 dL_law_517 (fun nc ns a b st σ k => lr_sc C (i := i) (j := 1) ⟨dL_law_518, dL_law_519, ⟨1, dL_law_521, by decide⟩, dL_law_522, dL_law_523⟩ rfl rfl (by omega) (lr_sc C (i := i) (j := 2) ⟨dL_law_524, dL_law_525, ⟨2, dL_law_527, by decide⟩, dL_law_528, dL_law_529⟩ rfl rfl (by omega) (k))) dL_law_530 ⟨⟨dL_law_533, dL_law_535, dL_law_536, dL_law_539, dL_law_541⟩, dL_law_546, dL_law_548, dL_law_551, dL_law_552, dL_law_553, dL_law_554, dL_law_556, dL_law_557, dL_law_558, 1576, dL_law_563, by omega⟩
    (dS := 7) (by decide) (by decide) wq_713 wq_0 (by decide +kernel) wq_711 wq_712 (fun σ K h => lw_finder hl hI (xs (i + 1)) (xs (i + 2)) h)
    (dV := 3) ⟨by decide, by decide, wq_1220, wq_11, by decide +kernel⟩ rfl wq_1217 wq_1218 wq_1219 (fun σ Kn h => cd_X10_finder hl hI (xs (i + 1)) (xs (i + 2)) h) hmc ?_
  intro σ' g1 g2
  exact kk σ' _ g1 g2 (cK_finder _ _ T A hW hT0 hT)
set_option maxRecDepth 20000 in
set_option maxHeartbeats 4000000 in
theorem lr_k8 (C : lw_Cx p l s m args meth c w sl xs) {i T : Nat} {A : aS} (hRA : RA w σ A) (hRD : RD σ A) (hW : WA T A) (hT0 : 1100 ≤ T) (hT : T < 60000) (hi : i + 6 ≤ sl) (hmc : nc + 1 ≤ 601024 ∧ ns + 6 ≤ 7293034) (kk : ∀ (σ' : ab_H) (A' : aS), RA w σ' A' → RD σ' A' → WA (T + 40) A' → lw_M p l e s m args below meth c w Q (nc + 1) (ns + 6) 2139 (lw_L i .null .null) [] σ') : lw_M p l e s m args below meth c w Q nc ns 566 (lw_L i .null .null) [] σ := by
  have hl : l.stackTraces = false := C.2.2.2.2.2.2.2.2.2.1
  have hI : ab_Inj w := C.2.2.2.2.2.2.2.2.1
  refine lr_case C (i := i) (T := T) (A := A) (f := (c_back (xs (i + 1)) (xs (i + 2)))) hRA hRD hW hT (cE_back _ _) (cM_back _ _) (As := [.int (xs (i + 1)), .int (xs (i + 2))]) (n := 2) rfl 579 598 dL_law_566 (fun nc ns a b st σ k => lr_sc C (i := i) (j := 1) ⟨dL_law_567, dL_law_568, ⟨1, dL_law_570, by decide⟩, dL_law_571, dL_law_572⟩ rfl rfl (by omega) (lr_sc C (i := i) (j := 2) ⟨dL_law_573, dL_law_574, ⟨2, dL_law_576, by decide⟩, dL_law_577, dL_law_578⟩ rfl rfl (by omega) (k))) dL_law_579 dL_law_580 dL_law_583 dL_law_585 (fun nc ns a b st σ k => lr_sc C (i := i) (j := 1) ⟨dL_law_586, dL_law_587, ⟨1, dL_law_589, by decide⟩, dL_law_590, dL_law_591⟩ rfl rfl (by omega) (lr_sc C (i := i) (j := 2) ⟨dL_law_592, dL_law_593, ⟨2, dL_law_595, by decide⟩, dL_law_596, dL_law_597⟩ rfl rfl (by omega) (k))) dL_law_598 ⟨⟨dL_law_601, dL_law_603, dL_law_604, dL_law_607, dL_law_609⟩, dL_law_614, dL_law_616, dL_law_619, dL_law_620, dL_law_621, dL_law_622, dL_law_624, dL_law_625, dL_law_626, 1508, dL_law_631, by omega⟩
    (dS := 8) (by decide) (by decide) wq_727 wq_0 (by decide +kernel) wq_725 wq_726 (fun σ K h => lw_back hl hI (xs (i + 1)) (xs (i + 2)) h)
    (dV := 2) ⟨by decide, by decide, wq_1224, wq_11, by decide +kernel⟩ rfl wq_1221 wq_1222 wq_1223 (fun σ Kn h => cd_X10_back hl hI (xs (i + 1)) (xs (i + 2)) h) hmc ?_
  intro σ' g1 g2
  exact kk σ' _ g1 g2 (cK_back _ _ T A hW hT0 hT)
set_option maxRecDepth 20000 in
set_option maxHeartbeats 4000000 in
theorem lr_k9 (C : lw_Cx p l s m args meth c w sl xs) {i T : Nat} {A : aS} (hRA : RA w σ A) (hRD : RD σ A) (hW : WA T A) (hT0 : 1100 ≤ T) (hT : T < 60000) (hi : i + 6 ≤ sl) (hmc : nc + 1 ≤ 601024 ∧ ns + 6 ≤ 7293034) (kk : ∀ (σ' : ab_H) (A' : aS), RA w σ' A' → RD σ' A' → WA (T + 40) A' → lw_M p l e s m args below meth c w Q (nc + 1) (ns + 6) 2139 (lw_L i .null .null) [] σ') : lw_M p l e s m args below meth c w Q nc ns 634 (lw_L i .null .null) [] σ := by
  have hl : l.stackTraces = false := C.2.2.2.2.2.2.2.2.2.1
  have hI : ab_Inj w := C.2.2.2.2.2.2.2.2.1
  refine lr_case C (i := i) (T := T) (A := A) (f := (c_gap (xs (i + 1)) (xs (i + 2)))) hRA hRD hW hT (cE_gap _ _) (cM_gap _ _) (As := [.int (xs (i + 1)), .int (xs (i + 2))]) (n := 2) rfl 647 666 dL_law_634 (fun nc ns a b st σ k => lr_sc C (i := i) (j := 1) ⟨dL_law_635, dL_law_636, ⟨1, dL_law_638, by decide⟩, dL_law_639, dL_law_640⟩ rfl rfl (by omega) (lr_sc C (i := i) (j := 2) ⟨dL_law_641, dL_law_642, ⟨2, dL_law_644, by decide⟩, dL_law_645, dL_law_646⟩ rfl rfl (by omega) (k))) dL_law_647 dL_law_648 dL_law_651 dL_law_653 (fun nc ns a b st σ k => lr_sc C (i := i) (j := 1) ⟨dL_law_654, dL_law_655, ⟨1, dL_law_657, by decide⟩, dL_law_658, dL_law_659⟩ rfl rfl (by omega) (lr_sc C (i := i) (j := 2) ⟨dL_law_660, dL_law_661, ⟨2, dL_law_663, by decide⟩, dL_law_664, dL_law_665⟩ rfl rfl (by omega) (k))) dL_law_666 ⟨⟨dL_law_669, dL_law_671, dL_law_672, dL_law_675, dL_law_677⟩, dL_law_682, dL_law_684, dL_law_687, dL_law_688, dL_law_689, dL_law_690, dL_law_692, dL_law_693, dL_law_694, 1440, dL_law_699, by omega⟩
    (dS := 8) (by decide) (by decide) wq_739 wq_0 (by decide +kernel) wq_737 wq_738 (fun σ K h => lw_gap hl hI (xs (i + 1)) (xs (i + 2)) h)
    (dV := 2) ⟨by decide, by decide, wq_1229, wq_11, by decide +kernel⟩ rfl wq_1226 wq_1227 wq_1228 (fun σ Kn h => cd_X10_gap hl hI (xs (i + 1)) (xs (i + 2)) h) hmc ?_
  intro σ' g1 g2
  exact kk σ' _ g1 g2 (cK_gap _ _ T A hW hT0 hT)
set_option maxRecDepth 20000 in
set_option maxHeartbeats 4000000 in
theorem lr_k10 (C : lw_Cx p l s m args meth c w sl xs) {i T : Nat} {A : aS} (hRA : RA w σ A) (hRD : RD σ A) (hW : WA T A) (hT0 : 1100 ≤ T) (hT : T < 60000) (hi : i + 6 ≤ sl) (hmc : nc + 1 ≤ 601024 ∧ ns + 6 ≤ 7293034) (kk : ∀ (σ' : ab_H) (A' : aS), RA w σ' A' → RD σ' A' → WA (T + 40) A' → lw_M p l e s m args below meth c w Q (nc + 1) (ns + 6) 2139 (lw_L i .null .null) [] σ') : lw_M p l e s m args below meth c w Q nc ns 702 (lw_L i .null .null) [] σ := by
  have hl : l.stackTraces = false := C.2.2.2.2.2.2.2.2.2.1
  have hI : ab_Inj w := C.2.2.2.2.2.2.2.2.1
  refine lr_case C (i := i) (T := T) (A := A) (f := (c_windOf (xs (i + 1)))) hRA hRD hW hT (cE_windOf _) (cM_windOf _) (As := [.int (xs (i + 1))]) (n := 1) rfl 709 722 dL_law_702 (fun nc ns a b st σ k => lr_sc C (i := i) (j := 1) ⟨dL_law_703, dL_law_704, ⟨1, dL_law_706, by decide⟩, dL_law_707, dL_law_708⟩ rfl rfl (by omega) (k)) dL_law_709 dL_law_710 dL_law_713 dL_law_715 (fun nc ns a b st σ k => lr_sc C (i := i) (j := 1) ⟨dL_law_716, dL_law_717, ⟨1, dL_law_719, by decide⟩, dL_law_720, dL_law_721⟩ rfl rfl (by omega) (k)) dL_law_722 ⟨⟨dL_law_725, dL_law_727, dL_law_728, dL_law_731, dL_law_733⟩, dL_law_738, dL_law_740, dL_law_743, dL_law_744, dL_law_745, dL_law_746, dL_law_748, dL_law_749, dL_law_750, 1384, dL_law_755, by omega⟩
    (dS := 8) (by decide) (by decide) wq_752 wq_0 (by decide +kernel) wq_750 wq_751 (fun σ K h => lw_windOf hl hI (xs (i + 1)) h)
    (dV := 3) ⟨by decide, by decide, wq_1233, wq_11, by decide +kernel⟩ rfl wq_1230 wq_1231 wq_1232 (fun σ Kn h => cd_X10_windOf hl hI (xs (i + 1)) h) hmc ?_
  intro σ' g1 g2
  exact kk σ' _ g1 g2 (cK_windOf _ T A hW hT0 hT)
set_option maxRecDepth 20000 in
set_option maxHeartbeats 4000000 in
theorem lr_k11 (C : lw_Cx p l s m args meth c w sl xs) {i T : Nat} {A : aS} (hRA : RA w σ A) (hRD : RD σ A) (hW : WA T A) (hT0 : 1100 ≤ T) (hT : T < 60000) (hi : i + 6 ≤ sl) (hmc : nc + 1 ≤ 601024 ∧ ns + 6 ≤ 7293034) (kk : ∀ (σ' : ab_H) (A' : aS), RA w σ' A' → RD σ' A' → WA (T + 40) A' → lw_M p l e s m args below meth c w Q (nc + 1) (ns + 6) 2139 (lw_L i .null .null) [] σ') : lw_M p l e s m args below meth c w Q nc ns 758 (lw_L i .null .null) [] σ := by
  have hl : l.stackTraces = false := C.2.2.2.2.2.2.2.2.2.1
  have hI : ab_Inj w := C.2.2.2.2.2.2.2.2.1
  refine lr_case C (i := i) (T := T) (A := A) (f := (c_setting (xs (i + 1)))) hRA hRD hW hT (cE_setting _) (cM_setting _) (As := [.int (xs (i + 1))]) (n := 1) rfl 765 778 dL_law_758 (fun nc ns a b st σ k => lr_sc C (i := i) (j := 1) ⟨dL_law_759, dL_law_760, ⟨1, dL_law_762, by decide⟩, dL_law_763, dL_law_764⟩ rfl rfl (by omega) (k)) dL_law_765 dL_law_766 dL_law_769 dL_law_771 (fun nc ns a b st σ k => lr_sc C (i := i) (j := 1) ⟨dL_law_772, dL_law_773, ⟨1, dL_law_775, by decide⟩, dL_law_776, dL_law_777⟩ rfl rfl (by omega) (k)) dL_law_778 ⟨⟨dL_law_781, dL_law_783, dL_law_784, dL_law_787, dL_law_789⟩, dL_law_794, dL_law_796, dL_law_799, dL_law_800, dL_law_801, dL_law_802, dL_law_804, dL_law_805, dL_law_806, 1328, dL_law_811, by omega⟩
    (dS := 8) (by decide) (by decide) wq_759 wq_0 (by decide +kernel) wq_757 wq_758 (fun σ K h => lw_setting hl hI (xs (i + 1)) h)
    (dV := 2) ⟨by decide, by decide, wq_1241, wq_11, by decide +kernel⟩ rfl wq_1238 wq_1239 wq_1240 (fun σ Kn h => cd_X10_setting hl hI (xs (i + 1)) h) hmc ?_
  intro σ' g1 g2
  exact kk σ' _ g1 g2 (cK_setting _ T A hW hT0 hT)
set_option maxRecDepth 20000 in
set_option maxHeartbeats 4000000 in
theorem lr_k12 (C : lw_Cx p l s m args meth c w sl xs) {i T : Nat} {A : aS} (hRA : RA w σ A) (hRD : RD σ A) (hW : WA T A) (hT0 : 1100 ≤ T) (hT : T < 60000) (hi : i + 6 ≤ sl) (hmc : nc + 1 ≤ 601024 ∧ ns + 6 ≤ 7293034) (kk : ∀ (σ' : ab_H) (A' : aS), RA w σ' A' → RD σ' A' → WA (T + 40) A' → lw_M p l e s m args below meth c w Q (nc + 1) (ns + 6) 2139 (lw_L i .null .null) [] σ') : lw_M p l e s m args below meth c w Q nc ns 814 (lw_L i .null .null) [] σ := by
  have hl : l.stackTraces = false := C.2.2.2.2.2.2.2.2.2.1
  have hI : ab_Inj w := C.2.2.2.2.2.2.2.2.1
  refine lr_case C (i := i) (T := T) (A := A) (f := (c_addStation (xs (i + 1)) (xs (i + 2)) (xs (i + 3)) (xs (i + 4)) (xs (i + 5)))) hRA hRD hW hT (cE_addStation _ _ _ _ _) (cM_addStation _ _ _ _ _) (As := [.int (xs (i + 1)), .int (xs (i + 2)), .int (xs (i + 3)), .int (xs (i + 4)), .int (xs (i + 5))]) (n := 5) rfl 845 882 dL_law_814 (fun nc ns a b st σ k => lr_sc C (i := i) (j := 1) ⟨dL_law_815, dL_law_816, ⟨1, dL_law_818, by decide⟩, dL_law_819, dL_law_820⟩ rfl rfl (by omega) (lr_sc C (i := i) (j := 2) ⟨dL_law_821, dL_law_822, ⟨2, dL_law_824, by decide⟩, dL_law_825, dL_law_826⟩ rfl rfl (by omega) (lr_sc C (i := i) (j := 3) ⟨dL_law_827, dL_law_828, ⟨3, dL_law_830, by decide⟩, dL_law_831, dL_law_832⟩ rfl rfl (by omega) (lr_sc C (i := i) (j := 4) ⟨dL_law_833, dL_law_834, ⟨4, dL_law_836, by decide⟩, dL_law_837, dL_law_838⟩ rfl rfl (by omega) (lr_sc C (i := i) (j := 5) ⟨dL_law_839, dL_law_840, ⟨5, dL_law_842, by decide⟩, dL_law_843, dL_law_844⟩ rfl rfl (by omega) (k)))))) dL_law_845 dL_law_846 dL_law_849 dL_law_851 (fun nc ns a b st σ k => lr_sc C (i := i) (j := 1) ⟨dL_law_852, dL_law_853, ⟨1, dL_law_855, by decide⟩, dL_law_856, dL_law_857⟩ rfl rfl (by omega) (lr_sc C (i := i) (j := 2) ⟨dL_law_858, dL_law_859, ⟨2, dL_law_861, by decide⟩, dL_law_862, dL_law_863⟩ rfl rfl (by omega) (lr_sc C (i := i) (j := 3) ⟨dL_law_864, dL_law_865, ⟨3, dL_law_867, by decide⟩, dL_law_868, dL_law_869⟩ rfl rfl (by omega) (lr_sc C (i := i) (j := 4) ⟨dL_law_870, dL_law_871, ⟨4, dL_law_873, by decide⟩, dL_law_874, dL_law_875⟩ rfl rfl (by omega) (lr_sc C (i := i) (j := 5) ⟨dL_law_876, dL_law_877, ⟨5, dL_law_879, by decide⟩, dL_law_880, dL_law_881⟩ rfl rfl (by omega) (k)))))) dL_law_882 ⟨⟨dL_law_885, dL_law_887, dL_law_888, dL_law_891, dL_law_893⟩, dL_law_898, dL_law_900, dL_law_903, dL_law_904, dL_law_905, dL_law_906, dL_law_908, dL_law_909, dL_law_910, 1224, dL_law_915, by omega⟩
    (dS := 9) (by decide) (by decide) wq_766 wq_0 (by decide +kernel) wq_764 wq_765 (fun σ K h => lw_addStation hl hI (xs (i + 1)) (xs (i + 2)) (xs (i + 3)) (xs (i + 4)) (xs (i + 5)) h)
    (dV := 3) ⟨by decide, by decide, wq_1245, wq_11, by decide +kernel⟩ rfl wq_1242 wq_1243 wq_1244 (fun σ Kn h => cd_X10_addStation hl hI (xs (i + 1)) (xs (i + 2)) (xs (i + 3)) (xs (i + 4)) (xs (i + 5)) h) hmc ?_
  intro σ' g1 g2
  exact kk σ' _ g1 g2 (cK_addStation _ _ _ _ _ T A hW hT0 hT)
set_option maxRecDepth 20000 in
set_option maxHeartbeats 4000000 in
theorem lr_k13 (C : lw_Cx p l s m args meth c w sl xs) {i T : Nat} {A : aS} (hRA : RA w σ A) (hRD : RD σ A) (hW : WA T A) (hT0 : 1100 ≤ T) (hT : T < 60000) (hi : i + 6 ≤ sl) (hmc : nc + 1 ≤ 601024 ∧ ns + 6 ≤ 7293034) (kk : ∀ (σ' : ab_H) (A' : aS), RA w σ' A' → RD σ' A' → WA (T + 40) A' → lw_M p l e s m args below meth c w Q (nc + 1) (ns + 6) 2139 (lw_L i .null .null) [] σ') : lw_M p l e s m args below meth c w Q nc ns 918 (lw_L i .null .null) [] σ := by
  have hl : l.stackTraces = false := C.2.2.2.2.2.2.2.2.2.1
  have hI : ab_Inj w := C.2.2.2.2.2.2.2.2.1
  refine lr_case C (i := i) (T := T) (A := A) (f := (c_addFinder (xs (i + 1)) (xs (i + 2)) (xs (i + 3)))) hRA hRD hW hT (cE_addFinder _ _ _) (cM_addFinder _ _ _) (As := [.int (xs (i + 1)), .int (xs (i + 2)), .int (xs (i + 3))]) (n := 3) rfl 937 962 dL_law_918 (fun nc ns a b st σ k => lr_sc C (i := i) (j := 1) ⟨dL_law_919, dL_law_920, ⟨1, dL_law_922, by decide⟩, dL_law_923, dL_law_924⟩ rfl rfl (by omega) (lr_sc C (i := i) (j := 2) ⟨dL_law_925, dL_law_926, ⟨2, dL_law_928, by decide⟩, dL_law_929, dL_law_930⟩ rfl rfl (by omega) (lr_sc C (i := i) (j := 3) ⟨dL_law_931, dL_law_932, ⟨3, dL_law_934, by decide⟩, dL_law_935, dL_law_936⟩ rfl rfl (by omega) (k)))) dL_law_937 dL_law_938 dL_law_941 dL_law_943 (fun nc ns a b st σ k => lr_sc C (i := i) (j := 1) ⟨dL_law_944, dL_law_945, ⟨1, dL_law_947, by decide⟩, dL_law_948, dL_law_949⟩ rfl rfl (by omega) (lr_sc C (i := i) (j := 2) ⟨dL_law_950, dL_law_951, ⟨2, dL_law_953, by decide⟩, dL_law_954, dL_law_955⟩ rfl rfl (by omega) (lr_sc C (i := i) (j := 3) ⟨dL_law_956, dL_law_957, ⟨3, dL_law_959, by decide⟩, dL_law_960, dL_law_961⟩ rfl rfl (by omega) (k)))) dL_law_962 ⟨⟨dL_law_965, dL_law_967, dL_law_968, dL_law_971, dL_law_973⟩, dL_law_978, dL_law_980, dL_law_983, dL_law_984, dL_law_985, dL_law_986, dL_law_988, dL_law_989, dL_law_990, 1144, dL_law_995, by omega⟩
    (dS := 9) (by decide) (by decide) wq_787 wq_0 (by decide +kernel) wq_785 wq_786 (fun σ K h => lw_addFinder hl hI (xs (i + 1)) (xs (i + 2)) (xs (i + 3)) h)
    (dV := 3) ⟨by decide, by decide, wq_1262, wq_11, by decide +kernel⟩ rfl wq_1259 wq_1260 wq_1261 (fun σ Kn h => cd_X10_addFinder hl hI (xs (i + 1)) (xs (i + 2)) (xs (i + 3)) h) hmc ?_
  intro σ' g1 g2
  exact kk σ' _ g1 g2 (cK_addFinder _ _ _ T A hW hT0 hT)
set_option maxRecDepth 20000 in
set_option maxHeartbeats 4000000 in
theorem lr_k14 (C : lw_Cx p l s m args meth c w sl xs) {i T : Nat} {A : aS} (hRA : RA w σ A) (hRD : RD σ A) (hW : WA T A) (hT0 : 1100 ≤ T) (hT : T < 60000) (hi : i + 6 ≤ sl) (hmc : nc + 1 ≤ 601024 ∧ ns + 6 ≤ 7293034) (kk : ∀ (σ' : ab_H) (A' : aS), RA w σ' A' → RD σ' A' → WA (T + 40) A' → lw_M p l e s m args below meth c w Q (nc + 1) (ns + 6) 2139 (lw_L i .null .null) [] σ') : lw_M p l e s m args below meth c w Q nc ns 998 (lw_L i .null .null) [] σ := by
  have hl : l.stackTraces = false := C.2.2.2.2.2.2.2.2.2.1
  have hI : ab_Inj w := C.2.2.2.2.2.2.2.2.1
  refine lr_case C (i := i) (T := T) (A := A) (f := (c_wind (xs (i + 1)) (xs (i + 2)))) hRA hRD hW hT (cE_wind _ _) (cM_wind _ _) (As := [.int (xs (i + 1)), .int (xs (i + 2))]) (n := 2) rfl 1011 1030 dL_law_998 (fun nc ns a b st σ k => lr_sc C (i := i) (j := 1) ⟨dL_law_999, dL_law_1000, ⟨1, dL_law_1002, by decide⟩, dL_law_1003, dL_law_1004⟩ rfl rfl (by omega) (lr_sc C (i := i) (j := 2) ⟨dL_law_1005, dL_law_1006, ⟨2, dL_law_1008, by decide⟩, dL_law_1009, dL_law_1010⟩ rfl rfl (by omega) (k))) dL_law_1011 dL_law_1012 dL_law_1015 dL_law_1017 (fun nc ns a b st σ k => lr_sc C (i := i) (j := 1) ⟨dL_law_1018, dL_law_1019, ⟨1, dL_law_1021, by decide⟩, dL_law_1022, dL_law_1023⟩ rfl rfl (by omega) (lr_sc C (i := i) (j := 2) ⟨dL_law_1024, dL_law_1025, ⟨2, dL_law_1027, by decide⟩, dL_law_1028, dL_law_1029⟩ rfl rfl (by omega) (k))) dL_law_1030 ⟨⟨dL_law_1033, dL_law_1035, dL_law_1036, dL_law_1039, dL_law_1041⟩, dL_law_1046, dL_law_1048, dL_law_1051, dL_law_1052, dL_law_1053, dL_law_1054, dL_law_1056, dL_law_1057, dL_law_1058, 1076, dL_law_1063, by omega⟩
    (dS := 9) (by decide) (by decide) wq_795 wq_0 (by decide +kernel) wq_793 wq_794 (fun σ K h => lw_wind hl hI (xs (i + 1)) (xs (i + 2)) h)
    (dV := 3) ⟨by decide, by decide, wq_1268, wq_11, by decide +kernel⟩ rfl wq_1265 wq_1266 wq_1267 (fun σ Kn h => cd_X10_wind hl hI (xs (i + 1)) (xs (i + 2)) h) hmc ?_
  intro σ' g1 g2
  exact kk σ' _ g1 g2 (cK_wind _ _ T A hW hT0 hT)
set_option maxRecDepth 20000 in
set_option maxHeartbeats 4000000 in
theorem lr_k15 (C : lw_Cx p l s m args meth c w sl xs) {i T : Nat} {A : aS} (hRA : RA w σ A) (hRD : RD σ A) (hW : WA T A) (hT0 : 1100 ≤ T) (hT : T < 60000) (hi : i + 6 ≤ sl) (hmc : nc + 1 ≤ 601024 ∧ ns + 6 ≤ 7293034) (kk : ∀ (σ' : ab_H) (A' : aS), RA w σ' A' → RD σ' A' → WA (T + 40) A' → lw_M p l e s m args below meth c w Q (nc + 1) (ns + 6) 2139 (lw_L i .null .null) [] σ') : lw_M p l e s m args below meth c w Q nc ns 1066 (lw_L i .null .null) [] σ := by
  have hl : l.stackTraces = false := C.2.2.2.2.2.2.2.2.2.1
  have hI : ab_Inj w := C.2.2.2.2.2.2.2.2.1
  refine lr_case C (i := i) (T := T) (A := A) (f := (c_change (xs (i + 1)) (xs (i + 2)) (xs (i + 3)))) hRA hRD hW hT (cE_change _ _ _) (cM_change _ _ _) (As := [.int (xs (i + 1)), .int (xs (i + 2)), .int (xs (i + 3))]) (n := 3) rfl 1085 1110 dL_law_1066 (fun nc ns a b st σ k => lr_sc C (i := i) (j := 1) ⟨dL_law_1067, dL_law_1068, ⟨1, dL_law_1070, by decide⟩, dL_law_1071, dL_law_1072⟩ rfl rfl (by omega) (lr_sc C (i := i) (j := 2) ⟨dL_law_1073, dL_law_1074, ⟨2, dL_law_1076, by decide⟩, dL_law_1077, dL_law_1078⟩ rfl rfl (by omega) (lr_sc C (i := i) (j := 3) ⟨dL_law_1079, dL_law_1080, ⟨3, dL_law_1082, by decide⟩, dL_law_1083, dL_law_1084⟩ rfl rfl (by omega) (k)))) dL_law_1085 dL_law_1086 dL_law_1089 dL_law_1091 (fun nc ns a b st σ k => lr_sc C (i := i) (j := 1) ⟨dL_law_1092, dL_law_1093, ⟨1, dL_law_1095, by decide⟩, dL_law_1096, dL_law_1097⟩ rfl rfl (by omega) (lr_sc C (i := i) (j := 2) ⟨dL_law_1098, dL_law_1099, ⟨2, dL_law_1101, by decide⟩, dL_law_1102, dL_law_1103⟩ rfl rfl (by omega) (lr_sc C (i := i) (j := 3) ⟨dL_law_1104, dL_law_1105, ⟨3, dL_law_1107, by decide⟩, dL_law_1108, dL_law_1109⟩ rfl rfl (by omega) (k)))) dL_law_1110 ⟨⟨dL_law_1113, dL_law_1115, dL_law_1116, dL_law_1119, dL_law_1121⟩, dL_law_1126, dL_law_1128, dL_law_1131, dL_law_1132, dL_law_1133, dL_law_1134, dL_law_1136, dL_law_1137, dL_law_1138, 996, dL_law_1143, by omega⟩
    (dS := 9) (by decide) (by decide) wq_803 wq_0 (by decide +kernel) wq_801 wq_802 (fun σ K h => lw_change hl hI (xs (i + 1)) (xs (i + 2)) (xs (i + 3)) h)
    (dV := 3) ⟨by decide, by decide, wq_1276, wq_11, by decide +kernel⟩ rfl wq_1273 wq_1274 wq_1275 (fun σ Kn h => cd_X10_change hl hI (xs (i + 1)) (xs (i + 2)) (xs (i + 3)) h) hmc ?_
  intro σ' g1 g2
  exact kk σ' _ g1 g2 (cK_change _ _ _ T A hW hT0 hT)
set_option maxRecDepth 20000 in
set_option maxHeartbeats 4000000 in
theorem lr_k16 (C : lw_Cx p l s m args meth c w sl xs) {i T : Nat} {A : aS} (hRA : RA w σ A) (hRD : RD σ A) (hW : WA T A) (hT0 : 1100 ≤ T) (hT : T < 60000) (hi : i + 6 ≤ sl) (hmc : nc + 1 ≤ 601024 ∧ ns + 6 ≤ 7293034) (kk : ∀ (σ' : ab_H) (A' : aS), RA w σ' A' → RD σ' A' → WA (T + 40) A' → lw_M p l e s m args below meth c w Q (nc + 1) (ns + 6) 2139 (lw_L i .null .null) [] σ') : lw_M p l e s m args below meth c w Q nc ns 1146 (lw_L i .null .null) [] σ := by
  have hl : l.stackTraces = false := C.2.2.2.2.2.2.2.2.2.1
  have hI : ab_Inj w := C.2.2.2.2.2.2.2.2.1
  refine lr_case C (i := i) (T := T) (A := A) (f := (c_deliver (xs (i + 1)) (xs (i + 2)) (xs (i + 3)))) hRA hRD hW hT (cE_deliver _ _ _) (cM_deliver _ _ _) (As := [.int (xs (i + 1)), .int (xs (i + 2)), .int (xs (i + 3))]) (n := 3) rfl 1165 1190 dL_law_1146 (fun nc ns a b st σ k => lr_sc C (i := i) (j := 1) ⟨dL_law_1147, dL_law_1148, ⟨1, dL_law_1150, by decide⟩, dL_law_1151, dL_law_1152⟩ rfl rfl (by omega) (lr_sc C (i := i) (j := 2) ⟨dL_law_1153, dL_law_1154, ⟨2, dL_law_1156, by decide⟩, dL_law_1157, dL_law_1158⟩ rfl rfl (by omega) (lr_sc C (i := i) (j := 3) ⟨dL_law_1159, dL_law_1160, ⟨3, dL_law_1162, by decide⟩, dL_law_1163, dL_law_1164⟩ rfl rfl (by omega) (k)))) dL_law_1165 dL_law_1166 dL_law_1169 dL_law_1171 (fun nc ns a b st σ k => lr_sc C (i := i) (j := 1) ⟨dL_law_1172, dL_law_1173, ⟨1, dL_law_1175, by decide⟩, dL_law_1176, dL_law_1177⟩ rfl rfl (by omega) (lr_sc C (i := i) (j := 2) ⟨dL_law_1178, dL_law_1179, ⟨2, dL_law_1181, by decide⟩, dL_law_1182, dL_law_1183⟩ rfl rfl (by omega) (lr_sc C (i := i) (j := 3) ⟨dL_law_1184, dL_law_1185, ⟨3, dL_law_1187, by decide⟩, dL_law_1188, dL_law_1189⟩ rfl rfl (by omega) (k)))) dL_law_1190 ⟨⟨dL_law_1193, dL_law_1195, dL_law_1196, dL_law_1199, dL_law_1201⟩, dL_law_1206, dL_law_1208, dL_law_1211, dL_law_1212, dL_law_1213, dL_law_1214, dL_law_1216, dL_law_1217, dL_law_1218, 916, dL_law_1223, by omega⟩
    (dS := 9) (by decide) (by decide) wq_819 wq_0 (by decide +kernel) wq_817 wq_818 (fun σ K h => lw_deliver hl hI (xs (i + 1)) (xs (i + 2)) (xs (i + 3)) h)
    (dV := 3) ⟨by decide, by decide, wq_1283, wq_11, by decide +kernel⟩ rfl wq_1280 wq_1281 wq_1282 (fun σ Kn h => cd_X10_deliver hl hI (xs (i + 1)) (xs (i + 2)) (xs (i + 3)) h) hmc ?_
  intro σ' g1 g2
  exact kk σ' _ g1 g2 (cK_deliver _ _ _ T A hW hT0 hT)
set_option maxRecDepth 20000 in
set_option maxHeartbeats 4000000 in
theorem lr_k17 (C : lw_Cx p l s m args meth c w sl xs) {i T : Nat} {A : aS} (hRA : RA w σ A) (hRD : RD σ A) (hW : WA T A) (hT0 : 1100 ≤ T) (hT : T < 60000) (hi : i + 6 ≤ sl) (hmc : nc + 1 ≤ 601024 ∧ ns + 6 ≤ 7293034) (kk : ∀ (σ' : ab_H) (A' : aS), RA w σ' A' → RD σ' A' → WA (T + 40) A' → lw_M p l e s m args below meth c w Q (nc + 1) (ns + 6) 2139 (lw_L i .null .null) [] σ') : lw_M p l e s m args below meth c w Q nc ns 1226 (lw_L i .null .null) [] σ := by
  have hl : l.stackTraces = false := C.2.2.2.2.2.2.2.2.2.1
  have hI : ab_Inj w := C.2.2.2.2.2.2.2.2.1
  refine lr_case C (i := i) (T := T) (A := A) (f := (c_move (xs (i + 1)) (xs (i + 2)))) hRA hRD hW hT (cE_move _ _) (cM_move _ _) (As := [.int (xs (i + 1)), .int (xs (i + 2))]) (n := 2) rfl 1239 1258 dL_law_1226 (fun nc ns a b st σ k => lr_sc C (i := i) (j := 1) ⟨dL_law_1227, dL_law_1228, ⟨1, dL_law_1230, by decide⟩, dL_law_1231, dL_law_1232⟩ rfl rfl (by omega) (lr_sc C (i := i) (j := 2) ⟨dL_law_1233, dL_law_1234, ⟨2, dL_law_1236, by decide⟩, dL_law_1237, dL_law_1238⟩ rfl rfl (by omega) (k))) dL_law_1239 dL_law_1240 dL_law_1243 dL_law_1245 (fun nc ns a b st σ k => lr_sc C (i := i) (j := 1) ⟨dL_law_1246, dL_law_1247, ⟨1, dL_law_1249, by decide⟩, dL_law_1250, dL_law_1251⟩ rfl rfl (by omega) (lr_sc C (i := i) (j := 2) ⟨dL_law_1252, dL_law_1253, ⟨2, dL_law_1255, by decide⟩, dL_law_1256, dL_law_1257⟩ rfl rfl (by omega) (k))) dL_law_1258 ⟨⟨dL_law_1261, dL_law_1263, dL_law_1264, dL_law_1267, dL_law_1269⟩, dL_law_1274, dL_law_1276, dL_law_1279, dL_law_1280, dL_law_1281, dL_law_1282, dL_law_1284, dL_law_1285, dL_law_1286, 848, dL_law_1291, by omega⟩
    (dS := 9) (by decide) (by decide) wq_828 wq_0 (by decide +kernel) wq_826 wq_827 (fun σ K h => lw_move hl hI (xs (i + 1)) (xs (i + 2)) h)
    (dV := 4) ⟨by decide, by decide, wq_1287, wq_11, by decide +kernel⟩ rfl wq_1284 wq_1285 wq_1286 (fun σ Kn h => cd_X10_move hl hI (xs (i + 1)) (xs (i + 2)) h) hmc ?_
  intro σ' g1 g2
  exact kk σ' _ g1 g2 (cK_move _ _ T A hW hT0 hT)
set_option maxRecDepth 20000 in
set_option maxHeartbeats 4000000 in
theorem lr_k18 (C : lw_Cx p l s m args meth c w sl xs) {i T : Nat} {A : aS} (hRA : RA w σ A) (hRD : RD σ A) (hW : WA T A) (hT0 : 1100 ≤ T) (hT : T < 60000) (hi : i + 6 ≤ sl) (hmc : nc + 1 ≤ 601024 ∧ ns + 6 ≤ 7293034) (kk : ∀ (σ' : ab_H) (A' : aS), RA w σ' A' → RD σ' A' → WA (T + 40) A' → lw_M p l e s m args below meth c w Q (nc + 1) (ns + 6) 2139 (lw_L i .null .null) [] σ') : lw_M p l e s m args below meth c w Q nc ns 1294 (lw_L i .null .null) [] σ := by
  have hl : l.stackTraces = false := C.2.2.2.2.2.2.2.2.2.1
  have hI : ab_Inj w := C.2.2.2.2.2.2.2.2.1
  refine lr_case C (i := i) (T := T) (A := A) (f := (c_run (xs (i + 1)))) hRA hRD hW hT (cE_run _) (cM_run _) (As := [.int (xs (i + 1))]) (n := 1) rfl 1301 1314 dL_law_1294 (fun nc ns a b st σ k => lr_sc C (i := i) (j := 1) ⟨dL_law_1295, dL_law_1296, ⟨1, dL_law_1298, by decide⟩, dL_law_1299, dL_law_1300⟩ rfl rfl (by omega) (k)) dL_law_1301 dL_law_1302 dL_law_1305 dL_law_1307 (fun nc ns a b st σ k => lr_sc C (i := i) (j := 1) ⟨dL_law_1308, dL_law_1309, ⟨1, dL_law_1311, by decide⟩, dL_law_1312, dL_law_1313⟩ rfl rfl (by omega) (k)) dL_law_1314 ⟨⟨dL_law_1317, dL_law_1319, dL_law_1320, dL_law_1323, dL_law_1325⟩, dL_law_1330, dL_law_1332, dL_law_1335, dL_law_1336, dL_law_1337, dL_law_1338, dL_law_1340, dL_law_1341, dL_law_1342, 792, dL_law_1347, by omega⟩
    (dS := 9) (by decide) (by decide) wq_845 wq_0 (by decide +kernel) wq_843 wq_844 (fun σ K h => lw_run hl hI (xs (i + 1)) h)
    (dV := 6) ⟨by decide, by decide, wq_1297, wq_11, by decide +kernel⟩ rfl wq_1294 wq_1295 wq_1296 (fun σ Kn h => cd_X10_run hl hI (xs (i + 1)) h) hmc ?_
  intro σ' g1 g2
  exact kk σ' _ g1 g2 (cK_run _ T A hW hT0 hT)
set_option maxRecDepth 20000 in
set_option maxHeartbeats 4000000 in
theorem lr_k19 (C : lw_Cx p l s m args meth c w sl xs) {i T : Nat} {A : aS} (hRA : RA w σ A) (hRD : RD σ A) (hW : WA T A) (hT0 : 1100 ≤ T) (hT : T < 60000) (hi : i + 6 ≤ sl) (hmc : nc + 1 ≤ 601024 ∧ ns + 6 ≤ 7293034) (kk : ∀ (σ' : ab_H) (A' : aS), RA w σ' A' → RD σ' A' → WA (T + 40) A' → lw_M p l e s m args below meth c w Q (nc + 1) (ns + 6) 2139 (lw_L i .null .null) [] σ') : lw_M p l e s m args below meth c w Q nc ns 1350 (lw_L i .null .null) [] σ := by
  have hl : l.stackTraces = false := C.2.2.2.2.2.2.2.2.2.1
  have hI : ab_Inj w := C.2.2.2.2.2.2.2.2.1
  refine lr_case C (i := i) (T := T) (A := A) (f := (c_set (xs (i + 1)) (xs (i + 2)))) hRA hRD hW hT (cE_set _ _) (cM_set _ _) (As := [.int (xs (i + 1)), .int (xs (i + 2))]) (n := 2) rfl 1363 1382 dL_law_1350 (fun nc ns a b st σ k => lr_sc C (i := i) (j := 1) ⟨dL_law_1351, dL_law_1352, ⟨1, dL_law_1354, by decide⟩, dL_law_1355, dL_law_1356⟩ rfl rfl (by omega) (lr_sc C (i := i) (j := 2) ⟨dL_law_1357, dL_law_1358, ⟨2, dL_law_1360, by decide⟩, dL_law_1361, dL_law_1362⟩ rfl rfl (by omega) (k))) dL_law_1363 dL_law_1364 dL_law_1367 dL_law_1369 (fun nc ns a b st σ k => lr_sc C (i := i) (j := 1) ⟨dL_law_1370, dL_law_1371, ⟨1, dL_law_1373, by decide⟩, dL_law_1374, dL_law_1375⟩ rfl rfl (by omega) (lr_sc C (i := i) (j := 2) ⟨dL_law_1376, dL_law_1377, ⟨2, dL_law_1379, by decide⟩, dL_law_1380, dL_law_1381⟩ rfl rfl (by omega) (k))) dL_law_1382 ⟨⟨dL_law_1385, dL_law_1387, dL_law_1388, dL_law_1391, dL_law_1393⟩, dL_law_1398, dL_law_1400, dL_law_1403, dL_law_1404, dL_law_1405, dL_law_1406, dL_law_1408, dL_law_1409, dL_law_1410, 724, dL_law_1415, by omega⟩
    (dS := 9) (by decide) (by decide) wq_852 wq_0 (by decide +kernel) wq_850 wq_851 (fun σ K h => lw_set hl hI (xs (i + 1)) (xs (i + 2)) h)
    (dV := 3) ⟨by decide, by decide, wq_1305, wq_11, by decide +kernel⟩ rfl wq_1302 wq_1303 wq_1304 (fun σ Kn h => cd_X10_set hl hI (xs (i + 1)) (xs (i + 2)) h) hmc ?_
  intro σ' g1 g2
  exact kk σ' _ g1 g2 (cK_set _ _ T A hW hT0 hT)
set_option maxRecDepth 20000 in
set_option maxHeartbeats 4000000 in
theorem lr_k20 (C : lw_Cx p l s m args meth c w sl xs) {i T : Nat} {A : aS} (hRA : RA w σ A) (hRD : RD σ A) (hW : WA T A) (hT0 : 1100 ≤ T) (hT : T < 60000) (hi : i + 6 ≤ sl) (hmc : nc + 1 ≤ 601024 ∧ ns + 6 ≤ 7293034) (kk : ∀ (σ' : ab_H) (A' : aS), RA w σ' A' → RD σ' A' → WA (T + 40) A' → lw_M p l e s m args below meth c w Q (nc + 1) (ns + 6) 2139 (lw_L i .null .null) [] σ') : lw_M p l e s m args below meth c w Q nc ns 1418 (lw_L i .null .null) [] σ := by
  have hl : l.stackTraces = false := C.2.2.2.2.2.2.2.2.2.1
  have hI : ab_Inj w := C.2.2.2.2.2.2.2.2.1
  refine lr_case C (i := i) (T := T) (A := A) (f := (c_undo)) hRA hRD hW hT (cE_undo) (cM_undo) (As := []) (n := 0) rfl 1419 1426 dL_law_1418 (fun nc ns a b st σ k => k) dL_law_1419 dL_law_1420 dL_law_1423 dL_law_1425 (fun nc ns a b st σ k => k) dL_law_1426 ⟨⟨dL_law_1429, dL_law_1431, dL_law_1432, dL_law_1435, dL_law_1437⟩, dL_law_1442, dL_law_1444, dL_law_1447, dL_law_1448, dL_law_1449, dL_law_1450, dL_law_1452, dL_law_1453, dL_law_1454, 680, dL_law_1459, by omega⟩
    (dS := 7) (by decide) (by decide) wq_872 wq_0 (by decide +kernel) wq_870 wq_871 (fun σ K h => lw_undo hl hI h)
    (dV := 2) ⟨by decide, by decide, wq_1312, wq_11, by decide +kernel⟩ rfl wq_1309 wq_1310 wq_1311 (fun σ Kn h => cd_X10_undo hl hI h) hmc ?_
  intro σ' g1 g2
  exact kk σ' _ g1 g2 (cK_undo T A hW hT0 hT)
set_option maxRecDepth 20000 in
set_option maxHeartbeats 4000000 in
theorem lr_k21 (C : lw_Cx p l s m args meth c w sl xs) {i T : Nat} {A : aS} (hRA : RA w σ A) (hRD : RD σ A) (hW : WA T A) (hT0 : 1100 ≤ T) (hT : T < 60000) (hi : i + 6 ≤ sl) (hmc : nc + 1 ≤ 601024 ∧ ns + 6 ≤ 7293034) (kk : ∀ (σ' : ab_H) (A' : aS), RA w σ' A' → RD σ' A' → WA (T + 40) A' → lw_M p l e s m args below meth c w Q (nc + 1) (ns + 6) 2139 (lw_L i .null .null) [] σ') : lw_M p l e s m args below meth c w Q nc ns 1462 (lw_L i .null .null) [] σ := by
  have hl : l.stackTraces = false := C.2.2.2.2.2.2.2.2.2.1
  have hI : ab_Inj w := C.2.2.2.2.2.2.2.2.1
  refine lr_case C (i := i) (T := T) (A := A) (f := (c_landing (xs (i + 1)) (xs (i + 2)))) hRA hRD hW hT (cE_landing _ _) (cM_landing _ _) (As := [.int (xs (i + 1)), .int (xs (i + 2))]) (n := 2) rfl 1475 1494 dL_law_1462 (fun nc ns a b st σ k => lr_sc C (i := i) (j := 1) ⟨dL_law_1463, dL_law_1464, ⟨1, dL_law_1466, by decide⟩, dL_law_1467, dL_law_1468⟩ rfl rfl (by omega) (lr_sc C (i := i) (j := 2) ⟨dL_law_1469, dL_law_1470, ⟨2, dL_law_1472, by decide⟩, dL_law_1473, dL_law_1474⟩ rfl rfl (by omega) (k))) dL_law_1475 dL_law_1476 dL_law_1479 dL_law_1481 (fun nc ns a b st σ k => lr_sc C (i := i) (j := 1) ⟨dL_law_1482, dL_law_1483, ⟨1, dL_law_1485, by decide⟩, dL_law_1486, dL_law_1487⟩ rfl rfl (by omega) (lr_sc C (i := i) (j := 2) ⟨dL_law_1488, dL_law_1489, ⟨2, dL_law_1491, by decide⟩, dL_law_1492, dL_law_1493⟩ rfl rfl (by omega) (k))) dL_law_1494 ⟨⟨dL_law_1497, dL_law_1499, dL_law_1500, dL_law_1503, dL_law_1505⟩, dL_law_1510, dL_law_1512, dL_law_1515, dL_law_1516, dL_law_1517, dL_law_1518, dL_law_1520, dL_law_1521, dL_law_1522, 612, dL_law_1527, by omega⟩
    (dS := 8) (by decide) (by decide) wq_884 wq_0 (by decide +kernel) wq_882 wq_883 (fun σ K h => lw_landing hl hI (xs (i + 1)) (xs (i + 2)) h)
    (dV := 3) ⟨by decide, by decide, wq_1316, wq_11, by decide +kernel⟩ rfl wq_1313 wq_1314 wq_1315 (fun σ Kn h => cd_X10_landing hl hI (xs (i + 1)) (xs (i + 2)) h) hmc ?_
  intro σ' g1 g2
  exact kk σ' _ g1 g2 (cK_landing _ _ T A hW hT0 hT)
set_option maxRecDepth 20000 in
set_option maxHeartbeats 4000000 in
theorem lr_k22 (C : lw_Cx p l s m args meth c w sl xs) {i T : Nat} {A : aS} (hRA : RA w σ A) (hRD : RD σ A) (hW : WA T A) (hT0 : 1100 ≤ T) (hT : T < 60000) (hi : i + 6 ≤ sl) (hmc : nc + 1 ≤ 601024 ∧ ns + 6 ≤ 7293034) (kk : ∀ (σ' : ab_H) (A' : aS), RA w σ' A' → RD σ' A' → WA (T + 40) A' → lw_M p l e s m args below meth c w Q (nc + 1) (ns + 6) 2139 (lw_L i .null .null) [] σ') : lw_M p l e s m args below meth c w Q nc ns 1530 (lw_L i .null .null) [] σ := by
  have hl : l.stackTraces = false := C.2.2.2.2.2.2.2.2.2.1
  have hI : ab_Inj w := C.2.2.2.2.2.2.2.2.1
  refine lr_case C (i := i) (T := T) (A := A) (f := (c_finds (xs (i + 1)))) hRA hRD hW hT (cE_finds _) (cM_finds _) (As := [.int (xs (i + 1))]) (n := 1) rfl 1537 1550 dL_law_1530 (fun nc ns a b st σ k => lr_sc C (i := i) (j := 1) ⟨dL_law_1531, dL_law_1532, ⟨1, dL_law_1534, by decide⟩, dL_law_1535, dL_law_1536⟩ rfl rfl (by omega) (k)) dL_law_1537 dL_law_1538 dL_law_1541 dL_law_1543 (fun nc ns a b st σ k => lr_sc C (i := i) (j := 1) ⟨dL_law_1544, dL_law_1545, ⟨1, dL_law_1547, by decide⟩, dL_law_1548, dL_law_1549⟩ rfl rfl (by omega) (k)) dL_law_1550 ⟨⟨dL_law_1553, dL_law_1555, dL_law_1556, dL_law_1559, dL_law_1561⟩, dL_law_1566, dL_law_1568, dL_law_1571, dL_law_1572, dL_law_1573, dL_law_1574, dL_law_1576, dL_law_1577, dL_law_1578, 556, dL_law_1583, by omega⟩
    (dS := 8) (by decide) (by decide) wq_892 wq_0 (by decide +kernel) wq_890 wq_891 (fun σ K h => lw_finds hl hI (xs (i + 1)) h)
    (dV := 3) ⟨by decide, by decide, wq_1320, wq_11, by decide +kernel⟩ rfl wq_1317 wq_1318 wq_1319 (fun σ Kn h => cd_X10_finds hl hI (xs (i + 1)) h) hmc ?_
  intro σ' g1 g2
  exact kk σ' _ g1 g2 (cK_finds _ T A hW hT0 hT)
set_option maxRecDepth 20000 in
set_option maxHeartbeats 4000000 in
theorem lr_k23 (C : lw_Cx p l s m args meth c w sl xs) {i T : Nat} {A : aS} (hRA : RA w σ A) (hRD : RD σ A) (hW : WA T A) (hT0 : 1100 ≤ T) (hT : T < 60000) (hi : i + 6 ≤ sl) (hmc : nc + 1 ≤ 601024 ∧ ns + 6 ≤ 7293034) (kk : ∀ (σ' : ab_H) (A' : aS), RA w σ' A' → RD σ' A' → WA (T + 40) A' → lw_M p l e s m args below meth c w Q (nc + 1) (ns + 6) 2139 (lw_L i .null .null) [] σ') : lw_M p l e s m args below meth c w Q nc ns 1586 (lw_L i .null .null) [] σ := by
  have hl : l.stackTraces = false := C.2.2.2.2.2.2.2.2.2.1
  have hI : ab_Inj w := C.2.2.2.2.2.2.2.2.1
  refine lr_case C (i := i) (T := T) (A := A) (f := (c_coming (xs (i + 1)) (xs (i + 2)))) hRA hRD hW hT (cE_coming _ _) (cM_coming _ _) (As := [.int (xs (i + 1)), .int (xs (i + 2))]) (n := 2) rfl 1599 1618 dL_law_1586 (fun nc ns a b st σ k => lr_sc C (i := i) (j := 1) ⟨dL_law_1587, dL_law_1588, ⟨1, dL_law_1590, by decide⟩, dL_law_1591, dL_law_1592⟩ rfl rfl (by omega) (lr_sc C (i := i) (j := 2) ⟨dL_law_1593, dL_law_1594, ⟨2, dL_law_1596, by decide⟩, dL_law_1597, dL_law_1598⟩ rfl rfl (by omega) (k))) dL_law_1599 dL_law_1600 dL_law_1603 dL_law_1605 (fun nc ns a b st σ k => lr_sc C (i := i) (j := 1) ⟨dL_law_1606, dL_law_1607, ⟨1, dL_law_1609, by decide⟩, dL_law_1610, dL_law_1611⟩ rfl rfl (by omega) (lr_sc C (i := i) (j := 2) ⟨dL_law_1612, dL_law_1613, ⟨2, dL_law_1615, by decide⟩, dL_law_1616, dL_law_1617⟩ rfl rfl (by omega) (k))) dL_law_1618 ⟨⟨dL_law_1621, dL_law_1623, dL_law_1624, dL_law_1627, dL_law_1629⟩, dL_law_1634, dL_law_1636, dL_law_1639, dL_law_1640, dL_law_1641, dL_law_1642, dL_law_1644, dL_law_1645, dL_law_1646, 488, dL_law_1651, by omega⟩
    (dS := 8) (by decide) (by decide) wq_900 wq_0 (by decide +kernel) wq_898 wq_899 (fun σ K h => lw_coming hl hI (xs (i + 1)) (xs (i + 2)) h)
    (dV := 6) ⟨by decide, by decide, wq_1324, wq_11, by decide +kernel⟩ rfl wq_1321 wq_1322 wq_1323 (fun σ Kn h => cd_X10_coming hl hI (xs (i + 1)) (xs (i + 2)) h) hmc ?_
  intro σ' g1 g2
  exact kk σ' _ g1 g2 (cK_coming _ _ T A hW hT0 hT)
set_option maxRecDepth 20000 in
set_option maxHeartbeats 4000000 in
theorem lr_k24 (C : lw_Cx p l s m args meth c w sl xs) {i T : Nat} {A : aS} (hRA : RA w σ A) (hRD : RD σ A) (hW : WA T A) (hT0 : 1100 ≤ T) (hT : T < 60000) (hi : i + 6 ≤ sl) (hmc : nc + 1 ≤ 601024 ∧ ns + 6 ≤ 7293034) (kk : ∀ (σ' : ab_H) (A' : aS), RA w σ' A' → RD σ' A' → WA (T + 40) A' → lw_M p l e s m args below meth c w Q (nc + 1) (ns + 6) 2139 (lw_L i .null .null) [] σ') : lw_M p l e s m args below meth c w Q nc ns 1654 (lw_L i .null .null) [] σ := by
  have hl : l.stackTraces = false := C.2.2.2.2.2.2.2.2.2.1
  have hI : ab_Inj w := C.2.2.2.2.2.2.2.2.1
  have hwA : wA w := C.2.2.2.2.2.2.2.2.2.2.2.2.2.2.2.1
  have hwD : wD w := C.2.2.2.2.2.2.2.2.2.2.2.2.2.2.2.2.1
  refine lr_aload C dL_law_1654 rfl rfl ?_
  refine lr_callV C (ci := 9) (row := (RX9, TX9, 7)) (As := []) (a := 0) (r := []) (mcy := 1) (n := 0) (d' := 6) rfl rfl ⟨by decide, by decide, wq_350, wq_1, by decide +kernel⟩ wq_347 wq_348 wq_349 dL_law_1655 rfl rfl hwA.1 ⟨by omega, by omega⟩ (cb_X9_firstGap hl hI (Kn := (fun v σ' => v = some (.int (c_firstGap A).2.1) ∧ RA w σ' (c_firstGap A).2.2 ∧ FrA σ σ')) ⟨hwA, A, T, hRA, hW, hT, fun _ σ' g1 g2 => ⟨rfl, g1, g2⟩, fun e E h => absurd h (by show ¬ 0 = e + 1; omega)⟩) ?_
  rintro v σ1 ⟨rfl, hA1, hF1⟩
  refine lr_aload C dL_law_1658 rfl rfl ?_
  refine lr_callV C (ci := 10) (row := (RX10, TX10, 15)) (As := []) (a := 8) (r := [.int (c_firstGap A).2.1]) (mcy := 0) (n := 0) (d' := 5) rfl rfl ⟨by decide, by decide, wq_1332, wq_11, by decide +kernel⟩ wq_1329 wq_1330 wq_1331 dL_law_1659 rfl rfl hwD.1 ⟨by omega, by omega⟩ (cd_X10_firstGap hl hI (Kn := fun v σ' => v = some (.int (c_firstGap A).2.1) ∧ RD σ' (c_firstGap A).2.2 ∧ FrB σ1 σ') ⟨hwD, A, T, hRD.frA (fun v h1 h2 _ => hF1 v h1 h2), hW, hT, fun σ' v g1 g2 g3 g4 => ⟨by rw [g4 rfl], g1, g2⟩⟩) ?_
  rintro v σ2 ⟨rfl, hD2, hF2⟩
  exact lr_wide (by omega) (by omega) (lr_cmp C dL_law_1662 (by omega) (kk σ2 _ (hA1.frB hF2) hD2 (cK_firstGap T A hW hT0 hT)))
set_option maxRecDepth 20000 in
set_option maxHeartbeats 4000000 in
theorem lr_k25 (C : lw_Cx p l s m args meth c w sl xs) {i T : Nat} {A : aS} (hRA : RA w σ A) (hRD : RD σ A) (hW : WA T A) (hT0 : 1100 ≤ T) (hT : T < 60000) (hi : i + 6 ≤ sl) (hmc : nc + 1 ≤ 601024 ∧ ns + 6 ≤ 7293034) (kk : ∀ (σ' : ab_H) (A' : aS), RA w σ' A' → RD σ' A' → WA (T + 40) A' → lw_M p l e s m args below meth c w Q (nc + 1) (ns + 6) 2139 (lw_L i .null .null) [] σ') : lw_M p l e s m args below meth c w Q nc ns 1667 (lw_L i .null .null) [] σ := by
  have hl : l.stackTraces = false := C.2.2.2.2.2.2.2.2.2.1
  have hI : ab_Inj w := C.2.2.2.2.2.2.2.2.1
  refine lr_case C (i := i) (T := T) (A := A) (f := (c_lacks (xs (i + 1)) (xs (i + 2)))) hRA hRD hW hT (cE_lacks _ _) (cM_lacks _ _) (As := [.int (xs (i + 1)), .int (xs (i + 2))]) (n := 2) rfl 1680 1699 dL_law_1667 (fun nc ns a b st σ k => lr_sc C (i := i) (j := 1) ⟨dL_law_1668, dL_law_1669, ⟨1, dL_law_1671, by decide⟩, dL_law_1672, dL_law_1673⟩ rfl rfl (by omega) (lr_sc C (i := i) (j := 2) ⟨dL_law_1674, dL_law_1675, ⟨2, dL_law_1677, by decide⟩, dL_law_1678, dL_law_1679⟩ rfl rfl (by omega) (k))) dL_law_1680 dL_law_1681 dL_law_1684 dL_law_1686 (fun nc ns a b st σ k => lr_sc C (i := i) (j := 1) ⟨dL_law_1687, dL_law_1688, ⟨1, dL_law_1690, by decide⟩, dL_law_1691, dL_law_1692⟩ rfl rfl (by omega) (lr_sc C (i := i) (j := 2) ⟨dL_law_1693, dL_law_1694, ⟨2, dL_law_1696, by decide⟩, dL_law_1697, dL_law_1698⟩ rfl rfl (by omega) (k))) dL_law_1699 ⟨⟨dL_law_1702, dL_law_1704, dL_law_1705, dL_law_1708, dL_law_1710⟩, dL_law_1715, dL_law_1717, dL_law_1720, dL_law_1721, dL_law_1722, dL_law_1723, dL_law_1725, dL_law_1726, dL_law_1727, 407, dL_law_1732, by omega⟩
    (dS := 8) (by decide) (by decide) wq_907 wq_0 (by decide +kernel) wq_905 wq_906 (fun σ K h => lw_lacks hl hI (xs (i + 1)) (xs (i + 2)) h)
    (dV := 6) ⟨by decide, by decide, wq_1336, wq_11, by decide +kernel⟩ rfl wq_1333 wq_1334 wq_1335 (fun σ Kn h => cd_X10_lacks hl hI (xs (i + 1)) (xs (i + 2)) h) hmc ?_
  intro σ' g1 g2
  exact kk σ' _ g1 g2 (cK_lacks _ _ T A hW hT0 hT)
set_option maxRecDepth 20000 in
set_option maxHeartbeats 4000000 in
theorem lr_k26 (C : lw_Cx p l s m args meth c w sl xs) {i T : Nat} {A : aS} (hRA : RA w σ A) (hRD : RD σ A) (hW : WA T A) (hT0 : 1100 ≤ T) (hT : T < 60000) (hi : i + 6 ≤ sl) (hmc : nc + 1 ≤ 601024 ∧ ns + 6 ≤ 7293034) (kk : ∀ (σ' : ab_H) (A' : aS), RA w σ' A' → RD σ' A' → WA (T + 40) A' → lw_M p l e s m args below meth c w Q (nc + 1) (ns + 6) 2139 (lw_L i .null .null) [] σ') : lw_M p l e s m args below meth c w Q nc ns 1735 (lw_L i .null .null) [] σ := by
  have hl : l.stackTraces = false := C.2.2.2.2.2.2.2.2.2.1
  have hI : ab_Inj w := C.2.2.2.2.2.2.2.2.1
  refine lr_case C (i := i) (T := T) (A := A) (f := (c_ifDelivered (xs (i + 1)) (xs (i + 2)) (xs (i + 3)) (xs (i + 4)))) hRA hRD hW hT (cE_ifDelivered _ _ _ _) (cM_ifDelivered _ _ _ _) (As := [.int (xs (i + 1)), .int (xs (i + 2)), .int (xs (i + 3)), .int (xs (i + 4))]) (n := 4) rfl 1760 1791 dL_law_1735 (fun nc ns a b st σ k => lr_sc C (i := i) (j := 1) ⟨dL_law_1736, dL_law_1737, ⟨1, dL_law_1739, by decide⟩, dL_law_1740, dL_law_1741⟩ rfl rfl (by omega) (lr_sc C (i := i) (j := 2) ⟨dL_law_1742, dL_law_1743, ⟨2, dL_law_1745, by decide⟩, dL_law_1746, dL_law_1747⟩ rfl rfl (by omega) (lr_sc C (i := i) (j := 3) ⟨dL_law_1748, dL_law_1749, ⟨3, dL_law_1751, by decide⟩, dL_law_1752, dL_law_1753⟩ rfl rfl (by omega) (lr_sc C (i := i) (j := 4) ⟨dL_law_1754, dL_law_1755, ⟨4, dL_law_1757, by decide⟩, dL_law_1758, dL_law_1759⟩ rfl rfl (by omega) (k))))) dL_law_1760 dL_law_1761 dL_law_1764 dL_law_1766 (fun nc ns a b st σ k => lr_sc C (i := i) (j := 1) ⟨dL_law_1767, dL_law_1768, ⟨1, dL_law_1770, by decide⟩, dL_law_1771, dL_law_1772⟩ rfl rfl (by omega) (lr_sc C (i := i) (j := 2) ⟨dL_law_1773, dL_law_1774, ⟨2, dL_law_1776, by decide⟩, dL_law_1777, dL_law_1778⟩ rfl rfl (by omega) (lr_sc C (i := i) (j := 3) ⟨dL_law_1779, dL_law_1780, ⟨3, dL_law_1782, by decide⟩, dL_law_1783, dL_law_1784⟩ rfl rfl (by omega) (lr_sc C (i := i) (j := 4) ⟨dL_law_1785, dL_law_1786, ⟨4, dL_law_1788, by decide⟩, dL_law_1789, dL_law_1790⟩ rfl rfl (by omega) (k))))) dL_law_1791 ⟨⟨dL_law_1794, dL_law_1796, dL_law_1797, dL_law_1800, dL_law_1802⟩, dL_law_1807, dL_law_1809, dL_law_1812, dL_law_1813, dL_law_1814, dL_law_1815, dL_law_1817, dL_law_1818, dL_law_1819, 315, dL_law_1824, by omega⟩
    (dS := 8) (by decide) (by decide) wq_919 wq_0 (by decide +kernel) wq_917 wq_918 (fun σ K h => lw_ifDelivered hl hI (xs (i + 1)) (xs (i + 2)) (xs (i + 3)) (xs (i + 4)) h)
    (dV := 6) ⟨by decide, by decide, wq_1340, wq_11, by decide +kernel⟩ rfl wq_1337 wq_1338 wq_1339 (fun σ Kn h => cd_X10_ifDelivered hl hI (xs (i + 1)) (xs (i + 2)) (xs (i + 3)) (xs (i + 4)) h) hmc ?_
  intro σ' g1 g2
  exact kk σ' _ g1 g2 (cK_ifDelivered _ _ _ _ T A hW hT0 hT)
set_option maxRecDepth 20000 in
set_option maxHeartbeats 4000000 in
theorem lr_k27 (C : lw_Cx p l s m args meth c w sl xs) {i T : Nat} {A : aS} (hRA : RA w σ A) (hRD : RD σ A) (hW : WA T A) (hT0 : 1100 ≤ T) (hT : T < 60000) (hi : i + 6 ≤ sl) (hmc : nc + 1 ≤ 601024 ∧ ns + 6 ≤ 7293034) (kk : ∀ (σ' : ab_H) (A' : aS), RA w σ' A' → RD σ' A' → WA (T + 40) A' → lw_M p l e s m args below meth c w Q (nc + 1) (ns + 6) 2139 (lw_L i .null .null) [] σ') : lw_M p l e s m args below meth c w Q nc ns 1827 (lw_L i .null .null) [] σ := by
  have hl : l.stackTraces = false := C.2.2.2.2.2.2.2.2.2.1
  have hI : ab_Inj w := C.2.2.2.2.2.2.2.2.1
  refine lr_case C (i := i) (T := T) (A := A) (f := (c_runScript (xs (i + 1)) ((xs (i + 2)).toInt64 <<< ((32 : Int32).toInt64 &&& 63) ||| ((xs (i + 3)).toInt64 &&& 4294967295)))) hRA hRD hW hT (cE_runScript _ _) (cM_runScript _ _) (As := [.int (xs (i + 1)), .long ((xs (i + 2)).toInt64 <<< ((32 : Int32).toInt64 &&& 63) ||| ((xs (i + 3)).toInt64 &&& 4294967295))]) (n := 2) rfl 1856 1891 dL_law_1827 (fun nc ns a b st σ k => lr_sc C (i := i) (j := 1) ⟨dL_law_1828, dL_law_1829, ⟨1, dL_law_1831, by decide⟩, dL_law_1832, dL_law_1833⟩ rfl rfl (by omega) (lr_sc C (i := i) (j := 2) ⟨dL_law_1834, dL_law_1835, ⟨2, dL_law_1837, by decide⟩, dL_law_1838, dL_law_1839⟩ rfl rfl (by omega) (lr_i2l C dL_law_1840 (lr_bipush C (x := 32) dL_law_1841 (by decide) (lr_lshl C dL_law_1843 (lr_sc C (i := i) (j := 3) ⟨dL_law_1844, dL_law_1845, ⟨3, dL_law_1847, by decide⟩, dL_law_1848, dL_law_1849⟩ rfl rfl (by omega) (lr_i2l C dL_law_1850 (lr_ldc2 C (x := 4294967295) dL_law_1851 wq_1400 (lr_land C dL_law_1854 (lr_lor C dL_law_1855 (k))))))))))) dL_law_1856 dL_law_1857 dL_law_1860 dL_law_1862 (fun nc ns a b st σ k => lr_sc C (i := i) (j := 1) ⟨dL_law_1863, dL_law_1864, ⟨1, dL_law_1866, by decide⟩, dL_law_1867, dL_law_1868⟩ rfl rfl (by omega) (lr_sc C (i := i) (j := 2) ⟨dL_law_1869, dL_law_1870, ⟨2, dL_law_1872, by decide⟩, dL_law_1873, dL_law_1874⟩ rfl rfl (by omega) (lr_i2l C dL_law_1875 (lr_bipush C (x := 32) dL_law_1876 (by decide) (lr_lshl C dL_law_1878 (lr_sc C (i := i) (j := 3) ⟨dL_law_1879, dL_law_1880, ⟨3, dL_law_1882, by decide⟩, dL_law_1883, dL_law_1884⟩ rfl rfl (by omega) (lr_i2l C dL_law_1885 (lr_ldc2 C (x := 4294967295) dL_law_1886 wq_1400 (lr_land C dL_law_1889 (lr_lor C dL_law_1890 (k))))))))))) dL_law_1891 ⟨⟨dL_law_1894, dL_law_1896, dL_law_1897, dL_law_1900, dL_law_1902⟩, dL_law_1907, dL_law_1909, dL_law_1912, dL_law_1913, dL_law_1914, dL_law_1915, dL_law_1917, dL_law_1918, dL_law_1919, 215, dL_law_1924, by omega⟩
    (dS := 8) (by decide) (by decide) wq_926 wq_0 (by decide +kernel) wq_924 wq_925 (fun σ K h => lw_runScript hl hI (xs (i + 1)) ((xs (i + 2)).toInt64 <<< ((32 : Int32).toInt64 &&& 63) ||| ((xs (i + 3)).toInt64 &&& 4294967295)) h)
    (dV := 8) ⟨by decide, by decide, wq_1344, wq_11, by decide +kernel⟩ rfl wq_1341 wq_1342 wq_1343 (fun σ Kn h => cd_X10_runScript hl hI (xs (i + 1)) ((xs (i + 2)).toInt64 <<< ((32 : Int32).toInt64 &&& 63) ||| ((xs (i + 3)).toInt64 &&& 4294967295)) h) hmc ?_
  intro σ' g1 g2
  exact kk σ' _ g1 g2 (cK_runScript _ _ T A hW hT0 hT)
set_option maxRecDepth 20000 in
set_option maxHeartbeats 4000000 in
theorem lr_k28 (C : lw_Cx p l s m args meth c w sl xs) {i T : Nat} {A : aS} (hRA : RA w σ A) (hRD : RD σ A) (hW : WA T A) (hT0 : 1100 ≤ T) (hT : T < 60000) (hi : i + 6 ≤ sl) (hmc : nc + 1 ≤ 601024 ∧ ns + 6 ≤ 7293034) (kk : ∀ (σ' : ab_H) (A' : aS), RA w σ' A' → RD σ' A' → WA (T + 40) A' → lw_M p l e s m args below meth c w Q (nc + 1) (ns + 6) 2139 (lw_L i .null .null) [] σ') : lw_M p l e s m args below meth c w Q nc ns 1927 (lw_L i .null .null) [] σ := by
  have hl : l.stackTraces = false := C.2.2.2.2.2.2.2.2.2.1
  have hI : ab_Inj w := C.2.2.2.2.2.2.2.2.1
  refine lr_case C (i := i) (T := T) (A := A) (f := (c_simulate ((xs (i + 1)).toInt64 <<< ((32 : Int32).toInt64 &&& 63) ||| ((xs (i + 2)).toInt64 &&& 4294967295)) (xs (i + 3)))) hRA hRD hW hT (cE_simulate _ _) (cM_simulate _ _) (As := [.long ((xs (i + 1)).toInt64 <<< ((32 : Int32).toInt64 &&& 63) ||| ((xs (i + 2)).toInt64 &&& 4294967295)), .int (xs (i + 3))]) (n := 2) rfl 1956 1991 dL_law_1927 (fun nc ns a b st σ k => lr_sc C (i := i) (j := 1) ⟨dL_law_1928, dL_law_1929, ⟨1, dL_law_1931, by decide⟩, dL_law_1932, dL_law_1933⟩ rfl rfl (by omega) (lr_i2l C dL_law_1934 (lr_bipush C (x := 32) dL_law_1935 (by decide) (lr_lshl C dL_law_1937 (lr_sc C (i := i) (j := 2) ⟨dL_law_1938, dL_law_1939, ⟨2, dL_law_1941, by decide⟩, dL_law_1942, dL_law_1943⟩ rfl rfl (by omega) (lr_i2l C dL_law_1944 (lr_ldc2 C (x := 4294967295) dL_law_1945 wq_1400 (lr_land C dL_law_1948 (lr_lor C dL_law_1949 (lr_sc C (i := i) (j := 3) ⟨dL_law_1950, dL_law_1951, ⟨3, dL_law_1953, by decide⟩, dL_law_1954, dL_law_1955⟩ rfl rfl (by omega) (k))))))))))) dL_law_1956 dL_law_1957 dL_law_1960 dL_law_1962 (fun nc ns a b st σ k => lr_sc C (i := i) (j := 1) ⟨dL_law_1963, dL_law_1964, ⟨1, dL_law_1966, by decide⟩, dL_law_1967, dL_law_1968⟩ rfl rfl (by omega) (lr_i2l C dL_law_1969 (lr_bipush C (x := 32) dL_law_1970 (by decide) (lr_lshl C dL_law_1972 (lr_sc C (i := i) (j := 2) ⟨dL_law_1973, dL_law_1974, ⟨2, dL_law_1976, by decide⟩, dL_law_1977, dL_law_1978⟩ rfl rfl (by omega) (lr_i2l C dL_law_1979 (lr_ldc2 C (x := 4294967295) dL_law_1980 wq_1400 (lr_land C dL_law_1983 (lr_lor C dL_law_1984 (lr_sc C (i := i) (j := 3) ⟨dL_law_1985, dL_law_1986, ⟨3, dL_law_1988, by decide⟩, dL_law_1989, dL_law_1990⟩ rfl rfl (by omega) (k))))))))))) dL_law_1991 ⟨⟨dL_law_1994, dL_law_1996, dL_law_1997, dL_law_2000, dL_law_2002⟩, dL_law_2007, dL_law_2009, dL_law_2012, dL_law_2013, dL_law_2014, dL_law_2015, dL_law_2017, dL_law_2018, dL_law_2019, 115, dL_law_2024, by omega⟩
    (dS := 8) (by decide) (by decide) wq_948 wq_0 (by decide +kernel) wq_946 wq_947 (fun σ K h => lw_simulate hl hI ((xs (i + 1)).toInt64 <<< ((32 : Int32).toInt64 &&& 63) ||| ((xs (i + 2)).toInt64 &&& 4294967295)) (xs (i + 3)) h)
    (dV := 7) ⟨by decide, by decide, wq_1385, wq_11, by decide +kernel⟩ rfl wq_1382 wq_1383 wq_1384 (fun σ Kn h => cd_X10_simulate hl hI ((xs (i + 1)).toInt64 <<< ((32 : Int32).toInt64 &&& 63) ||| ((xs (i + 2)).toInt64 &&& 4294967295)) (xs (i + 3)) h) hmc ?_
  intro σ' g1 g2
  exact kk σ' _ g1 g2 (cK_simulate _ _ T A hW hT0 hT)
set_option maxRecDepth 20000 in
set_option maxHeartbeats 4000000 in
theorem lr_k29 (C : lw_Cx p l s m args meth c w sl xs) {i T : Nat} {A : aS} (hRA : RA w σ A) (hRD : RD σ A) (hW : WA T A) (hT0 : 1100 ≤ T) (hT : T < 60000) (hi : i + 6 ≤ sl) (hmc : nc + 1 ≤ 601024 ∧ ns + 6 ≤ 7293034) (kk : ∀ (σ' : ab_H) (A' : aS), RA w σ' A' → RD σ' A' → WA (T + 40) A' → lw_M p l e s m args below meth c w Q (nc + 1) (ns + 6) 2139 (lw_L i .null .null) [] σ') : lw_M p l e s m args below meth c w Q nc ns 2027 (lw_L i .null .null) [] σ := by
  have hl : l.stackTraces = false := C.2.2.2.2.2.2.2.2.2.1
  have hI : ab_Inj w := C.2.2.2.2.2.2.2.2.1
  refine lr_case C (i := i) (T := T) (A := A) (f := (c_save (xs (i + 1)))) hRA hRD hW hT (cE_save _) (cM_save _) (As := [.int (xs (i + 1))]) (n := 1) rfl 2034 2047 dL_law_2027 (fun nc ns a b st σ k => lr_sc C (i := i) (j := 1) ⟨dL_law_2028, dL_law_2029, ⟨1, dL_law_2031, by decide⟩, dL_law_2032, dL_law_2033⟩ rfl rfl (by omega) (k)) dL_law_2034 dL_law_2035 dL_law_2038 dL_law_2040 (fun nc ns a b st σ k => lr_sc C (i := i) (j := 1) ⟨dL_law_2041, dL_law_2042, ⟨1, dL_law_2044, by decide⟩, dL_law_2045, dL_law_2046⟩ rfl rfl (by omega) (k)) dL_law_2047 ⟨⟨dL_law_2050, dL_law_2052, dL_law_2053, dL_law_2056, dL_law_2058⟩, dL_law_2063, dL_law_2065, dL_law_2068, dL_law_2069, dL_law_2070, dL_law_2071, dL_law_2073, dL_law_2074, dL_law_2075, 59, dL_law_2080, by omega⟩
    (dS := 8) (by decide) (by decide) wq_961 wq_0 (by decide +kernel) wq_959 wq_960 (fun σ K h => lw_save hl hI (xs (i + 1)) h)
    (dV := 2) ⟨by decide, by decide, wq_1395, wq_11, by decide +kernel⟩ rfl wq_1392 wq_1393 wq_1394 (fun σ Kn h => cd_X10_save hl hI (xs (i + 1)) h) hmc ?_
  intro σ' g1 g2
  exact kk σ' _ g1 g2 (cK_save _ T A hW hT0 hT)
set_option maxRecDepth 20000 in
set_option maxHeartbeats 4000000 in
theorem lr_k30 (C : lw_Cx p l s m args meth c w sl xs) {i T : Nat} {A : aS} (hRA : RA w σ A) (hRD : RD σ A) (hW : WA T A) (hT0 : 1100 ≤ T) (hT : T < 60000) (hi : i + 6 ≤ sl) (hmc : nc + 1 ≤ 601024 ∧ ns + 6 ≤ 7293034) (kk : ∀ (σ' : ab_H) (A' : aS), RA w σ' A' → RD σ' A' → WA (T + 40) A' → lw_M p l e s m args below meth c w Q (nc + 1) (ns + 6) 2139 (lw_L i .null .null) [] σ') : lw_M p l e s m args below meth c w Q nc ns 2083 (lw_L i .null .null) [] σ := by
  have hl : l.stackTraces = false := C.2.2.2.2.2.2.2.2.2.1
  have hI : ab_Inj w := C.2.2.2.2.2.2.2.2.1
  refine lr_case C (i := i) (T := T) (A := A) (f := (c_restore (xs (i + 1)))) hRA hRD hW hT (cE_restore _) (cM_restore _) (As := [.int (xs (i + 1))]) (n := 1) rfl 2090 2103 dL_law_2083 (fun nc ns a b st σ k => lr_sc C (i := i) (j := 1) ⟨dL_law_2084, dL_law_2085, ⟨1, dL_law_2087, by decide⟩, dL_law_2088, dL_law_2089⟩ rfl rfl (by omega) (k)) dL_law_2090 dL_law_2091 dL_law_2094 dL_law_2096 (fun nc ns a b st σ k => lr_sc C (i := i) (j := 1) ⟨dL_law_2097, dL_law_2098, ⟨1, dL_law_2100, by decide⟩, dL_law_2101, dL_law_2102⟩ rfl rfl (by omega) (k)) dL_law_2103 ⟨⟨dL_law_2106, dL_law_2108, dL_law_2109, dL_law_2112, dL_law_2114⟩, dL_law_2119, dL_law_2121, dL_law_2124, dL_law_2125, dL_law_2126, dL_law_2127, dL_law_2129, dL_law_2130, dL_law_2131, 3, dL_law_2136, by omega⟩
    (dS := 8) (by decide) (by decide) wq_973 wq_0 (by decide +kernel) wq_971 wq_972 (fun σ K h => lw_restore hl hI (xs (i + 1)) h)
    (dV := 2) ⟨by decide, by decide, wq_1399, wq_11, by decide +kernel⟩ rfl wq_1396 wq_1397 wq_1398 (fun σ Kn h => cd_X10_restore hl hI (xs (i + 1)) h) hmc ?_
  intro σ' g1 g2
  exact kk σ' _ g1 g2 (cK_restore _ T A hW hT0 hT)
end LRK
