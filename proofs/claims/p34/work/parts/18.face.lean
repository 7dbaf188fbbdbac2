theorem dX9_copyRow_0 : decode cX9_copyRow 0 = .ok (.aload_n 0, 1) := by decide +kernel
theorem dX9_copyRow_1 : decode cX9_copyRow 1 = .ok (.iconst 0, 1) := by decide +kernel
theorem dX9_copyRow_2 : decode cX9_copyRow 2 = .ok (.aload_n 1, 1) := by decide +kernel
theorem dX9_copyRow_3 : decode cX9_copyRow 3 = .ok (.iconst 0, 1) := by decide +kernel
theorem dX9_copyRow_4 : decode cX9_copyRow 4 = .ok (.aload_n 0, 1) := by decide +kernel
theorem dX9_copyRow_5 : decode cX9_copyRow 5 = .ok (.arraylength, 1) := by decide +kernel
theorem dX9_copyRow_6 : decode cX9_copyRow 6 = .ok (.aload_n 1, 1) := by decide +kernel
theorem dX9_copyRow_7 : decode cX9_copyRow 7 = .ok (.arraylength, 1) := by decide +kernel
theorem dX9_copyRow_8 : decode cX9_copyRow 8 = .ok (.invokestatic 374, 3) := by decide +kernel
theorem dX9_copyRow_11 : decode cX9_copyRow 11 = .ok (.invokestatic 377, 3) := by decide +kernel
theorem dX9_copyRow_14 : decode cX9_copyRow 14 = .ok (.return_, 1) := by decide +kernel
def bX9_copyRow_0 (w : ab_W) (M : Nat → ab_P) (Kn : Option Value → ab_H → Prop) : ab_P := ab_ald 0 (ab_ci (nI 0) (ab_ald 1 (ab_ci (nI 0) (ab_ald 0 (ab_al w 11 (ab_ald 1 (ab_al w 11 (ab_mth2 (fun x y => if y < x then y else x) (ab_acp w (ab_vr Kn))))))))))
set_option maxRecDepth 20000 in
set_option maxHeartbeats 2000000 in
theorem vc_X9_copyRow {l : Launch} (hl : l.stackTraces = false) {w : ab_W} (hI : ab_Inj w) {mc : Nat} {σ : ab_H} {As : List Value} {Kn : Option Value → ab_H → Prop} {Kx : String → ab_H → Prop} (hlen : (ab_xl As).length ≤ 2) (h : ∀ M : Nat → ab_P, (∀ L st σ, bX9_copyRow_0 w M Kn L st σ → M 0 L st σ) → M 0 (ab_pd 2 (ab_xl As)) [] σ) : ab_Met l yX9_copyRow (Cond.code yX9_copyRow cX9_copyRow 2 none) 2 mc w σ As Kn Kx := by
  refine ab_enter (by decide) hl hI hlen (by decide) ?_
  intro p e R s m args below meth c C hno hr
  exact h _ (sd_aload_n C (i := 0) dX9_copyRow_0 rfl (sd_iconst C (x := nI 0) dX9_copyRow_1 (by decide +kernel) (sd_aload_n C (i := 1) dX9_copyRow_2 rfl (sd_iconst C (x := nI 0) dX9_copyRow_3 (by decide +kernel) (sd_aload_n C (i := 0) dX9_copyRow_4 rfl (sd_alw C 11 0 (Or.inl rfl) .int rfl dX9_copyRow_5 (sd_aload_n C (i := 1) dX9_copyRow_6 rfl (sd_alw C 11 0 (Or.inl rfl) .int rfl dX9_copyRow_7 (sd_mmin C wd_430 wd_431 wd_16 wd_432 dX9_copyRow_8 (sd_acp C wd_433 wd_435 wd_434 wd_17 (by decide) dX9_copyRow_11 (sd_vr C hr dX9_copyRow_14)))))))))))
theorem dX9_within_0 : decode cX9_within 0 = .ok (.iload_n 0, 1) := by decide +kernel
theorem dX9_within_1 : decode cX9_within 1 = .ok (.iload_n 1, 1) := by decide +kernel
theorem dX9_within_2 : decode cX9_within 2 = .ok (.if_icmp .lt 12, 3) := by decide +kernel
theorem dX9_within_5 : decode cX9_within 5 = .ok (.iload_n 0, 1) := by decide +kernel
theorem dX9_within_6 : decode cX9_within 6 = .ok (.iload_n 2, 1) := by decide +kernel
theorem dX9_within_7 : decode cX9_within 7 = .ok (.if_icmp .gt 7, 3) := by decide +kernel
theorem dX9_within_10 : decode cX9_within 10 = .ok (.iconst 1, 1) := by decide +kernel
theorem dX9_within_11 : decode cX9_within 11 = .ok (.goto 4, 3) := by decide +kernel
theorem dX9_within_14 : decode cX9_within 14 = .ok (.iconst 0, 1) := by decide +kernel
theorem dX9_within_15 : decode cX9_within 15 = .ok (.ireturn, 1) := by decide +kernel
def bX9_within_0 (w : ab_W) (M : Nat → ab_P) (Kn : Option Value → ab_H → Prop) : ab_P := ab_ild 0 (ab_ild 1 (ab_if2 (fun x y => x < y) (M 14) (ab_ild 0 (ab_ild 2 (ab_if2 (fun x y => y < x) (M 14) (ab_ci (nI 1) (M 15)))))))
def bX9_within_14 (w : ab_W) (M : Nat → ab_P) (Kn : Option Value → ab_H → Prop) : ab_P := ab_ci (nI 0) (M 15)
def bX9_within_15 (w : ab_W) (M : Nat → ab_P) (Kn : Option Value → ab_H → Prop) : ab_P := ab_zr Kn
set_option maxRecDepth 20000 in
set_option maxHeartbeats 2000000 in
theorem vc_X9_within {l : Launch} (hl : l.stackTraces = false) {w : ab_W} (hI : ab_Inj w) {mc : Nat} {σ : ab_H} {As : List Value} {Kn : Option Value → ab_H → Prop} {Kx : String → ab_H → Prop} (hlen : (ab_xl As).length ≤ 3) (h : ∀ M : Nat → ab_P, (∀ L st σ, bX9_within_0 w M Kn L st σ → M 0 L st σ) → (∀ L st σ, bX9_within_14 w M Kn L st σ → M 14 L st σ) → (∀ L st σ, bX9_within_15 w M Kn L st σ → M 15 L st σ) → M 0 (ab_pd 3 (ab_xl As)) [] σ) : ab_Met l yX9_within (Cond.code yX9_within cX9_within 3 (some .boolean)) 1 mc w σ As Kn Kx := by
  refine ab_enter (by decide) hl hI hlen (by decide) ?_
  intro p e R s m args below meth c C hno hr
  exact h _ (sd_iload_n C (i := 0) dX9_within_0 rfl (sd_iload_n C (i := 1) dX9_within_1 rfl (sd_icmp_lt C dX9_within_2 (tgt := 14) (by decide) (fun _ _ _ h => h) (sd_iload_n C (i := 0) dX9_within_5 rfl (sd_iload_n C (i := 2) dX9_within_6 rfl (sd_icmp_gt C dX9_within_7 (tgt := 14) (by decide) (fun _ _ _ h => h) (sd_iconst C (x := nI 1) dX9_within_10 (by decide +kernel) (sd_goto C dX9_within_11 (tgt := 15) (by decide) (fun _ _ _ h => h)))))))))
    (sd_iconst C (x := nI 0) dX9_within_14 (by decide +kernel) (fun _ _ _ h => h))
    (sd_zr C hr dX9_within_15)
theorem dX9_append_0 : decode cX9_append 0 = .ok (.iload_n 1, 1) := by decide +kernel
theorem dX9_append_1 : decode cX9_append 1 = .ok (.iconst 0, 1) := by decide +kernel
theorem dX9_append_2 : decode cX9_append 2 = .ok (.sipush 255, 3) := by decide +kernel
theorem dX9_append_5 : decode cX9_append 5 = .ok (.invokestatic 46, 3) := by decide +kernel
theorem dX9_append_8 : decode cX9_append 8 = .ok (.ifCond .ne 13, 3) := by decide +kernel
theorem dX9_append_11 : decode cX9_append 11 = .ok (.new 50, 3) := by decide +kernel
theorem dX9_append_14 : decode cX9_append 14 = .ok (.dup, 1) := by decide +kernel
theorem dX9_append_15 : decode cX9_append 15 = .ok (.ldc 52, 2) := by decide +kernel
theorem dX9_append_17 : decode cX9_append 17 = .ok (.invokespecial 54, 3) := by decide +kernel
theorem dX9_append_20 : decode cX9_append 20 = .ok (.athrow, 1) := by decide +kernel
theorem dX9_append_21 : decode cX9_append 21 = .ok (.aload_n 0, 1) := by decide +kernel
theorem dX9_append_22 : decode cX9_append 22 = .ok (.getfield 10, 3) := by decide +kernel
theorem dX9_append_25 : decode cX9_append 25 = .ok (.getfield 57, 3) := by decide +kernel
theorem dX9_append_28 : decode cX9_append 28 = .ok (.bipush 120, 2) := by decide +kernel
theorem dX9_append_30 : decode cX9_append 30 = .ok (.if_icmp .lt 13, 3) := by decide +kernel
theorem dX9_append_33 : decode cX9_append 33 = .ok (.new 61, 3) := by decide +kernel
theorem dX9_append_36 : decode cX9_append 36 = .ok (.dup, 1) := by decide +kernel
theorem dX9_append_37 : decode cX9_append 37 = .ok (.ldc 63, 2) := by decide +kernel
theorem dX9_append_39 : decode cX9_append 39 = .ok (.invokespecial 65, 3) := by decide +kernel
theorem dX9_append_42 : decode cX9_append 42 = .ok (.athrow, 1) := by decide +kernel
theorem dX9_append_43 : decode cX9_append 43 = .ok (.aload_n 0, 1) := by decide +kernel
theorem dX9_append_44 : decode cX9_append 44 = .ok (.getfield 10, 3) := by decide +kernel
theorem dX9_append_47 : decode cX9_append 47 = .ok (.iload_n 1, 1) := by decide +kernel
theorem dX9_append_48 : decode cX9_append 48 = .ok (.i2c, 1) := by decide +kernel
theorem dX9_append_49 : decode cX9_append 49 = .ok (.invokevirtual 66, 3) := by decide +kernel
theorem dX9_append_52 : decode cX9_append 52 = .ok (.aload_n 0, 1) := by decide +kernel
theorem dX9_append_53 : decode cX9_append 53 = .ok (.getfield 10, 3) := by decide +kernel
theorem dX9_append_56 : decode cX9_append 56 = .ok (.getfield 57, 3) := by decide +kernel
theorem dX9_append_59 : decode cX9_append 59 = .ok (.ireturn, 1) := by decide +kernel
def bX9_append_0 (w : ab_W) (mc : Nat) (s_X9_within : ab_S) (s_X8_add : ab_S) (M : Nat → ab_P) (Kn : Option Value → ab_H → Prop) (Kx : String → ab_H → Prop) : ab_P := ab_ild 1 (ab_ci (nI 0) (ab_ci (nI 255) (ab_cN w 3 s_X9_within (ab_if1 (fun x => ¬ x = 0) (ab_ald 0 (ab_gr w 9 1 (ab_gf w 8 1 (ab_ci (nI 120) (ab_if2 (fun x y => x < y) (ab_ald 0 (ab_gr w 9 1 (ab_ild 1 (ab_u1 (fun x => (x.toUInt32 % 65536).toInt32) (ab_cV w 2 8 s_X8_add (ab_ald 0 (ab_gr w 9 1 (ab_gf w 8 1 (ab_ir Kn))))))))) (ab_th mc "java/lang/IllegalStateException" Kx)))))) (ab_th mc "java/lang/IllegalArgumentException" Kx)))))
set_option maxRecDepth 20000 in
set_option maxHeartbeats 2000000 in
theorem vc_X9_append {l : Launch} (hl : l.stackTraces = false) {w : ab_W} (hI : ab_Inj w) {mc : Nat} {σ : ab_H} {As : List Value} {Kn : Option Value → ab_H → Prop} {Kx : String → ab_H → Prop} {s_X9_within : ab_S} (ok_X9_within : ab_OkN l yX9_within (Cond.code yX9_within cX9_within 3 (some .boolean)) 1 s_X9_within) {s_X8_add : ab_S} (ok_X8_add : ab_OkN l yX8_add (Cond.code yX8_add cX8_add 2 none) 1 s_X8_add) (hlen : (ab_xl As).length ≤ 2) (h : ∀ M : Nat → ab_P, (∀ L st σ, bX9_append_0 w mc s_X9_within s_X8_add M Kn Kx L st σ → M 0 L st σ) → M 0 (ab_pd 2 (ab_xl As)) [] σ) : ab_Met l yX9_append (Cond.code yX9_append cX9_append 2 (some .int)) 6 mc w σ As Kn Kx := by
  refine ab_enter (by decide) hl hI hlen (by decide) ?_
  intro p e R s m args below meth c C hno hr
  exact h _ (sd_iload_n C (i := 1) dX9_append_0 rfl (sd_iconst C (x := nI 0) dX9_append_1 (by decide +kernel) (sd_sipush C (x := nI 255) dX9_append_2 (by decide +kernel) (sd_cS C ok_X9_within ⟨by decide, by decide, wd_477, wd_1, by decide +kernel⟩ wd_618 wd_476 dX9_append_5 (sd_if_ne C dX9_append_8 (tgt := 21) (by decide) (sd_aload_n C (i := 0) dX9_append_21 rfl (sd_gr C (ci := 9) (k := 0) (r := (RX9, TX9, 7)) rfl (by decide) rfl wd_292 dX9_append_22 (sd_gf C (ci := 8) (k := 1) (r := (RX8, TX8, 5)) rfl (by decide) rfl wd_35 dX9_append_25 (sd_bipush C (x := nI 120) dX9_append_28 (by decide +kernel) (sd_icmp_lt C dX9_append_30 (tgt := 43) (by decide) (sd_aload_n C (i := 0) dX9_append_43 rfl (sd_gr C (ci := 9) (k := 0) (r := (RX9, TX9, 7)) rfl (by decide) rfl wd_292 dX9_append_44 (sd_iload_n C (i := 1) dX9_append_47 rfl (sd_i2c C dX9_append_48 (sd_cV C ok_X8_add (ci := 8) (row := (RX8, TX8, 5)) rfl rfl ⟨by decide, by decide, wd_971, wd_2, by decide +kernel⟩ wd_968 wd_969 wd_970 dX9_append_49 (sd_aload_n C (i := 0) dX9_append_52 rfl (sd_gr C (ci := 9) (k := 0) (r := (RX9, TX9, 7)) rfl (by decide) rfl wd_292 dX9_append_53 (sd_gf C (ci := 8) (k := 1) (r := (RX8, TX8, 5)) rfl (by decide) rfl wd_35 dX9_append_56 (sd_ir C hr dX9_append_59))))))))) (sd_th C hno (text := "the text is full") (by decide) tw_61_65 wd_351 wd_18 (by decide +kernel) (by decide) dX9_append_33 dX9_append_36 dX9_append_37 dX9_append_39 dX9_append_42)))))) (sd_th C hno (text := "a character code is 0 to 255") (by decide) tw_50_54 wd_668 wd_14 (by decide +kernel) (by decide) dX9_append_11 dX9_append_14 dX9_append_15 dX9_append_17 dX9_append_20))))))
theorem dX9_clearText_0 : decode cX9_clearText 0 = .ok (.aload_n 0, 1) := by decide +kernel
theorem dX9_clearText_1 : decode cX9_clearText 1 = .ok (.getfield 10, 3) := by decide +kernel
theorem dX9_clearText_4 : decode cX9_clearText 4 = .ok (.getfield 57, 3) := by decide +kernel
theorem dX9_clearText_7 : decode cX9_clearText 7 = .ok (.istore_n 1, 1) := by decide +kernel
theorem dX9_clearText_8 : decode cX9_clearText 8 = .ok (.aload_n 0, 1) := by decide +kernel
theorem dX9_clearText_9 : decode cX9_clearText 9 = .ok (.getfield 10, 3) := by decide +kernel
theorem dX9_clearText_12 : decode cX9_clearText 12 = .ok (.iconst 0, 1) := by decide +kernel
theorem dX9_clearText_13 : decode cX9_clearText 13 = .ok (.putfield 57, 3) := by decide +kernel
theorem dX9_clearText_16 : decode cX9_clearText 16 = .ok (.iload_n 1, 1) := by decide +kernel
theorem dX9_clearText_17 : decode cX9_clearText 17 = .ok (.ireturn, 1) := by decide +kernel
def bX9_clearText_0 (w : ab_W) (M : Nat → ab_P) (Kn : Option Value → ab_H → Prop) : ab_P := ab_ald 0 (ab_gr w 9 1 (ab_gf w 8 1 (ab_ist 1 (ab_ald 0 (ab_gr w 9 1 (ab_ci (nI 0) (ab_pf w 8 1 (ab_ild 1 (ab_ir Kn)))))))))
set_option maxRecDepth 20000 in
set_option maxHeartbeats 2000000 in
theorem vc_X9_clearText {l : Launch} (hl : l.stackTraces = false) {w : ab_W} (hI : ab_Inj w) {mc : Nat} {σ : ab_H} {As : List Value} {Kn : Option Value → ab_H → Prop} {Kx : String → ab_H → Prop} (hlen : (ab_xl As).length ≤ 2) (h : ∀ M : Nat → ab_P, (∀ L st σ, bX9_clearText_0 w M Kn L st σ → M 0 L st σ) → M 0 (ab_pd 2 (ab_xl As)) [] σ) : ab_Met l yX9_clearText (Cond.code yX9_clearText cX9_clearText 2 (some .int)) 1 mc w σ As Kn Kx := by
  refine ab_enter (by decide) hl hI hlen (by decide) ?_
  intro p e R s m args below meth c C hno hr
  exact h _ (sd_aload_n C (i := 0) dX9_clearText_0 rfl (sd_gr C (ci := 9) (k := 0) (r := (RX9, TX9, 7)) rfl (by decide) rfl wd_292 dX9_clearText_1 (sd_gf C (ci := 8) (k := 1) (r := (RX8, TX8, 5)) rfl (by decide) rfl wd_35 dX9_clearText_4 (sd_istore_n C (i := 1) dX9_clearText_7 rfl (by decide) (sd_aload_n C (i := 0) dX9_clearText_8 rfl (sd_gr C (ci := 9) (k := 0) (r := (RX9, TX9, 7)) rfl (by decide) rfl wd_292 dX9_clearText_9 (sd_iconst C (x := nI 0) dX9_clearText_12 (by decide +kernel) (sd_pf C (ci := 8) (k := 1) (r := (RX8, TX8, 5)) rfl (by decide) rfl rfl (by decide +kernel) wd_35 dX9_clearText_13 (sd_iload_n C (i := 1) dX9_clearText_16 rfl (sd_ir C hr dX9_clearText_17))))))))))
theorem dX9_errorPosition_0 : decode cX9_errorPosition 0 = .ok (.aload_n 0, 1) := by decide +kernel
theorem dX9_errorPosition_1 : decode cX9_errorPosition 1 = .ok (.getfield 10, 3) := by decide +kernel
theorem dX9_errorPosition_4 : decode cX9_errorPosition 4 = .ok (.invokevirtual 70, 3) := by decide +kernel
theorem dX9_errorPosition_7 : decode cX9_errorPosition 7 = .ok (.ireturn, 1) := by decide +kernel
def bX9_errorPosition_0 (w : ab_W) (s_X8_firstError : ab_S) (M : Nat → ab_P) (Kn : Option Value → ab_H → Prop) : ab_P := ab_ald 0 (ab_gr w 9 1 (ab_cV w 1 8 s_X8_firstError (ab_ir Kn)))
set_option maxRecDepth 20000 in
set_option maxHeartbeats 2000000 in
theorem vc_X9_errorPosition {l : Launch} (hl : l.stackTraces = false) {w : ab_W} (hI : ab_Inj w) {mc : Nat} {σ : ab_H} {As : List Value} {Kn : Option Value → ab_H → Prop} {Kx : String → ab_H → Prop} {s_X8_firstError : ab_S} (ok_X8_firstError : ab_OkN l yX8_firstError (Cond.code yX8_firstError cX8_firstError 3 (some .int)) 4 s_X8_firstError) (hlen : (ab_xl As).length ≤ 1) (h : ∀ M : Nat → ab_P, (∀ L st σ, bX9_errorPosition_0 w s_X8_firstError M Kn L st σ → M 0 L st σ) → M 0 (ab_pd 1 (ab_xl As)) [] σ) : ab_Met l yX9_errorPosition (Cond.code yX9_errorPosition cX9_errorPosition 1 (some .int)) 5 mc w σ As Kn Kx := by
  refine ab_enter (by decide) hl hI hlen (by decide) ?_
  intro p e R s m args below meth c C hno hr
  exact h _ (sd_aload_n C (i := 0) dX9_errorPosition_0 rfl (sd_gr C (ci := 9) (k := 0) (r := (RX9, TX9, 7)) rfl (by decide) rfl wd_292 dX9_errorPosition_1 (sd_cV C ok_X8_firstError (ci := 8) (row := (RX8, TX8, 5)) rfl rfl ⟨by decide, by decide, wd_330, wd_2, by decide +kernel⟩ wd_327 wd_328 wd_329 dX9_errorPosition_4 (sd_ir C hr dX9_errorPosition_7))))
theorem dX9_doReadCommand_0 : decode cX9_doReadCommand 0 = .ok (.aload_n 0, 1) := by decide +kernel
theorem dX9_doReadCommand_1 : decode cX9_doReadCommand 1 = .ok (.getfield 10, 3) := by decide +kernel
theorem dX9_doReadCommand_4 : decode cX9_doReadCommand 4 = .ok (.getfield 97, 3) := by decide +kernel
theorem dX9_doReadCommand_7 : decode cX9_doReadCommand 7 = .ok (.astore_n 1, 1) := by decide +kernel
theorem dX9_doReadCommand_8 : decode cX9_doReadCommand 8 = .ok (.aload_n 0, 1) := by decide +kernel
theorem dX9_doReadCommand_9 : decode cX9_doReadCommand 9 = .ok (.getfield 10, 3) := by decide +kernel
theorem dX9_doReadCommand_12 : decode cX9_doReadCommand 12 = .ok (.getfield 101, 3) := by decide +kernel
theorem dX9_doReadCommand_15 : decode cX9_doReadCommand 15 = .ok (.lookupswitch 116 #[(100, 99), (102, 64), (115, 41), (119, 81)], 41) := by decide +kernel
theorem dX9_doReadCommand_56 : decode cX9_doReadCommand 56 = .ok (.aload_n 0, 1) := by decide +kernel
theorem dX9_doReadCommand_57 : decode cX9_doReadCommand 57 = .ok (.getfield 19, 3) := by decide +kernel
theorem dX9_doReadCommand_60 : decode cX9_doReadCommand 60 = .ok (.aload_n 1, 1) := by decide +kernel
theorem dX9_doReadCommand_61 : decode cX9_doReadCommand 61 = .ok (.iconst 0, 1) := by decide +kernel
theorem dX9_doReadCommand_62 : decode cX9_doReadCommand 62 = .ok (.iaload, 1) := by decide +kernel
theorem dX9_doReadCommand_63 : decode cX9_doReadCommand 63 = .ok (.aload_n 1, 1) := by decide +kernel
theorem dX9_doReadCommand_64 : decode cX9_doReadCommand 64 = .ok (.iconst 1, 1) := by decide +kernel
theorem dX9_doReadCommand_65 : decode cX9_doReadCommand 65 = .ok (.iaload, 1) := by decide +kernel
theorem dX9_doReadCommand_66 : decode cX9_doReadCommand 66 = .ok (.aload_n 1, 1) := by decide +kernel
theorem dX9_doReadCommand_67 : decode cX9_doReadCommand 67 = .ok (.iconst 2, 1) := by decide +kernel
theorem dX9_doReadCommand_68 : decode cX9_doReadCommand 68 = .ok (.iaload, 1) := by decide +kernel
theorem dX9_doReadCommand_69 : decode cX9_doReadCommand 69 = .ok (.aload_n 1, 1) := by decide +kernel
theorem dX9_doReadCommand_70 : decode cX9_doReadCommand 70 = .ok (.iconst 3, 1) := by decide +kernel
theorem dX9_doReadCommand_71 : decode cX9_doReadCommand 71 = .ok (.iaload, 1) := by decide +kernel
theorem dX9_doReadCommand_72 : decode cX9_doReadCommand 72 = .ok (.aload_n 1, 1) := by decide +kernel
theorem dX9_doReadCommand_73 : decode cX9_doReadCommand 73 = .ok (.iconst 4, 1) := by decide +kernel
theorem dX9_doReadCommand_74 : decode cX9_doReadCommand 74 = .ok (.iaload, 1) := by decide +kernel
theorem dX9_doReadCommand_75 : decode cX9_doReadCommand 75 = .ok (.invokevirtual 105, 3) := by decide +kernel
theorem dX9_doReadCommand_78 : decode cX9_doReadCommand 78 = .ok (.ireturn, 1) := by decide +kernel
theorem dX9_doReadCommand_79 : decode cX9_doReadCommand 79 = .ok (.aload_n 0, 1) := by decide +kernel
theorem dX9_doReadCommand_80 : decode cX9_doReadCommand 80 = .ok (.getfield 19, 3) := by decide +kernel
theorem dX9_doReadCommand_83 : decode cX9_doReadCommand 83 = .ok (.aload_n 1, 1) := by decide +kernel
theorem dX9_doReadCommand_84 : decode cX9_doReadCommand 84 = .ok (.iconst 0, 1) := by decide +kernel
theorem dX9_doReadCommand_85 : decode cX9_doReadCommand 85 = .ok (.iaload, 1) := by decide +kernel
theorem dX9_doReadCommand_86 : decode cX9_doReadCommand 86 = .ok (.aload_n 1, 1) := by decide +kernel
theorem dX9_doReadCommand_87 : decode cX9_doReadCommand 87 = .ok (.iconst 1, 1) := by decide +kernel
theorem dX9_doReadCommand_88 : decode cX9_doReadCommand 88 = .ok (.iaload, 1) := by decide +kernel
theorem dX9_doReadCommand_89 : decode cX9_doReadCommand 89 = .ok (.aload_n 1, 1) := by decide +kernel
theorem dX9_doReadCommand_90 : decode cX9_doReadCommand 90 = .ok (.iconst 2, 1) := by decide +kernel
theorem dX9_doReadCommand_91 : decode cX9_doReadCommand 91 = .ok (.iaload, 1) := by decide +kernel
theorem dX9_doReadCommand_92 : decode cX9_doReadCommand 92 = .ok (.invokevirtual 109, 3) := by decide +kernel
theorem dX9_doReadCommand_95 : decode cX9_doReadCommand 95 = .ok (.ireturn, 1) := by decide +kernel
theorem dX9_doReadCommand_96 : decode cX9_doReadCommand 96 = .ok (.aload_n 0, 1) := by decide +kernel
theorem dX9_doReadCommand_97 : decode cX9_doReadCommand 97 = .ok (.getfield 19, 3) := by decide +kernel
theorem dX9_doReadCommand_100 : decode cX9_doReadCommand 100 = .ok (.aload_n 1, 1) := by decide +kernel
theorem dX9_doReadCommand_101 : decode cX9_doReadCommand 101 = .ok (.iconst 0, 1) := by decide +kernel
theorem dX9_doReadCommand_102 : decode cX9_doReadCommand 102 = .ok (.iaload, 1) := by decide +kernel
theorem dX9_doReadCommand_103 : decode cX9_doReadCommand 103 = .ok (.aload_n 1, 1) := by decide +kernel
theorem dX9_doReadCommand_104 : decode cX9_doReadCommand 104 = .ok (.iconst 1, 1) := by decide +kernel
theorem dX9_doReadCommand_105 : decode cX9_doReadCommand 105 = .ok (.iaload, 1) := by decide +kernel
theorem dX9_doReadCommand_106 : decode cX9_doReadCommand 106 = .ok (.aload_n 1, 1) := by decide +kernel
theorem dX9_doReadCommand_107 : decode cX9_doReadCommand 107 = .ok (.iconst 2, 1) := by decide +kernel
theorem dX9_doReadCommand_108 : decode cX9_doReadCommand 108 = .ok (.iaload, 1) := by decide +kernel
theorem dX9_doReadCommand_109 : decode cX9_doReadCommand 109 = .ok (.imul, 1) := by decide +kernel
theorem dX9_doReadCommand_110 : decode cX9_doReadCommand 110 = .ok (.invokevirtual 112, 3) := by decide +kernel
theorem dX9_doReadCommand_113 : decode cX9_doReadCommand 113 = .ok (.ireturn, 1) := by decide +kernel
theorem dX9_doReadCommand_114 : decode cX9_doReadCommand 114 = .ok (.aload_n 0, 1) := by decide +kernel
theorem dX9_doReadCommand_115 : decode cX9_doReadCommand 115 = .ok (.getfield 19, 3) := by decide +kernel
theorem dX9_doReadCommand_118 : decode cX9_doReadCommand 118 = .ok (.aload_n 1, 1) := by decide +kernel
theorem dX9_doReadCommand_119 : decode cX9_doReadCommand 119 = .ok (.iconst 0, 1) := by decide +kernel
theorem dX9_doReadCommand_120 : decode cX9_doReadCommand 120 = .ok (.iaload, 1) := by decide +kernel
theorem dX9_doReadCommand_121 : decode cX9_doReadCommand 121 = .ok (.aload_n 1, 1) := by decide +kernel
theorem dX9_doReadCommand_122 : decode cX9_doReadCommand 122 = .ok (.iconst 1, 1) := by decide +kernel
theorem dX9_doReadCommand_123 : decode cX9_doReadCommand 123 = .ok (.iaload, 1) := by decide +kernel
theorem dX9_doReadCommand_124 : decode cX9_doReadCommand 124 = .ok (.aload_n 1, 1) := by decide +kernel
theorem dX9_doReadCommand_125 : decode cX9_doReadCommand 125 = .ok (.iconst 2, 1) := by decide +kernel
theorem dX9_doReadCommand_126 : decode cX9_doReadCommand 126 = .ok (.iaload, 1) := by decide +kernel
theorem dX9_doReadCommand_127 : decode cX9_doReadCommand 127 = .ok (.invokevirtual 116, 3) := by decide +kernel
theorem dX9_doReadCommand_130 : decode cX9_doReadCommand 130 = .ok (.ireturn, 1) := by decide +kernel
theorem dX9_doReadCommand_131 : decode cX9_doReadCommand 131 = .ok (.aload_n 0, 1) := by decide +kernel
theorem dX9_doReadCommand_132 : decode cX9_doReadCommand 132 = .ok (.getfield 19, 3) := by decide +kernel
theorem dX9_doReadCommand_135 : decode cX9_doReadCommand 135 = .ok (.aload_n 1, 1) := by decide +kernel
theorem dX9_doReadCommand_136 : decode cX9_doReadCommand 136 = .ok (.iconst 0, 1) := by decide +kernel
theorem dX9_doReadCommand_137 : decode cX9_doReadCommand 137 = .ok (.iaload, 1) := by decide +kernel
theorem dX9_doReadCommand_138 : decode cX9_doReadCommand 138 = .ok (.bipush 40, 2) := by decide +kernel
theorem dX9_doReadCommand_140 : decode cX9_doReadCommand 140 = .ok (.invokevirtual 119, 3) := by decide +kernel
theorem dX9_doReadCommand_143 : decode cX9_doReadCommand 143 = .ok (.ireturn, 1) := by decide +kernel
def bX9_doReadCommand_0 (w : ab_W) (s_X3_tryOrder : ab_S) (s_X3_tryFinder : ab_S) (s_X3_tryStation : ab_S) (s_X3_tryWind : ab_S) (s_X3_tryWatches : ab_S) (M : Nat → ab_P) (Kn : Option Value → ab_H → Prop) : ab_P := ab_ald 0 (ab_gr w 9 1 (ab_gr w 8 2 (ab_ast 1 (ab_ald 0 (ab_gr w 9 1 (ab_gf w 8 3 (ab_sw [(nI 100, ab_ald 0 (ab_gr w 9 40 (ab_ald 1 (ab_ci (nI 0) (ab_ia w 11 (ab_ald 1 (ab_ci (nI 1) (ab_ia w 11 (ab_ald 1 (ab_ci (nI 2) (ab_ia w 11 (ab_cV w 4 3 s_X3_tryOrder (ab_zr Kn))))))))))))), (nI 102, ab_ald 0 (ab_gr w 9 40 (ab_ald 1 (ab_ci (nI 0) (ab_ia w 11 (ab_ald 1 (ab_ci (nI 1) (ab_ia w 11 (ab_ald 1 (ab_ci (nI 2) (ab_ia w 11 (ab_cV w 4 3 s_X3_tryFinder (ab_zr Kn))))))))))))), (nI 115, ab_ald 0 (ab_gr w 9 40 (ab_ald 1 (ab_ci (nI 0) (ab_ia w 11 (ab_ald 1 (ab_ci (nI 1) (ab_ia w 11 (ab_ald 1 (ab_ci (nI 2) (ab_ia w 11 (ab_ald 1 (ab_ci (nI 3) (ab_ia w 11 (ab_ald 1 (ab_ci (nI 4) (ab_ia w 11 (ab_cV w 6 3 s_X3_tryStation (ab_zr Kn))))))))))))))))))), (nI 119, ab_ald 0 (ab_gr w 9 40 (ab_ald 1 (ab_ci (nI 0) (ab_ia w 11 (ab_ald 1 (ab_ci (nI 1) (ab_ia w 11 (ab_ald 1 (ab_ci (nI 2) (ab_ia w 11 (ab_b2 (fun x y => x * y) (ab_cV w 3 3 s_X3_tryWind (ab_zr Kn))))))))))))))] (ab_ald 0 (ab_gr w 9 40 (ab_ald 1 (ab_ci (nI 0) (ab_ia w 11 (ab_ci (nI 40) (ab_cV w 3 3 s_X3_tryWatches (ab_zr Kn)))))))))))))))
set_option maxRecDepth 20000 in
set_option maxHeartbeats 2000000 in
theorem vc_X9_doReadCommand {l : Launch} (hl : l.stackTraces = false) {w : ab_W} (hI : ab_Inj w) {mc : Nat} {σ : ab_H} {As : List Value} {Kn : Option Value → ab_H → Prop} {Kx : String → ab_H → Prop} {s_X3_tryOrder : ab_S} (ok_X3_tryOrder : ab_OkN l yX3_tryOrder (Cond.code yX3_tryOrder cX3_tryOrder 4 (some .boolean)) 3 s_X3_tryOrder) {s_X3_tryFinder : ab_S} (ok_X3_tryFinder : ab_OkN l yX3_tryFinder (Cond.code yX3_tryFinder cX3_tryFinder 4 (some .boolean)) 3 s_X3_tryFinder) {s_X3_tryStation : ab_S} (ok_X3_tryStation : ab_OkN l yX3_tryStation (Cond.code yX3_tryStation cX3_tryStation 6 (some .boolean)) 3 s_X3_tryStation) {s_X3_tryWind : ab_S} (ok_X3_tryWind : ab_OkN l yX3_tryWind (Cond.code yX3_tryWind cX3_tryWind 3 (some .boolean)) 3 s_X3_tryWind) {s_X3_tryWatches : ab_S} (ok_X3_tryWatches : ab_OkN l yX3_tryWatches (Cond.code yX3_tryWatches cX3_tryWatches 4 (some .boolean)) 5 s_X3_tryWatches) (hlen : (ab_xl As).length ≤ 2) (h : ∀ M : Nat → ab_P, (∀ L st σ, bX9_doReadCommand_0 w s_X3_tryOrder s_X3_tryFinder s_X3_tryStation s_X3_tryWind s_X3_tryWatches M Kn L st σ → M 0 L st σ) → M 0 (ab_pd 2 (ab_xl As)) [] σ) : ab_Met l yX9_doReadCommand (Cond.code yX9_doReadCommand cX9_doReadCommand 2 (some .boolean)) 6 mc w σ As Kn Kx := by
  refine ab_enter (by decide) hl hI hlen (by decide) ?_
  intro p e R s m args below meth c C hno hr
  exact h _ (sd_aload_n C (i := 0) dX9_doReadCommand_0 rfl (sd_gr C (ci := 9) (k := 0) (r := (RX9, TX9, 7)) rfl (by decide) rfl wd_292 dX9_doReadCommand_1 (sd_gr C (ci := 8) (k := 4) (r := (RX8, TX8, 5)) rfl (by decide) rfl wd_40 dX9_doReadCommand_4 (sd_astore_n C (i := 1) dX9_doReadCommand_7 rfl (by decide) (sd_aload_n C (i := 0) dX9_doReadCommand_8 rfl (sd_gr C (ci := 9) (k := 0) (r := (RX9, TX9, 7)) rfl (by decide) rfl wd_292 dX9_doReadCommand_9 (sd_gf C (ci := 8) (k := 3) (r := (RX8, TX8, 5)) rfl (by decide) rfl wd_38 dX9_doReadCommand_12 (sd_lookup C (td := 131) dX9_doReadCommand_15 (by decide +kernel) (by decide +kernel : _ = ([nI 100, nI 102, nI 115, nI 119] : List Int32).map (fun q => q.toInt)) (List.forall_mem_cons.mpr ⟨⟨99, 114, (by decide +kernel : Op.lookupswitch.offset (#[(100, 99), (102, 64), (115, 41), (119, 81)] : Array (Int × Int)).toList 116 (nI 100 : Int32).toInt = 99), (by decide), (sd_aload_n C (i := 0) dX9_doReadCommand_114 rfl (sd_gr C (ci := 9) (k := 1) (r := (RX9, TX9, 7)) rfl (by decide) rfl wd_293 dX9_doReadCommand_115 (sd_aload_n C (i := 1) dX9_doReadCommand_118 rfl (sd_iconst C (x := nI 0) dX9_doReadCommand_119 (by decide +kernel) (sd_ia C dX9_doReadCommand_120 (sd_aload_n C (i := 1) dX9_doReadCommand_121 rfl (sd_iconst C (x := nI 1) dX9_doReadCommand_122 (by decide +kernel) (sd_ia C dX9_doReadCommand_123 (sd_aload_n C (i := 1) dX9_doReadCommand_124 rfl (sd_iconst C (x := nI 2) dX9_doReadCommand_125 (by decide +kernel) (sd_ia C dX9_doReadCommand_126 (sd_cV C ok_X3_tryOrder (ci := 3) (row := (RX3, TX3, 13)) rfl rfl ⟨by decide, by decide, wd_513, wd_3, by decide +kernel⟩ wd_510 wd_511 wd_512 dX9_doReadCommand_127 (sd_zr C hr dX9_doReadCommand_130)))))))))))))⟩, (List.forall_mem_cons.mpr ⟨⟨64, 79, (by decide +kernel : Op.lookupswitch.offset (#[(100, 99), (102, 64), (115, 41), (119, 81)] : Array (Int × Int)).toList 116 (nI 102 : Int32).toInt = 64), (by decide), (sd_aload_n C (i := 0) dX9_doReadCommand_79 rfl (sd_gr C (ci := 9) (k := 1) (r := (RX9, TX9, 7)) rfl (by decide) rfl wd_293 dX9_doReadCommand_80 (sd_aload_n C (i := 1) dX9_doReadCommand_83 rfl (sd_iconst C (x := nI 0) dX9_doReadCommand_84 (by decide +kernel) (sd_ia C dX9_doReadCommand_85 (sd_aload_n C (i := 1) dX9_doReadCommand_86 rfl (sd_iconst C (x := nI 1) dX9_doReadCommand_87 (by decide +kernel) (sd_ia C dX9_doReadCommand_88 (sd_aload_n C (i := 1) dX9_doReadCommand_89 rfl (sd_iconst C (x := nI 2) dX9_doReadCommand_90 (by decide +kernel) (sd_ia C dX9_doReadCommand_91 (sd_cV C ok_X3_tryFinder (ci := 3) (row := (RX3, TX3, 13)) rfl rfl ⟨by decide, by decide, wd_493, wd_3, by decide +kernel⟩ wd_490 wd_491 wd_492 dX9_doReadCommand_92 (sd_zr C hr dX9_doReadCommand_95)))))))))))))⟩, (List.forall_mem_cons.mpr ⟨⟨41, 56, (by decide +kernel : Op.lookupswitch.offset (#[(100, 99), (102, 64), (115, 41), (119, 81)] : Array (Int × Int)).toList 116 (nI 115 : Int32).toInt = 41), (by decide), (sd_aload_n C (i := 0) dX9_doReadCommand_56 rfl (sd_gr C (ci := 9) (k := 1) (r := (RX9, TX9, 7)) rfl (by decide) rfl wd_293 dX9_doReadCommand_57 (sd_aload_n C (i := 1) dX9_doReadCommand_60 rfl (sd_iconst C (x := nI 0) dX9_doReadCommand_61 (by decide +kernel) (sd_ia C dX9_doReadCommand_62 (sd_aload_n C (i := 1) dX9_doReadCommand_63 rfl (sd_iconst C (x := nI 1) dX9_doReadCommand_64 (by decide +kernel) (sd_ia C dX9_doReadCommand_65 (sd_aload_n C (i := 1) dX9_doReadCommand_66 rfl (sd_iconst C (x := nI 2) dX9_doReadCommand_67 (by decide +kernel) (sd_ia C dX9_doReadCommand_68 (sd_aload_n C (i := 1) dX9_doReadCommand_69 rfl (sd_iconst C (x := nI 3) dX9_doReadCommand_70 (by decide +kernel) (sd_ia C dX9_doReadCommand_71 (sd_aload_n C (i := 1) dX9_doReadCommand_72 rfl (sd_iconst C (x := nI 4) dX9_doReadCommand_73 (by decide +kernel) (sd_ia C dX9_doReadCommand_74 (sd_cV C ok_X3_tryStation (ci := 3) (row := (RX3, TX3, 13)) rfl rfl ⟨by decide, by decide, wd_470, wd_3, by decide +kernel⟩ wd_467 wd_468 wd_469 dX9_doReadCommand_75 (sd_zr C hr dX9_doReadCommand_78)))))))))))))))))))⟩, (List.forall_mem_cons.mpr ⟨⟨81, 96, (by decide +kernel : Op.lookupswitch.offset (#[(100, 99), (102, 64), (115, 41), (119, 81)] : Array (Int × Int)).toList 116 (nI 119 : Int32).toInt = 81), (by decide), (sd_aload_n C (i := 0) dX9_doReadCommand_96 rfl (sd_gr C (ci := 9) (k := 1) (r := (RX9, TX9, 7)) rfl (by decide) rfl wd_293 dX9_doReadCommand_97 (sd_aload_n C (i := 1) dX9_doReadCommand_100 rfl (sd_iconst C (x := nI 0) dX9_doReadCommand_101 (by decide +kernel) (sd_ia C dX9_doReadCommand_102 (sd_aload_n C (i := 1) dX9_doReadCommand_103 rfl (sd_iconst C (x := nI 1) dX9_doReadCommand_104 (by decide +kernel) (sd_ia C dX9_doReadCommand_105 (sd_aload_n C (i := 1) dX9_doReadCommand_106 rfl (sd_iconst C (x := nI 2) dX9_doReadCommand_107 (by decide +kernel) (sd_ia C dX9_doReadCommand_108 (sd_imul C dX9_doReadCommand_109 (sd_cV C ok_X3_tryWind (ci := 3) (row := (RX3, TX3, 13)) rfl rfl ⟨by decide, by decide, wd_505, wd_3, by decide +kernel⟩ wd_502 wd_503 wd_504 dX9_doReadCommand_110 (sd_zr C hr dX9_doReadCommand_113))))))))))))))⟩, (fun _ h => absurd h List.not_mem_nil)⟩)⟩)⟩)⟩) (by decide) (sd_aload_n C (i := 0) dX9_doReadCommand_131 rfl (sd_gr C (ci := 9) (k := 1) (r := (RX9, TX9, 7)) rfl (by decide) rfl wd_293 dX9_doReadCommand_132 (sd_aload_n C (i := 1) dX9_doReadCommand_135 rfl (sd_iconst C (x := nI 0) dX9_doReadCommand_136 (by decide +kernel) (sd_ia C dX9_doReadCommand_137 (sd_bipush C (x := nI 40) dX9_doReadCommand_138 (by decide +kernel) (sd_cV C ok_X3_tryWatches (ci := 3) (row := (RX3, TX3, 13)) rfl rfl ⟨by decide, by decide, wd_534, wd_3, by decide +kernel⟩ wd_531 wd_532 wd_533 dX9_doReadCommand_140 (sd_zr C hr dX9_doReadCommand_143))))))))))))))))
theorem dX9_load_0 : decode cX9_load 0 = .ok (.aload_n 0, 1) := by decide +kernel
theorem dX9_load_1 : decode cX9_load 1 = .ok (.getfield 10, 3) := by decide +kernel
theorem dX9_load_4 : decode cX9_load 4 = .ok (.invokevirtual 70, 3) := by decide +kernel
theorem dX9_load_7 : decode cX9_load 7 = .ok (.iconst (-1), 1) := by decide +kernel
theorem dX9_load_8 : decode cX9_load 8 = .ok (.if_icmp .eq 13, 3) := by decide +kernel
theorem dX9_load_11 : decode cX9_load 11 = .ok (.new 61, 3) := by decide +kernel
theorem dX9_load_14 : decode cX9_load 14 = .ok (.dup, 1) := by decide +kernel
theorem dX9_load_15 : decode cX9_load 15 = .ok (.ldc 74, 2) := by decide +kernel
theorem dX9_load_17 : decode cX9_load 17 = .ok (.invokespecial 65, 3) := by decide +kernel
theorem dX9_load_20 : decode cX9_load 20 = .ok (.athrow, 1) := by decide +kernel
theorem dX9_load_21 : decode cX9_load 21 = .ok (.aload_n 0, 1) := by decide +kernel
theorem dX9_load_22 : decode cX9_load 22 = .ok (.getfield 19, 3) := by decide +kernel
theorem dX9_load_25 : decode cX9_load 25 = .ok (.aload_n 0, 1) := by decide +kernel
theorem dX9_load_26 : decode cX9_load 26 = .ok (.getfield 23, 3) := by decide +kernel
theorem dX9_load_29 : decode cX9_load 29 = .ok (.invokevirtual 76, 3) := by decide +kernel
theorem dX9_load_32 : decode cX9_load 32 = .ok (.aload_n 0, 1) := by decide +kernel
theorem dX9_load_33 : decode cX9_load 33 = .ok (.getfield 32, 3) := by decide +kernel
theorem dX9_load_36 : decode cX9_load 36 = .ok (.invokevirtual 80, 3) := by decide +kernel
theorem dX9_load_39 : decode cX9_load 39 = .ok (.aload_n 0, 1) := by decide +kernel
theorem dX9_load_40 : decode cX9_load 40 = .ok (.getfield 39, 3) := by decide +kernel
theorem dX9_load_43 : decode cX9_load 43 = .ok (.iconst 0, 1) := by decide +kernel
theorem dX9_load_44 : decode cX9_load 44 = .ok (.putfield 83, 3) := by decide +kernel
theorem dX9_load_47 : decode cX9_load 47 = .ok (.aload_n 0, 1) := by decide +kernel
theorem dX9_load_48 : decode cX9_load 48 = .ok (.getfield 43, 3) := by decide +kernel
theorem dX9_load_51 : decode cX9_load 51 = .ok (.iconst 0, 1) := by decide +kernel
theorem dX9_load_52 : decode cX9_load 52 = .ok (.putfield 83, 3) := by decide +kernel
theorem dX9_load_55 : decode cX9_load 55 = .ok (.iconst 0, 1) := by decide +kernel
theorem dX9_load_56 : decode cX9_load 56 = .ok (.istore_n 1, 1) := by decide +kernel
theorem dX9_load_57 : decode cX9_load 57 = .ok (.aload_n 0, 1) := by decide +kernel
theorem dX9_load_58 : decode cX9_load 58 = .ok (.getfield 10, 3) := by decide +kernel
theorem dX9_load_61 : decode cX9_load 61 = .ok (.invokevirtual 87, 3) := by decide +kernel
theorem dX9_load_64 : decode cX9_load 64 = .ok (.pop, 1) := by decide +kernel
theorem dX9_load_65 : decode cX9_load 65 = .ok (.iconst 0, 1) := by decide +kernel
theorem dX9_load_66 : decode cX9_load 66 = .ok (.istore_n 2, 1) := by decide +kernel
theorem dX9_load_67 : decode cX9_load 67 = .ok (.iload_n 2, 1) := by decide +kernel
theorem dX9_load_68 : decode cX9_load 68 = .ok (.bipush 120, 2) := by decide +kernel
theorem dX9_load_70 : decode cX9_load 70 = .ok (.if_icmp .ge 29, 3) := by decide +kernel
theorem dX9_load_73 : decode cX9_load 73 = .ok (.aload_n 0, 1) := by decide +kernel
theorem dX9_load_74 : decode cX9_load 74 = .ok (.getfield 10, 3) := by decide +kernel
theorem dX9_load_77 : decode cX9_load 77 = .ok (.invokevirtual 91, 3) := by decide +kernel
theorem dX9_load_80 : decode cX9_load 80 = .ok (.ifCond .eq 19, 3) := by decide +kernel
theorem dX9_load_83 : decode cX9_load 83 = .ok (.aload_n 0, 1) := by decide +kernel
theorem dX9_load_84 : decode cX9_load 84 = .ok (.invokevirtual 94, 3) := by decide +kernel
theorem dX9_load_87 : decode cX9_load 87 = .ok (.ifCond .ne 6, 3) := by decide +kernel
theorem dX9_load_90 : decode cX9_load 90 = .ok (.iinc 1 1, 3) := by decide +kernel
theorem dX9_load_93 : decode cX9_load 93 = .ok (.iinc 2 1, 3) := by decide +kernel
theorem dX9_load_96 : decode cX9_load 96 = .ok (.goto (-29), 3) := by decide +kernel
theorem dX9_load_99 : decode cX9_load 99 = .ok (.iload_n 1, 1) := by decide +kernel
theorem dX9_load_100 : decode cX9_load 100 = .ok (.ireturn, 1) := by decide +kernel
def bX9_load_0 (w : ab_W) (mc : Nat) (s_X8_firstError : ab_S) (s_X3_copyFrom : ab_S) (s_X2_forget : ab_S) (s_X8_startReading : ab_S) (s_X8_readCommand : ab_S) (s_X9_doReadCommand : ab_S) (M : Nat → ab_P) (Kn : Option Value → ab_H → Prop) (Kx : String → ab_H → Prop) : ab_P := ab_ald 0 (ab_gr w 9 1 (ab_cV w 1 8 s_X8_firstError (ab_ci (-1) (ab_if2 (fun x y => x = y) (ab_ald 0 (ab_gr w 9 40 (ab_ald 0 (ab_gr w 9 80 (ab_cV w 2 3 s_X3_copyFrom (ab_ald 0 (ab_gr w 9 4 (ab_cV w 1 2 s_X2_forget (ab_ald 0 (ab_gr w 9 719 (ab_ci (nI 0) (ab_pz w 6 1 (ab_ald 0 (ab_gr w 9 759 (ab_ci (nI 0) (ab_pz w 6 1 (ab_ci (nI 0) (ab_ist 1 (ab_ald 0 (ab_gr w 9 1 (ab_cV w 1 8 s_X8_startReading (ab_pop (ab_ci (nI 0) (ab_ist 2 (M 67))))))))))))))))))))))))) (ab_th mc "java/lang/IllegalStateException" Kx)))))
def bX9_load_67 (w : ab_W) (mc : Nat) (s_X8_firstError : ab_S) (s_X3_copyFrom : ab_S) (s_X2_forget : ab_S) (s_X8_startReading : ab_S) (s_X8_readCommand : ab_S) (s_X9_doReadCommand : ab_S) (M : Nat → ab_P) (Kn : Option Value → ab_H → Prop) (Kx : String → ab_H → Prop) : ab_P := ab_ild 2 (ab_ci (nI 120) (ab_if2 (fun x y => y ≤ x) (M 99) (ab_ald 0 (ab_gr w 9 1 (ab_cV w 1 8 s_X8_readCommand (ab_if1 (fun x => x = 0) (M 99) (ab_ald 0 (ab_cV w 1 9 s_X9_doReadCommand (ab_if1 (fun x => ¬ x = 0) (M 93) (ab_inc 1 (nI 1) (M 93)))))))))))
def bX9_load_93 (w : ab_W) (mc : Nat) (s_X8_firstError : ab_S) (s_X3_copyFrom : ab_S) (s_X2_forget : ab_S) (s_X8_startReading : ab_S) (s_X8_readCommand : ab_S) (s_X9_doReadCommand : ab_S) (M : Nat → ab_P) (Kn : Option Value → ab_H → Prop) (Kx : String → ab_H → Prop) : ab_P := ab_inc 2 (nI 1) (M 67)
def bX9_load_99 (w : ab_W) (mc : Nat) (s_X8_firstError : ab_S) (s_X3_copyFrom : ab_S) (s_X2_forget : ab_S) (s_X8_startReading : ab_S) (s_X8_readCommand : ab_S) (s_X9_doReadCommand : ab_S) (M : Nat → ab_P) (Kn : Option Value → ab_H → Prop) (Kx : String → ab_H → Prop) : ab_P := ab_ild 1 (ab_ir Kn)
set_option maxRecDepth 20000 in
set_option maxHeartbeats 2000000 in
theorem vc_X9_load {l : Launch} (hl : l.stackTraces = false) {w : ab_W} (hI : ab_Inj w) {mc : Nat} {σ : ab_H} {As : List Value} {Kn : Option Value → ab_H → Prop} {Kx : String → ab_H → Prop} {s_X8_firstError : ab_S} (ok_X8_firstError : ab_OkN l yX8_firstError (Cond.code yX8_firstError cX8_firstError 3 (some .int)) 4 s_X8_firstError) {s_X3_copyFrom : ab_S} (ok_X3_copyFrom : ab_OkN l yX3_copyFrom (Cond.code yX3_copyFrom cX3_copyFrom 2 none) 4 s_X3_copyFrom) {s_X2_forget : ab_S} (ok_X2_forget : ab_OkN l yX2_forget (Cond.code yX2_forget cX2_forget 1 none) 1 s_X2_forget) {s_X8_startReading : ab_S} (ok_X8_startReading : ab_OkN l yX8_startReading (Cond.code yX8_startReading cX8_startReading 1 (some .boolean)) 2 s_X8_startReading) {s_X8_readCommand : ab_S} (ok_X8_readCommand : ab_OkN l yX8_readCommand (Cond.code yX8_readCommand cX8_readCommand 1 (some .boolean)) 3 s_X8_readCommand) {s_X9_doReadCommand : ab_S} (ok_X9_doReadCommand : ab_OkN l yX9_doReadCommand (Cond.code yX9_doReadCommand cX9_doReadCommand 2 (some .boolean)) 6 s_X9_doReadCommand) (hlen : (ab_xl As).length ≤ 3) (h : ∀ M : Nat → ab_P, (∀ L st σ, bX9_load_0 w mc s_X8_firstError s_X3_copyFrom s_X2_forget s_X8_startReading s_X8_readCommand s_X9_doReadCommand M Kn Kx L st σ → M 0 L st σ) → (∀ L st σ, bX9_load_67 w mc s_X8_firstError s_X3_copyFrom s_X2_forget s_X8_startReading s_X8_readCommand s_X9_doReadCommand M Kn Kx L st σ → M 67 L st σ) → (∀ L st σ, bX9_load_93 w mc s_X8_firstError s_X3_copyFrom s_X2_forget s_X8_startReading s_X8_readCommand s_X9_doReadCommand M Kn Kx L st σ → M 93 L st σ) → (∀ L st σ, bX9_load_99 w mc s_X8_firstError s_X3_copyFrom s_X2_forget s_X8_startReading s_X8_readCommand s_X9_doReadCommand M Kn Kx L st σ → M 99 L st σ) → M 0 (ab_pd 3 (ab_xl As)) [] σ) : ab_Met l yX9_load (Cond.code yX9_load cX9_load 3 (some .int)) 7 mc w σ As Kn Kx := by
  refine ab_enter (by decide) hl hI hlen (by decide) ?_
  intro p e R s m args below meth c C hno hr
  exact h _ (sd_aload_n C (i := 0) dX9_load_0 rfl (sd_gr C (ci := 9) (k := 0) (r := (RX9, TX9, 7)) rfl (by decide) rfl wd_292 dX9_load_1 (sd_cV C ok_X8_firstError (ci := 8) (row := (RX8, TX8, 5)) rfl rfl ⟨by decide, by decide, wd_330, wd_2, by decide +kernel⟩ wd_327 wd_328 wd_329 dX9_load_4 (sd_iconst C (x := -1) dX9_load_7 (by decide +kernel) (sd_icmp_eq C dX9_load_8 (tgt := 21) (by decide) (sd_aload_n C (i := 0) dX9_load_21 rfl (sd_gr C (ci := 9) (k := 1) (r := (RX9, TX9, 7)) rfl (by decide) rfl wd_293 dX9_load_22 (sd_aload_n C (i := 0) dX9_load_25 rfl (sd_gr C (ci := 9) (k := 2) (r := (RX9, TX9, 7)) rfl (by decide) rfl wd_294 dX9_load_26 (sd_cV C ok_X3_copyFrom (ci := 3) (row := (RX3, TX3, 13)) rfl rfl ⟨by decide, by decide, wd_422, wd_3, by decide +kernel⟩ wd_419 wd_420 wd_421 dX9_load_29 (sd_aload_n C (i := 0) dX9_load_32 rfl (sd_gr C (ci := 9) (k := 4) (r := (RX9, TX9, 7)) rfl (by decide) rfl wd_296 dX9_load_33 (sd_cV C ok_X2_forget (ci := 2) (row := (RX2, TX2, 3)) rfl rfl ⟨by decide, by decide, wd_460, wd_9, by decide +kernel⟩ wd_457 wd_458 wd_459 dX9_load_36 (sd_aload_n C (i := 0) dX9_load_39 rfl (sd_gr C (ci := 9) (k := 5) (r := (RX9, TX9, 7)) rfl (by decide) rfl wd_297 dX9_load_40 (sd_iconst C (x := nI 0) dX9_load_43 (by decide +kernel) (sd_pz C (ci := 6) (k := 1) (r := (RX6, TX6, 2)) rfl (by decide) rfl rfl (by decide +kernel) wd_286 dX9_load_44 (sd_aload_n C (i := 0) dX9_load_47 rfl (sd_gr C (ci := 9) (k := 6) (r := (RX9, TX9, 7)) rfl (by decide) rfl wd_298 dX9_load_48 (sd_iconst C (x := nI 0) dX9_load_51 (by decide +kernel) (sd_pz C (ci := 6) (k := 1) (r := (RX6, TX6, 2)) rfl (by decide) rfl rfl (by decide +kernel) wd_286 dX9_load_52 (sd_iconst C (x := nI 0) dX9_load_55 (by decide +kernel) (sd_istore_n C (i := 1) dX9_load_56 rfl (by decide) (sd_aload_n C (i := 0) dX9_load_57 rfl (sd_gr C (ci := 9) (k := 0) (r := (RX9, TX9, 7)) rfl (by decide) rfl wd_292 dX9_load_58 (sd_cV C ok_X8_startReading (ci := 8) (row := (RX8, TX8, 5)) rfl rfl ⟨by decide, by decide, wd_334, wd_2, by decide +kernel⟩ wd_461 wd_332 wd_333 dX9_load_61 (sd_pop C dX9_load_64 (sd_iconst C (x := nI 0) dX9_load_65 (by decide +kernel) (sd_istore_n C (i := 2) dX9_load_66 rfl (by decide) (fun _ _ _ h => h))))))))))))))))))))))))) (sd_th C hno (text := "the text is not a net") (by decide) tw_61_65 wd_351 wd_18 (by decide +kernel) (by decide) dX9_load_11 dX9_load_14 dX9_load_15 dX9_load_17 dX9_load_20))))))
    (sd_iload_n C (i := 2) dX9_load_67 rfl (sd_bipush C (x := nI 120) dX9_load_68 (by decide +kernel) (sd_icmp_ge C dX9_load_70 (tgt := 99) (by decide) (fun _ _ _ h => h) (sd_aload_n C (i := 0) dX9_load_73 rfl (sd_gr C (ci := 9) (k := 0) (r := (RX9, TX9, 7)) rfl (by decide) rfl wd_292 dX9_load_74 (sd_cV C ok_X8_readCommand (ci := 8) (row := (RX8, TX8, 5)) rfl rfl ⟨by decide, by decide, wd_342, wd_2, by decide +kernel⟩ wd_462 wd_340 wd_341 dX9_load_77 (sd_if_eq C dX9_load_80 (tgt := 99) (by decide) (fun _ _ _ h => h) (sd_aload_n C (i := 0) dX9_load_83 rfl (sd_cV C ok_X9_doReadCommand (ci := 9) (row := (RX9, TX9, 7)) rfl rfl ⟨by decide, by decide, wd_466, wd_1, by decide +kernel⟩ wd_463 wd_465 ws_4 dX9_load_84 (sd_if_ne C dX9_load_87 (tgt := 93) (by decide) (fun _ _ _ h => h) (sd_iinc C (x := nI 1) dX9_load_90 (by decide +kernel) (by decide) (fun _ _ _ h => h))))))))))))
    (sd_iinc C (x := nI 1) dX9_load_93 (by decide +kernel) (by decide) (sd_goto C dX9_load_96 (tgt := 67) (by decide) (fun _ _ _ h => h)))
    (sd_iload_n C (i := 1) dX9_load_99 rfl (sd_ir C hr dX9_load_100))
theorem dX9_about_0 : decode cX9_about 0 = .ok (.iload_n 1, 1) := by decide +kernel
theorem dX9_about_1 : decode cX9_about 1 = .ok (.tableswitch 177 0 11 #[63, 74, 85, 93, 101, 109, 120, 128, 136, 144, 155, 166], 63) := by decide +kernel
theorem dX9_about_64 : decode cX9_about 64 = .ok (.aload_n 0, 1) := by decide +kernel
theorem dX9_about_65 : decode cX9_about 65 = .ok (.getfield 19, 3) := by decide +kernel
theorem dX9_about_68 : decode cX9_about 68 = .ok (.getfield 122, 3) := by decide +kernel
theorem dX9_about_71 : decode cX9_about 71 = .ok (.getfield 126, 3) := by decide +kernel
theorem dX9_about_74 : decode cX9_about 74 = .ok (.ireturn, 1) := by decide +kernel
theorem dX9_about_75 : decode cX9_about 75 = .ok (.aload_n 0, 1) := by decide +kernel
theorem dX9_about_76 : decode cX9_about 76 = .ok (.getfield 19, 3) := by decide +kernel
theorem dX9_about_79 : decode cX9_about 79 = .ok (.getfield 131, 3) := by decide +kernel
theorem dX9_about_82 : decode cX9_about 82 = .ok (.getfield 135, 3) := by decide +kernel
theorem dX9_about_85 : decode cX9_about 85 = .ok (.ireturn, 1) := by decide +kernel
theorem dX9_about_86 : decode cX9_about 86 = .ok (.aload_n 0, 1) := by decide +kernel
theorem dX9_about_87 : decode cX9_about 87 = .ok (.getfield 19, 3) := by decide +kernel
theorem dX9_about_90 : decode cX9_about 90 = .ok (.getfield 138, 3) := by decide +kernel
theorem dX9_about_93 : decode cX9_about 93 = .ok (.ireturn, 1) := by decide +kernel
theorem dX9_about_94 : decode cX9_about 94 = .ok (.aload_n 0, 1) := by decide +kernel
theorem dX9_about_95 : decode cX9_about 95 = .ok (.getfield 19, 3) := by decide +kernel
theorem dX9_about_98 : decode cX9_about 98 = .ok (.getfield 141, 3) := by decide +kernel
theorem dX9_about_101 : decode cX9_about 101 = .ok (.ireturn, 1) := by decide +kernel
theorem dX9_about_102 : decode cX9_about 102 = .ok (.aload_n 0, 1) := by decide +kernel
theorem dX9_about_103 : decode cX9_about 103 = .ok (.getfield 19, 3) := by decide +kernel
theorem dX9_about_106 : decode cX9_about 106 = .ok (.getfield 144, 3) := by decide +kernel
theorem dX9_about_109 : decode cX9_about 109 = .ok (.ireturn, 1) := by decide +kernel
theorem dX9_about_110 : decode cX9_about 110 = .ok (.aload_n 0, 1) := by decide +kernel
theorem dX9_about_111 : decode cX9_about 111 = .ok (.getfield 19, 3) := by decide +kernel
theorem dX9_about_114 : decode cX9_about 114 = .ok (.getfield 147, 3) := by decide +kernel
theorem dX9_about_117 : decode cX9_about 117 = .ok (.getfield 151, 3) := by decide +kernel
theorem dX9_about_120 : decode cX9_about 120 = .ok (.ireturn, 1) := by decide +kernel
theorem dX9_about_121 : decode cX9_about 121 = .ok (.aload_n 0, 1) := by decide +kernel
theorem dX9_about_122 : decode cX9_about 122 = .ok (.getfield 19, 3) := by decide +kernel
theorem dX9_about_125 : decode cX9_about 125 = .ok (.getfield 154, 3) := by decide +kernel
theorem dX9_about_128 : decode cX9_about 128 = .ok (.ireturn, 1) := by decide +kernel
theorem dX9_about_129 : decode cX9_about 129 = .ok (.aload_n 0, 1) := by decide +kernel
theorem dX9_about_130 : decode cX9_about 130 = .ok (.getfield 19, 3) := by decide +kernel
theorem dX9_about_133 : decode cX9_about 133 = .ok (.getfield 157, 3) := by decide +kernel
theorem dX9_about_136 : decode cX9_about 136 = .ok (.ireturn, 1) := by decide +kernel
theorem dX9_about_137 : decode cX9_about 137 = .ok (.aload_n 0, 1) := by decide +kernel
theorem dX9_about_138 : decode cX9_about 138 = .ok (.getfield 19, 3) := by decide +kernel
theorem dX9_about_141 : decode cX9_about 141 = .ok (.getfield 160, 3) := by decide +kernel
theorem dX9_about_144 : decode cX9_about 144 = .ok (.ireturn, 1) := by decide +kernel
theorem dX9_about_145 : decode cX9_about 145 = .ok (.aload_n 0, 1) := by decide +kernel
theorem dX9_about_146 : decode cX9_about 146 = .ok (.getfield 19, 3) := by decide +kernel
theorem dX9_about_149 : decode cX9_about 149 = .ok (.getfield 163, 3) := by decide +kernel
theorem dX9_about_152 : decode cX9_about 152 = .ok (.getfield 167, 3) := by decide +kernel
theorem dX9_about_155 : decode cX9_about 155 = .ok (.ireturn, 1) := by decide +kernel
theorem dX9_about_156 : decode cX9_about 156 = .ok (.aload_n 0, 1) := by decide +kernel
theorem dX9_about_157 : decode cX9_about 157 = .ok (.getfield 19, 3) := by decide +kernel
theorem dX9_about_160 : decode cX9_about 160 = .ok (.getfield 170, 3) := by decide +kernel
theorem dX9_about_163 : decode cX9_about 163 = .ok (.getfield 174, 3) := by decide +kernel
theorem dX9_about_166 : decode cX9_about 166 = .ok (.ireturn, 1) := by decide +kernel
theorem dX9_about_167 : decode cX9_about 167 = .ok (.aload_n 0, 1) := by decide +kernel
theorem dX9_about_168 : decode cX9_about 168 = .ok (.getfield 19, 3) := by decide +kernel
theorem dX9_about_171 : decode cX9_about 171 = .ok (.getfield 122, 3) := by decide +kernel
theorem dX9_about_174 : decode cX9_about 174 = .ok (.invokevirtual 177, 3) := by decide +kernel
theorem dX9_about_177 : decode cX9_about 177 = .ok (.ireturn, 1) := by decide +kernel
theorem dX9_about_178 : decode cX9_about 178 = .ok (.new 50, 3) := by decide +kernel
theorem dX9_about_181 : decode cX9_about 181 = .ok (.dup, 1) := by decide +kernel
theorem dX9_about_182 : decode cX9_about 182 = .ok (.ldc 180, 2) := by decide +kernel
theorem dX9_about_184 : decode cX9_about 184 = .ok (.invokespecial 54, 3) := by decide +kernel
theorem dX9_about_187 : decode cX9_about 187 = .ok (.athrow, 1) := by decide +kernel
def bX9_about_0 (w : ab_W) (mc : Nat) (s_X7_sondesOfAll : ab_S) (M : Nat → ab_P) (Kn : Option Value → ab_H → Prop) (Kx : String → ab_H → Prop) : ab_P := ab_ild 1 (ab_sw [(nI 0, ab_ald 0 (ab_gr w 9 40 (ab_gr w 3 1 (ab_gf w 7 0 (ab_ir Kn))))), (nI 1, ab_ald 0 (ab_gr w 9 40 (ab_gr w 3 9 (ab_gf w 0 0 (ab_ir Kn))))), (nI 2, ab_ald 0 (ab_gr w 9 40 (ab_gf w 3 7 (ab_ir Kn)))), (nI 3, ab_ald 0 (ab_gr w 9 40 (ab_gf w 3 8 (ab_ir Kn)))), (nI 4, ab_ald 0 (ab_gr w 9 40 (ab_gf w 3 9 (ab_ir Kn)))), (nI 5, ab_ald 0 (ab_gr w 9 40 (ab_gr w 3 23 (ab_gf w 1 0 (ab_ir Kn))))), (nI 6, ab_ald 0 (ab_gr w 9 40 (ab_gf w 3 10 (ab_ir Kn)))), (nI 7, ab_ald 0 (ab_gr w 9 40 (ab_gf w 3 11 (ab_ir Kn)))), (nI 8, ab_ald 0 (ab_gr w 9 40 (ab_gf w 3 12 (ab_ir Kn)))), (nI 9, ab_ald 0 (ab_gr w 9 40 (ab_gr w 3 19 (ab_gf w 5 0 (ab_ir Kn))))), (nI 10, ab_ald 0 (ab_gr w 9 40 (ab_gr w 3 14 (ab_gf w 4 0 (ab_ir Kn))))), (nI 11, ab_ald 0 (ab_gr w 9 40 (ab_gr w 3 1 (ab_cV w 1 7 s_X7_sondesOfAll (ab_ir Kn)))))] (ab_th mc "java/lang/IllegalArgumentException" Kx))
set_option maxRecDepth 20000 in
set_option maxHeartbeats 2000000 in
theorem vc_X9_about {l : Launch} (hl : l.stackTraces = false) {w : ab_W} (hI : ab_Inj w) {mc : Nat} {σ : ab_H} {As : List Value} {Kn : Option Value → ab_H → Prop} {Kx : String → ab_H → Prop} {s_X7_sondesOfAll : ab_S} (ok_X7_sondesOfAll : ab_OkN l yX7_sondesOfAll (Cond.code yX7_sondesOfAll cX7_sondesOfAll 3 (some .int)) 3 s_X7_sondesOfAll) (hlen : (ab_xl As).length ≤ 2) (h : ∀ M : Nat → ab_P, (∀ L st σ, bX9_about_0 w mc s_X7_sondesOfAll M Kn Kx L st σ → M 0 L st σ) → M 0 (ab_pd 2 (ab_xl As)) [] σ) : ab_Met l yX9_about (Cond.code yX9_about cX9_about 2 (some .int)) 6 mc w σ As Kn Kx := by
  refine ab_enter (by decide) hl hI hlen (by decide) ?_
  intro p e R s m args below meth c C hno hr
  exact h _ (sd_iload_n C (i := 1) dX9_about_0 rfl (sd_table C (td := 178) dX9_about_1 12 (by decide +kernel : ([nI 0, nI 1, nI 2, nI 3, nI 4, nI 5, nI 6, nI 7, nI 8, nI 9, nI 10, nI 11] : List Int32) = _) (by decide) (List.forall_mem_cons.mpr ⟨⟨63, 64, (by decide +kernel : ¬ (nI 0 : Int32).toInt < 0), (by decide +kernel : ¬ (11 : Int) < (nI 0 : Int32).toInt), (by decide +kernel : (#[63, 74, 85, 93, 101, 109, 120, 128, 136, 144, 155, 166] : Array Int)[((nI 0 : Int32).toInt - 0).toNat]? = some 63), (by decide), (sd_aload_n C (i := 0) dX9_about_64 rfl (sd_gr C (ci := 9) (k := 1) (r := (RX9, TX9, 7)) rfl (by decide) rfl wd_293 dX9_about_65 (sd_gr C (ci := 3) (k := 0) (r := (RX3, TX3, 13)) rfl (by decide) rfl wd_204 dX9_about_68 (sd_gf C (ci := 7) (k := 0) (r := (RX7, TX7, 8)) rfl (by decide) rfl wd_68 dX9_about_71 (sd_ir C hr dX9_about_74)))))⟩, (List.forall_mem_cons.mpr ⟨⟨74, 75, (by decide +kernel : ¬ (nI 1 : Int32).toInt < 0), (by decide +kernel : ¬ (11 : Int) < (nI 1 : Int32).toInt), (by decide +kernel : (#[63, 74, 85, 93, 101, 109, 120, 128, 136, 144, 155, 166] : Array Int)[((nI 1 : Int32).toInt - 0).toNat]? = some 74), (by decide), (sd_aload_n C (i := 0) dX9_about_75 rfl (sd_gr C (ci := 9) (k := 1) (r := (RX9, TX9, 7)) rfl (by decide) rfl wd_293 dX9_about_76 (sd_gr C (ci := 3) (k := 1) (r := (RX3, TX3, 13)) rfl (by decide) rfl wd_206 dX9_about_79 (sd_gf C (ci := 0) (k := 0) (r := (RX0, TX0, 5)) rfl (by decide) rfl wd_113 dX9_about_82 (sd_ir C hr dX9_about_85)))))⟩, (List.forall_mem_cons.mpr ⟨⟨85, 86, (by decide +kernel : ¬ (nI 2 : Int32).toInt < 0), (by decide +kernel : ¬ (11 : Int) < (nI 2 : Int32).toInt), (by decide +kernel : (#[63, 74, 85, 93, 101, 109, 120, 128, 136, 144, 155, 166] : Array Int)[((nI 2 : Int32).toInt - 0).toNat]? = some 85), (by decide), (sd_aload_n C (i := 0) dX9_about_86 rfl (sd_gr C (ci := 9) (k := 1) (r := (RX9, TX9, 7)) rfl (by decide) rfl wd_293 dX9_about_87 (sd_gf C (ci := 3) (k := 7) (r := (RX3, TX3, 13)) rfl (by decide) rfl wd_218 dX9_about_90 (sd_ir C hr dX9_about_93))))⟩, (List.forall_mem_cons.mpr ⟨⟨93, 94, (by decide +kernel : ¬ (nI 3 : Int32).toInt < 0), (by decide +kernel : ¬ (11 : Int) < (nI 3 : Int32).toInt), (by decide +kernel : (#[63, 74, 85, 93, 101, 109, 120, 128, 136, 144, 155, 166] : Array Int)[((nI 3 : Int32).toInt - 0).toNat]? = some 93), (by decide), (sd_aload_n C (i := 0) dX9_about_94 rfl (sd_gr C (ci := 9) (k := 1) (r := (RX9, TX9, 7)) rfl (by decide) rfl wd_293 dX9_about_95 (sd_gf C (ci := 3) (k := 8) (r := (RX3, TX3, 13)) rfl (by decide) rfl wd_220 dX9_about_98 (sd_ir C hr dX9_about_101))))⟩, (List.forall_mem_cons.mpr ⟨⟨101, 102, (by decide +kernel : ¬ (nI 4 : Int32).toInt < 0), (by decide +kernel : ¬ (11 : Int) < (nI 4 : Int32).toInt), (by decide +kernel : (#[63, 74, 85, 93, 101, 109, 120, 128, 136, 144, 155, 166] : Array Int)[((nI 4 : Int32).toInt - 0).toNat]? = some 101), (by decide), (sd_aload_n C (i := 0) dX9_about_102 rfl (sd_gr C (ci := 9) (k := 1) (r := (RX9, TX9, 7)) rfl (by decide) rfl wd_293 dX9_about_103 (sd_gf C (ci := 3) (k := 9) (r := (RX3, TX3, 13)) rfl (by decide) rfl wd_222 dX9_about_106 (sd_ir C hr dX9_about_109))))⟩, (List.forall_mem_cons.mpr ⟨⟨109, 110, (by decide +kernel : ¬ (nI 5 : Int32).toInt < 0), (by decide +kernel : ¬ (11 : Int) < (nI 5 : Int32).toInt), (by decide +kernel : (#[63, 74, 85, 93, 101, 109, 120, 128, 136, 144, 155, 166] : Array Int)[((nI 5 : Int32).toInt - 0).toNat]? = some 109), (by decide), (sd_aload_n C (i := 0) dX9_about_110 rfl (sd_gr C (ci := 9) (k := 1) (r := (RX9, TX9, 7)) rfl (by decide) rfl wd_293 dX9_about_111 (sd_gr C (ci := 3) (k := 4) (r := (RX3, TX3, 13)) rfl (by decide) rfl wd_212 dX9_about_114 (sd_gf C (ci := 1) (k := 0) (r := (RX1, TX1, 5)) rfl (by decide) rfl wd_187 dX9_about_117 (sd_ir C hr dX9_about_120)))))⟩, (List.forall_mem_cons.mpr ⟨⟨120, 121, (by decide +kernel : ¬ (nI 6 : Int32).toInt < 0), (by decide +kernel : ¬ (11 : Int) < (nI 6 : Int32).toInt), (by decide +kernel : (#[63, 74, 85, 93, 101, 109, 120, 128, 136, 144, 155, 166] : Array Int)[((nI 6 : Int32).toInt - 0).toNat]? = some 120), (by decide), (sd_aload_n C (i := 0) dX9_about_121 rfl (sd_gr C (ci := 9) (k := 1) (r := (RX9, TX9, 7)) rfl (by decide) rfl wd_293 dX9_about_122 (sd_gf C (ci := 3) (k := 10) (r := (RX3, TX3, 13)) rfl (by decide) rfl wd_224 dX9_about_125 (sd_ir C hr dX9_about_128))))⟩, (List.forall_mem_cons.mpr ⟨⟨128, 129, (by decide +kernel : ¬ (nI 7 : Int32).toInt < 0), (by decide +kernel : ¬ (11 : Int) < (nI 7 : Int32).toInt), (by decide +kernel : (#[63, 74, 85, 93, 101, 109, 120, 128, 136, 144, 155, 166] : Array Int)[((nI 7 : Int32).toInt - 0).toNat]? = some 128), (by decide), (sd_aload_n C (i := 0) dX9_about_129 rfl (sd_gr C (ci := 9) (k := 1) (r := (RX9, TX9, 7)) rfl (by decide) rfl wd_293 dX9_about_130 (sd_gf C (ci := 3) (k := 11) (r := (RX3, TX3, 13)) rfl (by decide) rfl wd_226 dX9_about_133 (sd_ir C hr dX9_about_136))))⟩, (List.forall_mem_cons.mpr ⟨⟨136, 137, (by decide +kernel : ¬ (nI 8 : Int32).toInt < 0), (by decide +kernel : ¬ (11 : Int) < (nI 8 : Int32).toInt), (by decide +kernel : (#[63, 74, 85, 93, 101, 109, 120, 128, 136, 144, 155, 166] : Array Int)[((nI 8 : Int32).toInt - 0).toNat]? = some 136), (by decide), (sd_aload_n C (i := 0) dX9_about_137 rfl (sd_gr C (ci := 9) (k := 1) (r := (RX9, TX9, 7)) rfl (by decide) rfl wd_293 dX9_about_138 (sd_gf C (ci := 3) (k := 12) (r := (RX3, TX3, 13)) rfl (by decide) rfl wd_228 dX9_about_141 (sd_ir C hr dX9_about_144))))⟩, (List.forall_mem_cons.mpr ⟨⟨144, 145, (by decide +kernel : ¬ (nI 9 : Int32).toInt < 0), (by decide +kernel : ¬ (11 : Int) < (nI 9 : Int32).toInt), (by decide +kernel : (#[63, 74, 85, 93, 101, 109, 120, 128, 136, 144, 155, 166] : Array Int)[((nI 9 : Int32).toInt - 0).toNat]? = some 144), (by decide), (sd_aload_n C (i := 0) dX9_about_145 rfl (sd_gr C (ci := 9) (k := 1) (r := (RX9, TX9, 7)) rfl (by decide) rfl wd_293 dX9_about_146 (sd_gr C (ci := 3) (k := 3) (r := (RX3, TX3, 13)) rfl (by decide) rfl wd_210 dX9_about_149 (sd_gf C (ci := 5) (k := 0) (r := (RX5, TX5, 4)) rfl (by decide) rfl wd_167 dX9_about_152 (sd_ir C hr dX9_about_155)))))⟩, (List.forall_mem_cons.mpr ⟨⟨155, 156, (by decide +kernel : ¬ (nI 10 : Int32).toInt < 0), (by decide +kernel : ¬ (11 : Int) < (nI 10 : Int32).toInt), (by decide +kernel : (#[63, 74, 85, 93, 101, 109, 120, 128, 136, 144, 155, 166] : Array Int)[((nI 10 : Int32).toInt - 0).toNat]? = some 155), (by decide), (sd_aload_n C (i := 0) dX9_about_156 rfl (sd_gr C (ci := 9) (k := 1) (r := (RX9, TX9, 7)) rfl (by decide) rfl wd_293 dX9_about_157 (sd_gr C (ci := 3) (k := 2) (r := (RX3, TX3, 13)) rfl (by decide) rfl wd_208 dX9_about_160 (sd_gf C (ci := 4) (k := 0) (r := (RX4, TX4, 5)) rfl (by decide) rfl wd_143 dX9_about_163 (sd_ir C hr dX9_about_166)))))⟩, (List.forall_mem_cons.mpr ⟨⟨166, 167, (by decide +kernel : ¬ (nI 11 : Int32).toInt < 0), (by decide +kernel : ¬ (11 : Int) < (nI 11 : Int32).toInt), (by decide +kernel : (#[63, 74, 85, 93, 101, 109, 120, 128, 136, 144, 155, 166] : Array Int)[((nI 11 : Int32).toInt - 0).toNat]? = some 166), (by decide), (sd_aload_n C (i := 0) dX9_about_167 rfl (sd_gr C (ci := 9) (k := 1) (r := (RX9, TX9, 7)) rfl (by decide) rfl wd_293 dX9_about_168 (sd_gr C (ci := 3) (k := 0) (r := (RX3, TX3, 13)) rfl (by decide) rfl wd_204 dX9_about_171 (sd_cV C ok_X7_sondesOfAll (ci := 7) (row := (RX7, TX7, 8)) rfl rfl ⟨by decide, by decide, wd_663, wd_4, by decide +kernel⟩ wd_660 wd_661 wd_662 dX9_about_174 (sd_ir C hr dX9_about_177)))))⟩, (fun _ h => absurd h List.not_mem_nil)⟩)⟩)⟩)⟩)⟩)⟩)⟩)⟩)⟩)⟩)⟩)⟩) (by decide) (sd_th C hno (text := "there are the numbers 0 to 11") (by decide) tw_50_54 wd_668 wd_14 (by decide +kernel) (by decide) dX9_about_178 dX9_about_181 dX9_about_182 dX9_about_184 dX9_about_187)))
theorem dX9_needStation_0 : decode cX9_needStation 0 = .ok (.aload_n 0, 1) := by decide +kernel
theorem dX9_needStation_1 : decode cX9_needStation 1 = .ok (.getfield 19, 3) := by decide +kernel
theorem dX9_needStation_4 : decode cX9_needStation 4 = .ok (.getfield 122, 3) := by decide +kernel
theorem dX9_needStation_7 : decode cX9_needStation 7 = .ok (.iload_n 1, 1) := by decide +kernel
theorem dX9_needStation_8 : decode cX9_needStation 8 = .ok (.invokevirtual 351, 3) := by decide +kernel
theorem dX9_needStation_11 : decode cX9_needStation 11 = .ok (.ifCond .ne 14, 3) := by decide +kernel
theorem dX9_needStation_14 : decode cX9_needStation 14 = .ok (.new 229, 3) := by decide +kernel
theorem dX9_needStation_17 : decode cX9_needStation 17 = .ok (.dup, 1) := by decide +kernel
theorem dX9_needStation_18 : decode cX9_needStation 18 = .ok (.ldc_w 368, 3) := by decide +kernel
theorem dX9_needStation_21 : decode cX9_needStation 21 = .ok (.invokespecial 233, 3) := by decide +kernel
theorem dX9_needStation_24 : decode cX9_needStation 24 = .ok (.athrow, 1) := by decide +kernel
theorem dX9_needStation_25 : decode cX9_needStation 25 = .ok (.return_, 1) := by decide +kernel
def bX9_needStation_0 (w : ab_W) (mc : Nat) (s_X7_has : ab_S) (M : Nat → ab_P) (Kn : Option Value → ab_H → Prop) (Kx : String → ab_H → Prop) : ab_P := ab_ald 0 (ab_gr w 9 40 (ab_gr w 3 1 (ab_ild 1 (ab_cV w 2 7 s_X7_has (ab_if1 (fun x => ¬ x = 0) (ab_vr Kn) (ab_th mc "java/lang/IndexOutOfBoundsException" Kx))))))
set_option maxRecDepth 20000 in
set_option maxHeartbeats 2000000 in
theorem vc_X9_needStation {l : Launch} (hl : l.stackTraces = false) {w : ab_W} (hI : ab_Inj w) {mc : Nat} {σ : ab_H} {As : List Value} {Kn : Option Value → ab_H → Prop} {Kx : String → ab_H → Prop} {s_X7_has : ab_S} (ok_X7_has : ab_OkN l yX7_has (Cond.code yX7_has cX7_has 2 (some .boolean)) 1 s_X7_has) (hlen : (ab_xl As).length ≤ 2) (h : ∀ M : Nat → ab_P, (∀ L st σ, bX9_needStation_0 w mc s_X7_has M Kn Kx L st σ → M 0 L st σ) → M 0 (ab_pd 2 (ab_xl As)) [] σ) : ab_Met l yX9_needStation (Cond.code yX9_needStation cX9_needStation 2 none) 6 mc w σ As Kn Kx := by
  refine ab_enter (by decide) hl hI hlen (by decide) ?_
  intro p e R s m args below meth c C hno hr
  exact h _ (sd_aload_n C (i := 0) dX9_needStation_0 rfl (sd_gr C (ci := 9) (k := 1) (r := (RX9, TX9, 7)) rfl (by decide) rfl wd_293 dX9_needStation_1 (sd_gr C (ci := 3) (k := 0) (r := (RX3, TX3, 13)) rfl (by decide) rfl wd_204 dX9_needStation_4 (sd_iload_n C (i := 1) dX9_needStation_7 rfl (sd_cV C ok_X7_has (ci := 7) (row := (RX7, TX7, 8)) rfl rfl ⟨by decide, by decide, wd_489, wd_4, by decide +kernel⟩ wd_714 wd_487 wd_488 dX9_needStation_8 (sd_if_ne C dX9_needStation_11 (tgt := 25) (by decide) (sd_vr C hr dX9_needStation_25) (sd_thW C hno (text := "no such station") (by decide) tw_229_233 wd_619 wd_15 (by decide +kernel) (by decide) dX9_needStation_14 dX9_needStation_17 dX9_needStation_18 dX9_needStation_21 dX9_needStation_24)))))))
theorem dX9_whatWouldBeDone_0 : decode cX9_whatWouldBeDone 0 = .ok (.aload_n 0, 1) := by decide +kernel
theorem dX9_whatWouldBeDone_1 : decode cX9_whatWouldBeDone 1 = .ok (.getfield 26, 3) := by decide +kernel
theorem dX9_whatWouldBeDone_4 : decode cX9_whatWouldBeDone 4 = .ok (.aload_n 0, 1) := by decide +kernel
theorem dX9_whatWouldBeDone_5 : decode cX9_whatWouldBeDone 5 = .ok (.getfield 19, 3) := by decide +kernel
theorem dX9_whatWouldBeDone_8 : decode cX9_whatWouldBeDone 8 = .ok (.invokevirtual 76, 3) := by decide +kernel
theorem dX9_whatWouldBeDone_11 : decode cX9_whatWouldBeDone 11 = .ok (.aload_n 0, 1) := by decide +kernel
theorem dX9_whatWouldBeDone_12 : decode cX9_whatWouldBeDone 12 = .ok (.getfield 26, 3) := by decide +kernel
theorem dX9_whatWouldBeDone_15 : decode cX9_whatWouldBeDone 15 = .ok (.invokevirtual 211, 3) := by decide +kernel
theorem dX9_whatWouldBeDone_18 : decode cX9_whatWouldBeDone 18 = .ok (.aload_n 0, 1) := by decide +kernel
theorem dX9_whatWouldBeDone_19 : decode cX9_whatWouldBeDone 19 = .ok (.getfield 26, 3) := by decide +kernel
theorem dX9_whatWouldBeDone_22 : decode cX9_whatWouldBeDone 22 = .ok (.iload_n 1, 1) := by decide +kernel
theorem dX9_whatWouldBeDone_23 : decode cX9_whatWouldBeDone 23 = .ok (.invokevirtual 214, 3) := by decide +kernel
theorem dX9_whatWouldBeDone_26 : decode cX9_whatWouldBeDone 26 = .ok (.ireturn, 1) := by decide +kernel
def bX9_whatWouldBeDone_0 (w : ab_W) (s_X3_copyFrom : ab_S) (s_X3_takeWhatArrives : ab_S) (s_X3_planOf : ab_S) (M : Nat → ab_P) (Kn : Option Value → ab_H → Prop) : ab_P := ab_ald 0 (ab_gr w 9 120 (ab_ald 0 (ab_gr w 9 40 (ab_cV w 2 3 s_X3_copyFrom (ab_ald 0 (ab_gr w 9 120 (ab_cV w 1 3 s_X3_takeWhatArrives (ab_ald 0 (ab_gr w 9 120 (ab_ild 1 (ab_cV w 2 3 s_X3_planOf (ab_ir Kn))))))))))))
set_option maxRecDepth 20000 in
set_option maxHeartbeats 2000000 in
theorem vc_X9_whatWouldBeDone {l : Launch} (hl : l.stackTraces = false) {w : ab_W} (hI : ab_Inj w) {mc : Nat} {σ : ab_H} {As : List Value} {Kn : Option Value → ab_H → Prop} {Kx : String → ab_H → Prop} {s_X3_copyFrom : ab_S} (ok_X3_copyFrom : ab_OkN l yX3_copyFrom (Cond.code yX3_copyFrom cX3_copyFrom 2 none) 4 s_X3_copyFrom) {s_X3_takeWhatArrives : ab_S} (ok_X3_takeWhatArrives : ab_OkN l yX3_takeWhatArrives (Cond.code yX3_takeWhatArrives cX3_takeWhatArrives 2 none) 4 s_X3_takeWhatArrives) {s_X3_planOf : ab_S} (ok_X3_planOf : ab_OkN l yX3_planOf (Cond.code yX3_planOf cX3_planOf 2 (some .int)) 3 s_X3_planOf) (hlen : (ab_xl As).length ≤ 2) (h : ∀ M : Nat → ab_P, (∀ L st σ, bX9_whatWouldBeDone_0 w s_X3_copyFrom s_X3_takeWhatArrives s_X3_planOf M Kn L st σ → M 0 L st σ) → M 0 (ab_pd 2 (ab_xl As)) [] σ) : ab_Met l yX9_whatWouldBeDone (Cond.code yX9_whatWouldBeDone cX9_whatWouldBeDone 2 (some .int)) 5 mc w σ As Kn Kx := by
  refine ab_enter (by decide) hl hI hlen (by decide) ?_
  intro p e R s m args below meth c C hno hr
  exact h _ (sd_aload_n C (i := 0) dX9_whatWouldBeDone_0 rfl (sd_gr C (ci := 9) (k := 3) (r := (RX9, TX9, 7)) rfl (by decide) rfl wd_295 dX9_whatWouldBeDone_1 (sd_aload_n C (i := 0) dX9_whatWouldBeDone_4 rfl (sd_gr C (ci := 9) (k := 1) (r := (RX9, TX9, 7)) rfl (by decide) rfl wd_293 dX9_whatWouldBeDone_5 (sd_cV C ok_X3_copyFrom (ci := 3) (row := (RX3, TX3, 13)) rfl rfl ⟨by decide, by decide, wd_422, wd_3, by decide +kernel⟩ wd_419 wd_420 wd_421 dX9_whatWouldBeDone_8 (sd_aload_n C (i := 0) dX9_whatWouldBeDone_11 rfl (sd_gr C (ci := 9) (k := 3) (r := (RX9, TX9, 7)) rfl (by decide) rfl wd_295 dX9_whatWouldBeDone_12 (sd_cV C ok_X3_takeWhatArrives (ci := 3) (row := (RX3, TX3, 13)) rfl rfl ⟨by decide, by decide, wd_538, wd_3, by decide +kernel⟩ wd_721 wd_536 wd_537 dX9_whatWouldBeDone_15 (sd_aload_n C (i := 0) dX9_whatWouldBeDone_18 rfl (sd_gr C (ci := 9) (k := 3) (r := (RX9, TX9, 7)) rfl (by decide) rfl wd_295 dX9_whatWouldBeDone_19 (sd_iload_n C (i := 1) dX9_whatWouldBeDone_22 rfl (sd_cV C ok_X3_planOf (ci := 3) (row := (RX3, TX3, 13)) rfl rfl ⟨by decide, by decide, wd_564, wd_3, by decide +kernel⟩ wd_722 wd_562 wd_563 dX9_whatWouldBeDone_23 (sd_ir C hr dX9_whatWouldBeDone_26)))))))))))))
theorem dX9_station_0 : decode cX9_station 0 = .ok (.aload_n 0, 1) := by decide +kernel
theorem dX9_station_1 : decode cX9_station 1 = .ok (.iload_n 1, 1) := by decide +kernel
theorem dX9_station_2 : decode cX9_station 2 = .ok (.invokevirtual 182, 3) := by decide +kernel
theorem dX9_station_5 : decode cX9_station 5 = .ok (.aload_n 0, 1) := by decide +kernel
theorem dX9_station_6 : decode cX9_station 6 = .ok (.getfield 19, 3) := by decide +kernel
theorem dX9_station_9 : decode cX9_station 9 = .ok (.getfield 122, 3) := by decide +kernel
theorem dX9_station_12 : decode cX9_station 12 = .ok (.astore_n 3, 1) := by decide +kernel
theorem dX9_station_13 : decode cX9_station 13 = .ok (.iload_n 2, 1) := by decide +kernel
theorem dX9_station_14 : decode cX9_station 14 = .ok (.tableswitch 100 0 7 #[46, 53, 60, 67, 74, 80, 87, 94], 46) := by decide +kernel
theorem dX9_station_60 : decode cX9_station 60 = .ok (.aload_n 3, 1) := by decide +kernel
theorem dX9_station_61 : decode cX9_station 61 = .ok (.getfield 186, 3) := by decide +kernel
theorem dX9_station_64 : decode cX9_station 64 = .ok (.iload_n 1, 1) := by decide +kernel
theorem dX9_station_65 : decode cX9_station 65 = .ok (.iaload, 1) := by decide +kernel
theorem dX9_station_66 : decode cX9_station 66 = .ok (.ireturn, 1) := by decide +kernel
theorem dX9_station_67 : decode cX9_station 67 = .ok (.aload_n 3, 1) := by decide +kernel
theorem dX9_station_68 : decode cX9_station 68 = .ok (.getfield 189, 3) := by decide +kernel
theorem dX9_station_71 : decode cX9_station 71 = .ok (.iload_n 1, 1) := by decide +kernel
theorem dX9_station_72 : decode cX9_station 72 = .ok (.iaload, 1) := by decide +kernel
theorem dX9_station_73 : decode cX9_station 73 = .ok (.ireturn, 1) := by decide +kernel
theorem dX9_station_74 : decode cX9_station 74 = .ok (.aload_n 3, 1) := by decide +kernel
theorem dX9_station_75 : decode cX9_station 75 = .ok (.getfield 192, 3) := by decide +kernel
theorem dX9_station_78 : decode cX9_station 78 = .ok (.iload_n 1, 1) := by decide +kernel
theorem dX9_station_79 : decode cX9_station 79 = .ok (.iaload, 1) := by decide +kernel
theorem dX9_station_80 : decode cX9_station 80 = .ok (.ireturn, 1) := by decide +kernel
theorem dX9_station_81 : decode cX9_station 81 = .ok (.aload_n 3, 1) := by decide +kernel
theorem dX9_station_82 : decode cX9_station 82 = .ok (.getfield 195, 3) := by decide +kernel
theorem dX9_station_85 : decode cX9_station 85 = .ok (.iload_n 1, 1) := by decide +kernel
theorem dX9_station_86 : decode cX9_station 86 = .ok (.iaload, 1) := by decide +kernel
theorem dX9_station_87 : decode cX9_station 87 = .ok (.ireturn, 1) := by decide +kernel
theorem dX9_station_88 : decode cX9_station 88 = .ok (.aload_n 3, 1) := by decide +kernel
theorem dX9_station_89 : decode cX9_station 89 = .ok (.iload_n 1, 1) := by decide +kernel
theorem dX9_station_90 : decode cX9_station 90 = .ok (.invokevirtual 198, 3) := by decide +kernel
theorem dX9_station_93 : decode cX9_station 93 = .ok (.ireturn, 1) := by decide +kernel
theorem dX9_station_94 : decode cX9_station 94 = .ok (.aload_n 3, 1) := by decide +kernel
theorem dX9_station_95 : decode cX9_station 95 = .ok (.getfield 202, 3) := by decide +kernel
theorem dX9_station_98 : decode cX9_station 98 = .ok (.iload_n 1, 1) := by decide +kernel
theorem dX9_station_99 : decode cX9_station 99 = .ok (.iaload, 1) := by decide +kernel
theorem dX9_station_100 : decode cX9_station 100 = .ok (.ireturn, 1) := by decide +kernel
theorem dX9_station_101 : decode cX9_station 101 = .ok (.aload_n 3, 1) := by decide +kernel
theorem dX9_station_102 : decode cX9_station 102 = .ok (.getfield 204, 3) := by decide +kernel
theorem dX9_station_105 : decode cX9_station 105 = .ok (.iload_n 1, 1) := by decide +kernel
theorem dX9_station_106 : decode cX9_station 106 = .ok (.iaload, 1) := by decide +kernel
theorem dX9_station_107 : decode cX9_station 107 = .ok (.ireturn, 1) := by decide +kernel
theorem dX9_station_108 : decode cX9_station 108 = .ok (.aload_n 0, 1) := by decide +kernel
theorem dX9_station_109 : decode cX9_station 109 = .ok (.iload_n 1, 1) := by decide +kernel
theorem dX9_station_110 : decode cX9_station 110 = .ok (.invokevirtual 206, 3) := by decide +kernel
theorem dX9_station_113 : decode cX9_station 113 = .ok (.ireturn, 1) := by decide +kernel
theorem dX9_station_114 : decode cX9_station 114 = .ok (.new 50, 3) := by decide +kernel
theorem dX9_station_117 : decode cX9_station 117 = .ok (.dup, 1) := by decide +kernel
theorem dX9_station_118 : decode cX9_station 118 = .ok (.ldc 209, 2) := by decide +kernel
theorem dX9_station_120 : decode cX9_station 120 = .ok (.invokespecial 54, 3) := by decide +kernel
theorem dX9_station_123 : decode cX9_station 123 = .ok (.athrow, 1) := by decide +kernel
def bX9_station_0 (w : ab_W) (mc : Nat) (s_X9_needStation : ab_S) (s_X7_sondesOf : ab_S) (s_X9_whatWouldBeDone : ab_S) (x_X9_needStation : ab_SX) (M : Nat → ab_P) (Kn : Option Value → ab_H → Prop) (Kx : String → ab_H → Prop) : ab_P := ab_ald 0 (ab_ild 1 (ab_cVX w mc 2 9 s_X9_needStation x_X9_needStation Kx (ab_ald 0 (ab_gr w 9 40 (ab_gr w 3 1 (ab_ast 3 (ab_ild 2 (ab_sw [(nI 0, ab_ald 3 (ab_gr w 7 1 (ab_ild 1 (ab_ia w 11 (ab_ir Kn))))), (nI 1, ab_ald 3 (ab_gr w 7 2 (ab_ild 1 (ab_ia w 11 (ab_ir Kn))))), (nI 2, ab_ald 3 (ab_gr w 7 3 (ab_ild 1 (ab_ia w 11 (ab_ir Kn))))), (nI 3, ab_ald 3 (ab_gr w 7 4 (ab_ild 1 (ab_ia w 11 (ab_ir Kn))))), (nI 4, ab_ald 3 (ab_ild 1 (ab_cV w 2 7 s_X7_sondesOf (ab_ir Kn)))), (nI 5, ab_ald 3 (ab_gr w 7 5 (ab_ild 1 (ab_ia w 11 (ab_ir Kn))))), (nI 6, ab_ald 3 (ab_gr w 7 6 (ab_ild 1 (ab_ia w 11 (ab_ir Kn))))), (nI 7, ab_ald 0 (ab_ild 1 (ab_cV w 2 9 s_X9_whatWouldBeDone (ab_ir Kn))))] (ab_th mc "java/lang/IllegalArgumentException" Kx)))))))))
set_option maxRecDepth 20000 in
set_option maxHeartbeats 2000000 in
theorem vc_X9_station {l : Launch} (hl : l.stackTraces = false) {w : ab_W} (hI : ab_Inj w) {mc : Nat} {σ : ab_H} {As : List Value} {Kn : Option Value → ab_H → Prop} {Kx : String → ab_H → Prop} {s_X9_needStation : ab_S} (ok_X9_needStation : ab_OkN l yX9_needStation (Cond.code yX9_needStation cX9_needStation 2 none) 6 s_X9_needStation) {s_X7_sondesOf : ab_S} (ok_X7_sondesOf : ab_OkN l yX7_sondesOf (Cond.code yX7_sondesOf cX7_sondesOf 4 (some .int)) 2 s_X7_sondesOf) {s_X9_whatWouldBeDone : ab_S} (ok_X9_whatWouldBeDone : ab_OkN l yX9_whatWouldBeDone (Cond.code yX9_whatWouldBeDone cX9_whatWouldBeDone 2 (some .int)) 5 s_X9_whatWouldBeDone) {x_X9_needStation : ab_SX} (okx_X9_needStation : ab_OkX l yX9_needStation (Cond.code yX9_needStation cX9_needStation 2 none) 6 x_X9_needStation) (hlen : (ab_xl As).length ≤ 4) (h : ∀ M : Nat → ab_P, (∀ L st σ, bX9_station_0 w mc s_X9_needStation s_X7_sondesOf s_X9_whatWouldBeDone x_X9_needStation M Kn Kx L st σ → M 0 L st σ) → M 0 (ab_pd 4 (ab_xl As)) [] σ) : ab_Met l yX9_station (Cond.code yX9_station cX9_station 4 (some .int)) 7 mc w σ As Kn Kx := by
  refine ab_enter (by decide) hl hI hlen (by decide) ?_
  intro p e R s m args below meth c C hno hr
  exact h _ (sd_aload_n C (i := 0) dX9_station_0 rfl (sd_iload_n C (i := 1) dX9_station_1 rfl (sd_cVX C hno ok_X9_needStation okx_X9_needStation (ci := 9) (row := (RX9, TX9, 7)) rfl rfl ⟨by decide, by decide, wd_713, wd_1, by decide +kernel⟩ wd_710 wd_712 ws_10 dX9_station_2 (sd_aload_n C (i := 0) dX9_station_5 rfl (sd_gr C (ci := 9) (k := 1) (r := (RX9, TX9, 7)) rfl (by decide) rfl wd_293 dX9_station_6 (sd_gr C (ci := 3) (k := 0) (r := (RX3, TX3, 13)) rfl (by decide) rfl wd_204 dX9_station_9 (sd_astore_n C (i := 3) dX9_station_12 rfl (by decide) (sd_iload_n C (i := 2) dX9_station_13 rfl (sd_table C (td := 114) dX9_station_14 8 (by decide +kernel : ([nI 0, nI 1, nI 2, nI 3, nI 4, nI 5, nI 6, nI 7] : List Int32) = _) (by decide) (List.forall_mem_cons.mpr ⟨⟨46, 60, (by decide +kernel : ¬ (nI 0 : Int32).toInt < 0), (by decide +kernel : ¬ (7 : Int) < (nI 0 : Int32).toInt), (by decide +kernel : (#[46, 53, 60, 67, 74, 80, 87, 94] : Array Int)[((nI 0 : Int32).toInt - 0).toNat]? = some 46), (by decide), (sd_aload_n C (i := 3) dX9_station_60 rfl (sd_gr C (ci := 7) (k := 1) (r := (RX7, TX7, 8)) rfl (by decide) rfl wd_70 dX9_station_61 (sd_iload_n C (i := 1) dX9_station_64 rfl (sd_ia C dX9_station_65 (sd_ir C hr dX9_station_66)))))⟩, (List.forall_mem_cons.mpr ⟨⟨53, 67, (by decide +kernel : ¬ (nI 1 : Int32).toInt < 0), (by decide +kernel : ¬ (7 : Int) < (nI 1 : Int32).toInt), (by decide +kernel : (#[46, 53, 60, 67, 74, 80, 87, 94] : Array Int)[((nI 1 : Int32).toInt - 0).toNat]? = some 53), (by decide), (sd_aload_n C (i := 3) dX9_station_67 rfl (sd_gr C (ci := 7) (k := 2) (r := (RX7, TX7, 8)) rfl (by decide) rfl wd_73 dX9_station_68 (sd_iload_n C (i := 1) dX9_station_71 rfl (sd_ia C dX9_station_72 (sd_ir C hr dX9_station_73)))))⟩, (List.forall_mem_cons.mpr ⟨⟨60, 74, (by decide +kernel : ¬ (nI 2 : Int32).toInt < 0), (by decide +kernel : ¬ (7 : Int) < (nI 2 : Int32).toInt), (by decide +kernel : (#[46, 53, 60, 67, 74, 80, 87, 94] : Array Int)[((nI 2 : Int32).toInt - 0).toNat]? = some 60), (by decide), (sd_aload_n C (i := 3) dX9_station_74 rfl (sd_gr C (ci := 7) (k := 3) (r := (RX7, TX7, 8)) rfl (by decide) rfl wd_76 dX9_station_75 (sd_iload_n C (i := 1) dX9_station_78 rfl (sd_ia C dX9_station_79 (sd_ir C hr dX9_station_80)))))⟩, (List.forall_mem_cons.mpr ⟨⟨67, 81, (by decide +kernel : ¬ (nI 3 : Int32).toInt < 0), (by decide +kernel : ¬ (7 : Int) < (nI 3 : Int32).toInt), (by decide +kernel : (#[46, 53, 60, 67, 74, 80, 87, 94] : Array Int)[((nI 3 : Int32).toInt - 0).toNat]? = some 67), (by decide), (sd_aload_n C (i := 3) dX9_station_81 rfl (sd_gr C (ci := 7) (k := 4) (r := (RX7, TX7, 8)) rfl (by decide) rfl wd_79 dX9_station_82 (sd_iload_n C (i := 1) dX9_station_85 rfl (sd_ia C dX9_station_86 (sd_ir C hr dX9_station_87)))))⟩, (List.forall_mem_cons.mpr ⟨⟨74, 88, (by decide +kernel : ¬ (nI 4 : Int32).toInt < 0), (by decide +kernel : ¬ (7 : Int) < (nI 4 : Int32).toInt), (by decide +kernel : (#[46, 53, 60, 67, 74, 80, 87, 94] : Array Int)[((nI 4 : Int32).toInt - 0).toNat]? = some 74), (by decide), (sd_aload_n C (i := 3) dX9_station_88 rfl (sd_iload_n C (i := 1) dX9_station_89 rfl (sd_cV C ok_X7_sondesOf (ci := 7) (row := (RX7, TX7, 8)) rfl rfl ⟨by decide, by decide, wd_667, wd_4, by decide +kernel⟩ wd_716 wd_665 wd_666 dX9_station_90 (sd_ir C hr dX9_station_93))))⟩, (List.forall_mem_cons.mpr ⟨⟨80, 94, (by decide +kernel : ¬ (nI 5 : Int32).toInt < 0), (by decide +kernel : ¬ (7 : Int) < (nI 5 : Int32).toInt), (by decide +kernel : (#[46, 53, 60, 67, 74, 80, 87, 94] : Array Int)[((nI 5 : Int32).toInt - 0).toNat]? = some 80), (by decide), (sd_aload_n C (i := 3) dX9_station_94 rfl (sd_gr C (ci := 7) (k := 5) (r := (RX7, TX7, 8)) rfl (by decide) rfl wd_82 dX9_station_95 (sd_iload_n C (i := 1) dX9_station_98 rfl (sd_ia C dX9_station_99 (sd_ir C hr dX9_station_100)))))⟩, (List.forall_mem_cons.mpr ⟨⟨87, 101, (by decide +kernel : ¬ (nI 6 : Int32).toInt < 0), (by decide +kernel : ¬ (7 : Int) < (nI 6 : Int32).toInt), (by decide +kernel : (#[46, 53, 60, 67, 74, 80, 87, 94] : Array Int)[((nI 6 : Int32).toInt - 0).toNat]? = some 87), (by decide), (sd_aload_n C (i := 3) dX9_station_101 rfl (sd_gr C (ci := 7) (k := 6) (r := (RX7, TX7, 8)) rfl (by decide) rfl wd_85 dX9_station_102 (sd_iload_n C (i := 1) dX9_station_105 rfl (sd_ia C dX9_station_106 (sd_ir C hr dX9_station_107)))))⟩, (List.forall_mem_cons.mpr ⟨⟨94, 108, (by decide +kernel : ¬ (nI 7 : Int32).toInt < 0), (by decide +kernel : ¬ (7 : Int) < (nI 7 : Int32).toInt), (by decide +kernel : (#[46, 53, 60, 67, 74, 80, 87, 94] : Array Int)[((nI 7 : Int32).toInt - 0).toNat]? = some 94), (by decide), (sd_aload_n C (i := 0) dX9_station_108 rfl (sd_iload_n C (i := 1) dX9_station_109 rfl (sd_cV C ok_X9_whatWouldBeDone (ci := 9) (row := (RX9, TX9, 7)) rfl rfl ⟨by decide, by decide, wd_720, wd_1, by decide +kernel⟩ wd_717 wd_719 ws_11 dX9_station_110 (sd_ir C hr dX9_station_113))))⟩, (fun _ h => absurd h List.not_mem_nil)⟩)⟩)⟩)⟩)⟩)⟩)⟩)⟩) (by decide) (sd_th C hno (text := "a station has the numbers 0 to 7") (by decide) tw_50_54 wd_668 wd_14 (by decide +kernel) (by decide) dX9_station_114 dX9_station_117 dX9_station_118 dX9_station_120 dX9_station_123))))))))))
theorem dX9_need_0 : decode cX9_need 0 = .ok (.iload_n 0, 1) := by decide +kernel
theorem dX9_need_1 : decode cX9_need 1 = .ok (.ifCond .ne 14, 3) := by decide +kernel
theorem dX9_need_4 : decode cX9_need 4 = .ok (.new 50, 3) := by decide +kernel
theorem dX9_need_7 : decode cX9_need 7 = .ok (.dup, 1) := by decide +kernel
theorem dX9_need_8 : decode cX9_need 8 = .ok (.ldc_w 370, 3) := by decide +kernel
theorem dX9_need_11 : decode cX9_need 11 = .ok (.invokespecial 54, 3) := by decide +kernel
theorem dX9_need_14 : decode cX9_need 14 = .ok (.athrow, 1) := by decide +kernel
theorem dX9_need_15 : decode cX9_need 15 = .ok (.return_, 1) := by decide +kernel
def bX9_need_0 (w : ab_W) (mc : Nat) (M : Nat → ab_P) (Kn : Option Value → ab_H → Prop) (Kx : String → ab_H → Prop) : ab_P := ab_ild 0 (ab_if1 (fun x => ¬ x = 0) (ab_vr Kn) (ab_th mc "java/lang/IllegalArgumentException" Kx))
set_option maxRecDepth 20000 in
set_option maxHeartbeats 2000000 in
theorem vc_X9_need {l : Launch} (hl : l.stackTraces = false) {w : ab_W} (hI : ab_Inj w) {mc : Nat} {σ : ab_H} {As : List Value} {Kn : Option Value → ab_H → Prop} {Kx : String → ab_H → Prop} (hlen : (ab_xl As).length ≤ 1) (h : ∀ M : Nat → ab_P, (∀ L st σ, bX9_need_0 w mc M Kn Kx L st σ → M 0 L st σ) → M 0 (ab_pd 1 (ab_xl As)) [] σ) : ab_Met l yX9_need (Cond.code yX9_need cX9_need 1 none) 6 mc w σ As Kn Kx := by
  refine ab_enter (by decide) hl hI hlen (by decide) ?_
  intro p e R s m args below meth c C hno hr
  exact h _ (sd_iload_n C (i := 0) dX9_need_0 rfl (sd_if_ne C dX9_need_1 (tgt := 15) (by decide) (sd_vr C hr dX9_need_15) (sd_thW C hno (text := "an argument is out of its range") (by decide) tw_50_54 wd_668 wd_14 (by decide +kernel) (by decide) dX9_need_4 dX9_need_7 dX9_need_8 dX9_need_11 dX9_need_14)))
theorem dX9_stock_0 : decode cX9_stock 0 = .ok (.aload_n 0, 1) := by decide +kernel
theorem dX9_stock_1 : decode cX9_stock 1 = .ok (.iload_n 1, 1) := by decide +kernel
theorem dX9_stock_2 : decode cX9_stock 2 = .ok (.invokevirtual 182, 3) := by decide +kernel
theorem dX9_stock_5 : decode cX9_stock 5 = .ok (.iload_n 2, 1) := by decide +kernel
theorem dX9_stock_6 : decode cX9_stock 6 = .ok (.iconst 0, 1) := by decide +kernel
theorem dX9_stock_7 : decode cX9_stock 7 = .ok (.iconst 4, 1) := by decide +kernel
theorem dX9_stock_8 : decode cX9_stock 8 = .ok (.invokestatic 46, 3) := by decide +kernel
theorem dX9_stock_11 : decode cX9_stock 11 = .ok (.invokestatic 217, 3) := by decide +kernel
theorem dX9_stock_14 : decode cX9_stock 14 = .ok (.aload_n 0, 1) := by decide +kernel
theorem dX9_stock_15 : decode cX9_stock 15 = .ok (.getfield 19, 3) := by decide +kernel
theorem dX9_stock_18 : decode cX9_stock 18 = .ok (.getfield 122, 3) := by decide +kernel
theorem dX9_stock_21 : decode cX9_stock 21 = .ok (.iload_n 1, 1) := by decide +kernel
theorem dX9_stock_22 : decode cX9_stock 22 = .ok (.iload_n 2, 1) := by decide +kernel
theorem dX9_stock_23 : decode cX9_stock 23 = .ok (.invokevirtual 221, 3) := by decide +kernel
theorem dX9_stock_26 : decode cX9_stock 26 = .ok (.ireturn, 1) := by decide +kernel
def bX9_stock_0 (w : ab_W) (mc : Nat) (s_X9_needStation : ab_S) (s_X9_within : ab_S) (s_X9_need : ab_S) (s_X7_sondesWith : ab_S) (x_X9_needStation : ab_SX) (x_X9_need : ab_SX) (M : Nat → ab_P) (Kn : Option Value → ab_H → Prop) (Kx : String → ab_H → Prop) : ab_P := ab_ald 0 (ab_ild 1 (ab_cVX w mc 2 9 s_X9_needStation x_X9_needStation Kx (ab_ild 2 (ab_ci (nI 0) (ab_ci (nI 4) (ab_cN w 3 s_X9_within (ab_cSX w mc 1 s_X9_need x_X9_need Kx (ab_ald 0 (ab_gr w 9 40 (ab_gr w 3 1 (ab_ild 1 (ab_ild 2 (ab_cV w 3 7 s_X7_sondesWith (ab_ir Kn))))))))))))))
set_option maxRecDepth 20000 in
set_option maxHeartbeats 2000000 in
theorem vc_X9_stock {l : Launch} (hl : l.stackTraces = false) {w : ab_W} (hI : ab_Inj w) {mc : Nat} {σ : ab_H} {As : List Value} {Kn : Option Value → ab_H → Prop} {Kx : String → ab_H → Prop} {s_X9_needStation : ab_S} (ok_X9_needStation : ab_OkN l yX9_needStation (Cond.code yX9_needStation cX9_needStation 2 none) 6 s_X9_needStation) {s_X9_within : ab_S} (ok_X9_within : ab_OkN l yX9_within (Cond.code yX9_within cX9_within 3 (some .boolean)) 1 s_X9_within) {s_X9_need : ab_S} (ok_X9_need : ab_OkN l yX9_need (Cond.code yX9_need cX9_need 1 none) 6 s_X9_need) {s_X7_sondesWith : ab_S} (ok_X7_sondesWith : ab_OkN l yX7_sondesWith (Cond.code yX7_sondesWith cX7_sondesWith 4 (some .int)) 2 s_X7_sondesWith) {x_X9_needStation : ab_SX} (okx_X9_needStation : ab_OkX l yX9_needStation (Cond.code yX9_needStation cX9_needStation 2 none) 6 x_X9_needStation) {x_X9_need : ab_SX} (okx_X9_need : ab_OkX l yX9_need (Cond.code yX9_need cX9_need 1 none) 6 x_X9_need) (hlen : (ab_xl As).length ≤ 3) (h : ∀ M : Nat → ab_P, (∀ L st σ, bX9_stock_0 w mc s_X9_needStation s_X9_within s_X9_need s_X7_sondesWith x_X9_needStation x_X9_need M Kn Kx L st σ → M 0 L st σ) → M 0 (ab_pd 3 (ab_xl As)) [] σ) : ab_Met l yX9_stock (Cond.code yX9_stock cX9_stock 3 (some .int)) 7 mc w σ As Kn Kx := by
  refine ab_enter (by decide) hl hI hlen (by decide) ?_
  intro p e R s m args below meth c C hno hr
  exact h _ (sd_aload_n C (i := 0) dX9_stock_0 rfl (sd_iload_n C (i := 1) dX9_stock_1 rfl (sd_cVX C hno ok_X9_needStation okx_X9_needStation (ci := 9) (row := (RX9, TX9, 7)) rfl rfl ⟨by decide, by decide, wd_713, wd_1, by decide +kernel⟩ wd_710 wd_712 ws_10 dX9_stock_2 (sd_iload_n C (i := 2) dX9_stock_5 rfl (sd_iconst C (x := nI 0) dX9_stock_6 (by decide +kernel) (sd_iconst C (x := nI 4) dX9_stock_7 (by decide +kernel) (sd_cS C ok_X9_within ⟨by decide, by decide, wd_477, wd_1, by decide +kernel⟩ wd_618 wd_476 dX9_stock_8 (sd_cSX C hno ok_X9_need okx_X9_need ⟨by decide, by decide, wd_694, wd_1, by decide +kernel⟩ wd_692 wd_693 dX9_stock_11 (sd_aload_n C (i := 0) dX9_stock_14 rfl (sd_gr C (ci := 9) (k := 1) (r := (RX9, TX9, 7)) rfl (by decide) rfl wd_293 dX9_stock_15 (sd_gr C (ci := 3) (k := 0) (r := (RX3, TX3, 13)) rfl (by decide) rfl wd_204 dX9_stock_18 (sd_iload_n C (i := 1) dX9_stock_21 rfl (sd_iload_n C (i := 2) dX9_stock_22 rfl (sd_cV C ok_X7_sondesWith (ci := 7) (row := (RX7, TX7, 8)) rfl rfl ⟨by decide, by decide, wd_734, wd_4, by decide +kernel⟩ wd_731 wd_732 wd_733 dX9_stock_23 (sd_ir C hr dX9_stock_26)))))))))))))))
theorem dX9_finder_0 : decode cX9_finder 0 = .ok (.aload_n 0, 1) := by decide +kernel
theorem dX9_finder_1 : decode cX9_finder 1 = .ok (.getfield 19, 3) := by decide +kernel
theorem dX9_finder_4 : decode cX9_finder 4 = .ok (.getfield 131, 3) := by decide +kernel
theorem dX9_finder_7 : decode cX9_finder 7 = .ok (.astore_n 3, 1) := by decide +kernel
theorem dX9_finder_8 : decode cX9_finder 8 = .ok (.aload_n 3, 1) := by decide +kernel
theorem dX9_finder_9 : decode cX9_finder 9 = .ok (.iload_n 1, 1) := by decide +kernel
theorem dX9_finder_10 : decode cX9_finder 10 = .ok (.invokevirtual 225, 3) := by decide +kernel
theorem dX9_finder_13 : decode cX9_finder 13 = .ok (.ifCond .ne 13, 3) := by decide +kernel
theorem dX9_finder_16 : decode cX9_finder 16 = .ok (.new 229, 3) := by decide +kernel
theorem dX9_finder_19 : decode cX9_finder 19 = .ok (.dup, 1) := by decide +kernel
theorem dX9_finder_20 : decode cX9_finder 20 = .ok (.ldc 231, 2) := by decide +kernel
theorem dX9_finder_22 : decode cX9_finder 22 = .ok (.invokespecial 233, 3) := by decide +kernel
theorem dX9_finder_25 : decode cX9_finder 25 = .ok (.athrow, 1) := by decide +kernel
theorem dX9_finder_26 : decode cX9_finder 26 = .ok (.iload_n 2, 1) := by decide +kernel
theorem dX9_finder_27 : decode cX9_finder 27 = .ok (.tableswitch 78 0 4 #[33, 40, 47, 54, 61], 33) := by decide +kernel
theorem dX9_finder_60 : decode cX9_finder 60 = .ok (.aload_n 3, 1) := by decide +kernel
theorem dX9_finder_61 : decode cX9_finder 61 = .ok (.getfield 234, 3) := by decide +kernel
theorem dX9_finder_64 : decode cX9_finder 64 = .ok (.iload_n 1, 1) := by decide +kernel
theorem dX9_finder_65 : decode cX9_finder 65 = .ok (.iaload, 1) := by decide +kernel
theorem dX9_finder_66 : decode cX9_finder 66 = .ok (.ireturn, 1) := by decide +kernel
theorem dX9_finder_67 : decode cX9_finder 67 = .ok (.aload_n 3, 1) := by decide +kernel
theorem dX9_finder_68 : decode cX9_finder 68 = .ok (.getfield 235, 3) := by decide +kernel
theorem dX9_finder_71 : decode cX9_finder 71 = .ok (.iload_n 1, 1) := by decide +kernel
theorem dX9_finder_72 : decode cX9_finder 72 = .ok (.iaload, 1) := by decide +kernel
theorem dX9_finder_73 : decode cX9_finder 73 = .ok (.ireturn, 1) := by decide +kernel
theorem dX9_finder_74 : decode cX9_finder 74 = .ok (.aload_n 3, 1) := by decide +kernel
theorem dX9_finder_75 : decode cX9_finder 75 = .ok (.getfield 238, 3) := by decide +kernel
theorem dX9_finder_78 : decode cX9_finder 78 = .ok (.iload_n 1, 1) := by decide +kernel
theorem dX9_finder_79 : decode cX9_finder 79 = .ok (.iaload, 1) := by decide +kernel
theorem dX9_finder_80 : decode cX9_finder 80 = .ok (.ireturn, 1) := by decide +kernel
theorem dX9_finder_81 : decode cX9_finder 81 = .ok (.aload_n 3, 1) := by decide +kernel
theorem dX9_finder_82 : decode cX9_finder 82 = .ok (.getfield 241, 3) := by decide +kernel
theorem dX9_finder_85 : decode cX9_finder 85 = .ok (.iload_n 1, 1) := by decide +kernel
theorem dX9_finder_86 : decode cX9_finder 86 = .ok (.iaload, 1) := by decide +kernel
theorem dX9_finder_87 : decode cX9_finder 87 = .ok (.ireturn, 1) := by decide +kernel
theorem dX9_finder_88 : decode cX9_finder 88 = .ok (.aload_n 0, 1) := by decide +kernel
theorem dX9_finder_89 : decode cX9_finder 89 = .ok (.getfield 19, 3) := by decide +kernel
theorem dX9_finder_92 : decode cX9_finder 92 = .ok (.getfield 122, 3) := by decide +kernel
theorem dX9_finder_95 : decode cX9_finder 95 = .ok (.aload_n 3, 1) := by decide +kernel
theorem dX9_finder_96 : decode cX9_finder 96 = .ok (.getfield 234, 3) := by decide +kernel
theorem dX9_finder_99 : decode cX9_finder 99 = .ok (.iload_n 1, 1) := by decide +kernel
theorem dX9_finder_100 : decode cX9_finder 100 = .ok (.iaload, 1) := by decide +kernel
theorem dX9_finder_101 : decode cX9_finder 101 = .ok (.invokevirtual 244, 3) := by decide +kernel
theorem dX9_finder_104 : decode cX9_finder 104 = .ok (.ireturn, 1) := by decide +kernel
theorem dX9_finder_105 : decode cX9_finder 105 = .ok (.new 50, 3) := by decide +kernel
theorem dX9_finder_108 : decode cX9_finder 108 = .ok (.dup, 1) := by decide +kernel
theorem dX9_finder_109 : decode cX9_finder 109 = .ok (.ldc 247, 2) := by decide +kernel
theorem dX9_finder_111 : decode cX9_finder 111 = .ok (.invokespecial 54, 3) := by decide +kernel
theorem dX9_finder_114 : decode cX9_finder 114 = .ok (.athrow, 1) := by decide +kernel
def bX9_finder_0 (w : ab_W) (mc : Nat) (s_X0_has : ab_S) (s_X7_nearestTo : ab_S) (M : Nat → ab_P) (Kn : Option Value → ab_H → Prop) (Kx : String → ab_H → Prop) : ab_P := ab_ald 0 (ab_gr w 9 40 (ab_gr w 3 9 (ab_ast 3 (ab_ald 3 (ab_ild 1 (ab_cV w 2 0 s_X0_has (ab_if1 (fun x => ¬ x = 0) (ab_ild 2 (ab_sw [(nI 0, ab_ald 3 (ab_gr w 0 1 (ab_ild 1 (ab_ia w 11 (ab_ir Kn))))), (nI 1, ab_ald 3 (ab_gr w 0 2 (ab_ild 1 (ab_ia w 11 (ab_ir Kn))))), (nI 2, ab_ald 3 (ab_gr w 0 3 (ab_ild 1 (ab_ia w 11 (ab_ir Kn))))), (nI 3, ab_ald 3 (ab_gr w 0 4 (ab_ild 1 (ab_ia w 11 (ab_ir Kn))))), (nI 4, ab_ald 0 (ab_gr w 9 40 (ab_gr w 3 1 (ab_ald 3 (ab_gr w 0 1 (ab_ild 1 (ab_ia w 11 (ab_cV w 2 7 s_X7_nearestTo (ab_ir Kn)))))))))] (ab_th mc "java/lang/IllegalArgumentException" Kx))) (ab_th mc "java/lang/IndexOutOfBoundsException" Kx))))))))
set_option maxRecDepth 20000 in
set_option maxHeartbeats 2000000 in
theorem vc_X9_finder {l : Launch} (hl : l.stackTraces = false) {w : ab_W} (hI : ab_Inj w) {mc : Nat} {σ : ab_H} {As : List Value} {Kn : Option Value → ab_H → Prop} {Kx : String → ab_H → Prop} {s_X0_has : ab_S} (ok_X0_has : ab_OkN l yX0_has (Cond.code yX0_has cX0_has 2 (some .boolean)) 1 s_X0_has) {s_X7_nearestTo : ab_S} (ok_X7_nearestTo : ab_OkN l yX7_nearestTo (Cond.code yX7_nearestTo cX7_nearestTo 6 (some .int)) 2 s_X7_nearestTo) (hlen : (ab_xl As).length ≤ 4) (h : ∀ M : Nat → ab_P, (∀ L st σ, bX9_finder_0 w mc s_X0_has s_X7_nearestTo M Kn Kx L st σ → M 0 L st σ) → M 0 (ab_pd 4 (ab_xl As)) [] σ) : ab_Met l yX9_finder (Cond.code yX9_finder cX9_finder 4 (some .int)) 6 mc w σ As Kn Kx := by
  refine ab_enter (by decide) hl hI hlen (by decide) ?_
  intro p e R s m args below meth c C hno hr
  exact h _ (sd_aload_n C (i := 0) dX9_finder_0 rfl (sd_gr C (ci := 9) (k := 1) (r := (RX9, TX9, 7)) rfl (by decide) rfl wd_293 dX9_finder_1 (sd_gr C (ci := 3) (k := 1) (r := (RX3, TX3, 13)) rfl (by decide) rfl wd_206 dX9_finder_4 (sd_astore_n C (i := 3) dX9_finder_7 rfl (by decide) (sd_aload_n C (i := 3) dX9_finder_8 rfl (sd_iload_n C (i := 1) dX9_finder_9 rfl (sd_cV C ok_X0_has (ci := 0) (row := (RX0, TX0, 5)) rfl rfl ⟨by decide, by decide, wd_745, wd_5, by decide +kernel⟩ wd_742 wd_743 wd_744 dX9_finder_10 (sd_if_ne C dX9_finder_13 (tgt := 26) (by decide) (sd_iload_n C (i := 2) dX9_finder_26 rfl (sd_table C (td := 105) dX9_finder_27 5 (by decide +kernel : ([nI 0, nI 1, nI 2, nI 3, nI 4] : List Int32) = _) (by decide) (List.forall_mem_cons.mpr ⟨⟨33, 60, (by decide +kernel : ¬ (nI 0 : Int32).toInt < 0), (by decide +kernel : ¬ (4 : Int) < (nI 0 : Int32).toInt), (by decide +kernel : (#[33, 40, 47, 54, 61] : Array Int)[((nI 0 : Int32).toInt - 0).toNat]? = some 33), (by decide), (sd_aload_n C (i := 3) dX9_finder_60 rfl (sd_gr C (ci := 0) (k := 1) (r := (RX0, TX0, 5)) rfl (by decide) rfl wd_115 dX9_finder_61 (sd_iload_n C (i := 1) dX9_finder_64 rfl (sd_ia C dX9_finder_65 (sd_ir C hr dX9_finder_66)))))⟩, (List.forall_mem_cons.mpr ⟨⟨40, 67, (by decide +kernel : ¬ (nI 1 : Int32).toInt < 0), (by decide +kernel : ¬ (4 : Int) < (nI 1 : Int32).toInt), (by decide +kernel : (#[33, 40, 47, 54, 61] : Array Int)[((nI 1 : Int32).toInt - 0).toNat]? = some 40), (by decide), (sd_aload_n C (i := 3) dX9_finder_67 rfl (sd_gr C (ci := 0) (k := 2) (r := (RX0, TX0, 5)) rfl (by decide) rfl wd_118 dX9_finder_68 (sd_iload_n C (i := 1) dX9_finder_71 rfl (sd_ia C dX9_finder_72 (sd_ir C hr dX9_finder_73)))))⟩, (List.forall_mem_cons.mpr ⟨⟨47, 74, (by decide +kernel : ¬ (nI 2 : Int32).toInt < 0), (by decide +kernel : ¬ (4 : Int) < (nI 2 : Int32).toInt), (by decide +kernel : (#[33, 40, 47, 54, 61] : Array Int)[((nI 2 : Int32).toInt - 0).toNat]? = some 47), (by decide), (sd_aload_n C (i := 3) dX9_finder_74 rfl (sd_gr C (ci := 0) (k := 3) (r := (RX0, TX0, 5)) rfl (by decide) rfl wd_120 dX9_finder_75 (sd_iload_n C (i := 1) dX9_finder_78 rfl (sd_ia C dX9_finder_79 (sd_ir C hr dX9_finder_80)))))⟩, (List.forall_mem_cons.mpr ⟨⟨54, 81, (by decide +kernel : ¬ (nI 3 : Int32).toInt < 0), (by decide +kernel : ¬ (4 : Int) < (nI 3 : Int32).toInt), (by decide +kernel : (#[33, 40, 47, 54, 61] : Array Int)[((nI 3 : Int32).toInt - 0).toNat]? = some 54), (by decide), (sd_aload_n C (i := 3) dX9_finder_81 rfl (sd_gr C (ci := 0) (k := 4) (r := (RX0, TX0, 5)) rfl (by decide) rfl wd_123 dX9_finder_82 (sd_iload_n C (i := 1) dX9_finder_85 rfl (sd_ia C dX9_finder_86 (sd_ir C hr dX9_finder_87)))))⟩, (List.forall_mem_cons.mpr ⟨⟨61, 88, (by decide +kernel : ¬ (nI 4 : Int32).toInt < 0), (by decide +kernel : ¬ (4 : Int) < (nI 4 : Int32).toInt), (by decide +kernel : (#[33, 40, 47, 54, 61] : Array Int)[((nI 4 : Int32).toInt - 0).toNat]? = some 61), (by decide), (sd_aload_n C (i := 0) dX9_finder_88 rfl (sd_gr C (ci := 9) (k := 1) (r := (RX9, TX9, 7)) rfl (by decide) rfl wd_293 dX9_finder_89 (sd_gr C (ci := 3) (k := 0) (r := (RX3, TX3, 13)) rfl (by decide) rfl wd_204 dX9_finder_92 (sd_aload_n C (i := 3) dX9_finder_95 rfl (sd_gr C (ci := 0) (k := 1) (r := (RX0, TX0, 5)) rfl (by decide) rfl wd_115 dX9_finder_96 (sd_iload_n C (i := 1) dX9_finder_99 rfl (sd_ia C dX9_finder_100 (sd_cV C ok_X7_nearestTo (ci := 7) (row := (RX7, TX7, 8)) rfl rfl ⟨by decide, by decide, wd_595, wd_4, by decide +kernel⟩ wd_747 wd_593 wd_594 dX9_finder_101 (sd_ir C hr dX9_finder_104)))))))))⟩, (fun _ h => absurd h List.not_mem_nil)⟩)⟩)⟩)⟩)⟩) (by decide) (sd_th C hno (text := "a finder has the numbers 0 to 4") (by decide) tw_50_54 wd_668 wd_14 (by decide +kernel) (by decide) dX9_finder_105 dX9_finder_108 dX9_finder_109 dX9_finder_111 dX9_finder_114))) (sd_th C hno (text := "no such finder") (by decide) tw_229_233 wd_619 wd_15 (by decide +kernel) (by decide) dX9_finder_16 dX9_finder_19 dX9_finder_20 dX9_finder_22 dX9_finder_25)))))))))
theorem dX9_back_0 : decode cX9_back 0 = .ok (.iload_n 1, 1) := by decide +kernel
theorem dX9_back_1 : decode cX9_back 1 = .ok (.ifCond .lt 16, 3) := by decide +kernel
theorem dX9_back_4 : decode cX9_back 4 = .ok (.iload_n 2, 1) := by decide +kernel
theorem dX9_back_5 : decode cX9_back 5 = .ok (.iconst 0, 1) := by decide +kernel
theorem dX9_back_6 : decode cX9_back 6 = .ok (.iconst 2, 1) := by decide +kernel
theorem dX9_back_7 : decode cX9_back 7 = .ok (.invokestatic 46, 3) := by decide +kernel
theorem dX9_back_10 : decode cX9_back 10 = .ok (.ifCond .eq 7, 3) := by decide +kernel
theorem dX9_back_13 : decode cX9_back 13 = .ok (.iconst 1, 1) := by decide +kernel
theorem dX9_back_14 : decode cX9_back 14 = .ok (.goto 4, 3) := by decide +kernel
theorem dX9_back_17 : decode cX9_back 17 = .ok (.iconst 0, 1) := by decide +kernel
theorem dX9_back_18 : decode cX9_back 18 = .ok (.invokestatic 217, 3) := by decide +kernel
theorem dX9_back_21 : decode cX9_back 21 = .ok (.aload_n 0, 1) := by decide +kernel
theorem dX9_back_22 : decode cX9_back 22 = .ok (.getfield 19, 3) := by decide +kernel
theorem dX9_back_25 : decode cX9_back 25 = .ok (.getfield 163, 3) := by decide +kernel
theorem dX9_back_28 : decode cX9_back 28 = .ok (.iload_n 1, 1) := by decide +kernel
theorem dX9_back_29 : decode cX9_back 29 = .ok (.iload_n 2, 1) := by decide +kernel
theorem dX9_back_30 : decode cX9_back 30 = .ok (.invokevirtual 249, 3) := by decide +kernel
theorem dX9_back_33 : decode cX9_back 33 = .ok (.ireturn, 1) := by decide +kernel
def bX9_back_0 (w : ab_W) (mc : Nat) (s_X9_within : ab_S) (s_X9_need : ab_S) (s_X5_numberOf : ab_S) (x_X9_need : ab_SX) (M : Nat → ab_P) (Kn : Option Value → ab_H → Prop) (Kx : String → ab_H → Prop) : ab_P := ab_ild 1 (ab_if1 (fun x => x < 0) (M 17) (ab_ild 2 (ab_ci (nI 0) (ab_ci (nI 2) (ab_cN w 3 s_X9_within (ab_if1 (fun x => x = 0) (M 17) (ab_ci (nI 1) (M 18))))))))
def bX9_back_17 (w : ab_W) (mc : Nat) (s_X9_within : ab_S) (s_X9_need : ab_S) (s_X5_numberOf : ab_S) (x_X9_need : ab_SX) (M : Nat → ab_P) (Kn : Option Value → ab_H → Prop) (Kx : String → ab_H → Prop) : ab_P := ab_ci (nI 0) (M 18)
def bX9_back_18 (w : ab_W) (mc : Nat) (s_X9_within : ab_S) (s_X9_need : ab_S) (s_X5_numberOf : ab_S) (x_X9_need : ab_SX) (M : Nat → ab_P) (Kn : Option Value → ab_H → Prop) (Kx : String → ab_H → Prop) : ab_P := ab_cSX w mc 1 s_X9_need x_X9_need Kx (ab_ald 0 (ab_gr w 9 40 (ab_gr w 3 19 (ab_ild 1 (ab_ild 2 (ab_cV w 3 5 s_X5_numberOf (ab_ir Kn)))))))
set_option maxRecDepth 20000 in
set_option maxHeartbeats 2000000 in
theorem vc_X9_back {l : Launch} (hl : l.stackTraces = false) {w : ab_W} (hI : ab_Inj w) {mc : Nat} {σ : ab_H} {As : List Value} {Kn : Option Value → ab_H → Prop} {Kx : String → ab_H → Prop} {s_X9_within : ab_S} (ok_X9_within : ab_OkN l yX9_within (Cond.code yX9_within cX9_within 3 (some .boolean)) 1 s_X9_within) {s_X9_need : ab_S} (ok_X9_need : ab_OkN l yX9_need (Cond.code yX9_need cX9_need 1 none) 6 s_X9_need) {s_X5_numberOf : ab_S} (ok_X5_numberOf : ab_OkN l yX5_numberOf (Cond.code yX5_numberOf cX5_numberOf 3 (some .int)) 2 s_X5_numberOf) {x_X9_need : ab_SX} (okx_X9_need : ab_OkX l yX9_need (Cond.code yX9_need cX9_need 1 none) 6 x_X9_need) (hlen : (ab_xl As).length ≤ 3) (h : ∀ M : Nat → ab_P, (∀ L st σ, bX9_back_0 w mc s_X9_within s_X9_need s_X5_numberOf x_X9_need M Kn Kx L st σ → M 0 L st σ) → (∀ L st σ, bX9_back_17 w mc s_X9_within s_X9_need s_X5_numberOf x_X9_need M Kn Kx L st σ → M 17 L st σ) → (∀ L st σ, bX9_back_18 w mc s_X9_within s_X9_need s_X5_numberOf x_X9_need M Kn Kx L st σ → M 18 L st σ) → M 0 (ab_pd 3 (ab_xl As)) [] σ) : ab_Met l yX9_back (Cond.code yX9_back cX9_back 3 (some .int)) 7 mc w σ As Kn Kx := by
  refine ab_enter (by decide) hl hI hlen (by decide) ?_
  intro p e R s m args below meth c C hno hr
  exact h _ (sd_iload_n C (i := 1) dX9_back_0 rfl (sd_if_lt C dX9_back_1 (tgt := 17) (by decide) (fun _ _ _ h => h) (sd_iload_n C (i := 2) dX9_back_4 rfl (sd_iconst C (x := nI 0) dX9_back_5 (by decide +kernel) (sd_iconst C (x := nI 2) dX9_back_6 (by decide +kernel) (sd_cS C ok_X9_within ⟨by decide, by decide, wd_477, wd_1, by decide +kernel⟩ wd_618 wd_476 dX9_back_7 (sd_if_eq C dX9_back_10 (tgt := 17) (by decide) (fun _ _ _ h => h) (sd_iconst C (x := nI 1) dX9_back_13 (by decide +kernel) (sd_goto C dX9_back_14 (tgt := 18) (by decide) (fun _ _ _ h => h))))))))))
    (sd_iconst C (x := nI 0) dX9_back_17 (by decide +kernel) (fun _ _ _ h => h))
    (sd_cSX C hno ok_X9_need okx_X9_need ⟨by decide, by decide, wd_694, wd_1, by decide +kernel⟩ wd_692 wd_693 dX9_back_18 (sd_aload_n C (i := 0) dX9_back_21 rfl (sd_gr C (ci := 9) (k := 1) (r := (RX9, TX9, 7)) rfl (by decide) rfl wd_293 dX9_back_22 (sd_gr C (ci := 3) (k := 3) (r := (RX3, TX3, 13)) rfl (by decide) rfl wd_210 dX9_back_25 (sd_iload_n C (i := 1) dX9_back_28 rfl (sd_iload_n C (i := 2) dX9_back_29 rfl (sd_cV C ok_X5_numberOf (ci := 5) (row := (RX5, TX5, 4)) rfl rfl ⟨by decide, by decide, wd_772, wd_7, by decide +kernel⟩ wd_769 wd_770 wd_771 dX9_back_30 (sd_ir C hr dX9_back_33))))))))
theorem dX9_gap_0 : decode cX9_gap 0 = .ok (.iload_n 1, 1) := by decide +kernel
theorem dX9_gap_1 : decode cX9_gap 1 = .ok (.ifCond .lt 16, 3) := by decide +kernel
theorem dX9_gap_4 : decode cX9_gap 4 = .ok (.iload_n 2, 1) := by decide +kernel
theorem dX9_gap_5 : decode cX9_gap 5 = .ok (.iconst 0, 1) := by decide +kernel
theorem dX9_gap_6 : decode cX9_gap 6 = .ok (.iconst 2, 1) := by decide +kernel
theorem dX9_gap_7 : decode cX9_gap 7 = .ok (.invokestatic 46, 3) := by decide +kernel
theorem dX9_gap_10 : decode cX9_gap 10 = .ok (.ifCond .eq 7, 3) := by decide +kernel
theorem dX9_gap_13 : decode cX9_gap 13 = .ok (.iconst 1, 1) := by decide +kernel
theorem dX9_gap_14 : decode cX9_gap 14 = .ok (.goto 4, 3) := by decide +kernel
theorem dX9_gap_17 : decode cX9_gap 17 = .ok (.iconst 0, 1) := by decide +kernel
theorem dX9_gap_18 : decode cX9_gap 18 = .ok (.invokestatic 217, 3) := by decide +kernel
theorem dX9_gap_21 : decode cX9_gap 21 = .ok (.aload_n 0, 1) := by decide +kernel
theorem dX9_gap_22 : decode cX9_gap 22 = .ok (.getfield 19, 3) := by decide +kernel
theorem dX9_gap_25 : decode cX9_gap 25 = .ok (.getfield 147, 3) := by decide +kernel
theorem dX9_gap_28 : decode cX9_gap 28 = .ok (.iload_n 1, 1) := by decide +kernel
theorem dX9_gap_29 : decode cX9_gap 29 = .ok (.iload_n 2, 1) := by decide +kernel
theorem dX9_gap_30 : decode cX9_gap 30 = .ok (.invokevirtual 252, 3) := by decide +kernel
theorem dX9_gap_33 : decode cX9_gap 33 = .ok (.ireturn, 1) := by decide +kernel
def bX9_gap_0 (w : ab_W) (mc : Nat) (s_X9_within : ab_S) (s_X9_need : ab_S) (s_X1_numberOf : ab_S) (x_X9_need : ab_SX) (M : Nat → ab_P) (Kn : Option Value → ab_H → Prop) (Kx : String → ab_H → Prop) : ab_P := ab_ild 1 (ab_if1 (fun x => x < 0) (M 17) (ab_ild 2 (ab_ci (nI 0) (ab_ci (nI 2) (ab_cN w 3 s_X9_within (ab_if1 (fun x => x = 0) (M 17) (ab_ci (nI 1) (M 18))))))))
def bX9_gap_17 (w : ab_W) (mc : Nat) (s_X9_within : ab_S) (s_X9_need : ab_S) (s_X1_numberOf : ab_S) (x_X9_need : ab_SX) (M : Nat → ab_P) (Kn : Option Value → ab_H → Prop) (Kx : String → ab_H → Prop) : ab_P := ab_ci (nI 0) (M 18)
def bX9_gap_18 (w : ab_W) (mc : Nat) (s_X9_within : ab_S) (s_X9_need : ab_S) (s_X1_numberOf : ab_S) (x_X9_need : ab_SX) (M : Nat → ab_P) (Kn : Option Value → ab_H → Prop) (Kx : String → ab_H → Prop) : ab_P := ab_cSX w mc 1 s_X9_need x_X9_need Kx (ab_ald 0 (ab_gr w 9 40 (ab_gr w 3 23 (ab_ild 1 (ab_ild 2 (ab_cV w 3 1 s_X1_numberOf (ab_ir Kn)))))))
set_option maxRecDepth 20000 in
set_option maxHeartbeats 2000000 in
theorem vc_X9_gap {l : Launch} (hl : l.stackTraces = false) {w : ab_W} (hI : ab_Inj w) {mc : Nat} {σ : ab_H} {As : List Value} {Kn : Option Value → ab_H → Prop} {Kx : String → ab_H → Prop} {s_X9_within : ab_S} (ok_X9_within : ab_OkN l yX9_within (Cond.code yX9_within cX9_within 3 (some .boolean)) 1 s_X9_within) {s_X9_need : ab_S} (ok_X9_need : ab_OkN l yX9_need (Cond.code yX9_need cX9_need 1 none) 6 s_X9_need) {s_X1_numberOf : ab_S} (ok_X1_numberOf : ab_OkN l yX1_numberOf (Cond.code yX1_numberOf cX1_numberOf 4 (some .int)) 2 s_X1_numberOf) {x_X9_need : ab_SX} (okx_X9_need : ab_OkX l yX9_need (Cond.code yX9_need cX9_need 1 none) 6 x_X9_need) (hlen : (ab_xl As).length ≤ 3) (h : ∀ M : Nat → ab_P, (∀ L st σ, bX9_gap_0 w mc s_X9_within s_X9_need s_X1_numberOf x_X9_need M Kn Kx L st σ → M 0 L st σ) → (∀ L st σ, bX9_gap_17 w mc s_X9_within s_X9_need s_X1_numberOf x_X9_need M Kn Kx L st σ → M 17 L st σ) → (∀ L st σ, bX9_gap_18 w mc s_X9_within s_X9_need s_X1_numberOf x_X9_need M Kn Kx L st σ → M 18 L st σ) → M 0 (ab_pd 3 (ab_xl As)) [] σ) : ab_Met l yX9_gap (Cond.code yX9_gap cX9_gap 3 (some .int)) 7 mc w σ As Kn Kx := by
  refine ab_enter (by decide) hl hI hlen (by decide) ?_
  intro p e R s m args below meth c C hno hr
  exact h _ (sd_iload_n C (i := 1) dX9_gap_0 rfl (sd_if_lt C dX9_gap_1 (tgt := 17) (by decide) (fun _ _ _ h => h) (sd_iload_n C (i := 2) dX9_gap_4 rfl (sd_iconst C (x := nI 0) dX9_gap_5 (by decide +kernel) (sd_iconst C (x := nI 2) dX9_gap_6 (by decide +kernel) (sd_cS C ok_X9_within ⟨by decide, by decide, wd_477, wd_1, by decide +kernel⟩ wd_618 wd_476 dX9_gap_7 (sd_if_eq C dX9_gap_10 (tgt := 17) (by decide) (fun _ _ _ h => h) (sd_iconst C (x := nI 1) dX9_gap_13 (by decide +kernel) (sd_goto C dX9_gap_14 (tgt := 18) (by decide) (fun _ _ _ h => h))))))))))
    (sd_iconst C (x := nI 0) dX9_gap_17 (by decide +kernel) (fun _ _ _ h => h))
    (sd_cSX C hno ok_X9_need okx_X9_need ⟨by decide, by decide, wd_694, wd_1, by decide +kernel⟩ wd_692 wd_693 dX9_gap_18 (sd_aload_n C (i := 0) dX9_gap_21 rfl (sd_gr C (ci := 9) (k := 1) (r := (RX9, TX9, 7)) rfl (by decide) rfl wd_293 dX9_gap_22 (sd_gr C (ci := 3) (k := 4) (r := (RX3, TX3, 13)) rfl (by decide) rfl wd_212 dX9_gap_25 (sd_iload_n C (i := 1) dX9_gap_28 rfl (sd_iload_n C (i := 2) dX9_gap_29 rfl (sd_cV C ok_X1_numberOf (ci := 1) (row := (RX1, TX1, 5)) rfl rfl ⟨by decide, by decide, wd_759, wd_8, by decide +kernel⟩ wd_756 wd_757 wd_758 dX9_gap_30 (sd_ir C hr dX9_gap_33))))))))
theorem dX9_windOf_0 : decode cX9_windOf 0 = .ok (.iload_n 1, 1) := by decide +kernel
theorem dX9_windOf_1 : decode cX9_windOf 1 = .ok (.iconst 0, 1) := by decide +kernel
theorem dX9_windOf_2 : decode cX9_windOf 2 = .ok (.iconst 3, 1) := by decide +kernel
theorem dX9_windOf_3 : decode cX9_windOf 3 = .ok (.invokestatic 46, 3) := by decide +kernel
theorem dX9_windOf_6 : decode cX9_windOf 6 = .ok (.invokestatic 217, 3) := by decide +kernel
theorem dX9_windOf_9 : decode cX9_windOf 9 = .ok (.bipush 100, 2) := by decide +kernel
theorem dX9_windOf_11 : decode cX9_windOf 11 = .ok (.aload_n 0, 1) := by decide +kernel
theorem dX9_windOf_12 : decode cX9_windOf 12 = .ok (.getfield 19, 3) := by decide +kernel
theorem dX9_windOf_15 : decode cX9_windOf 15 = .ok (.getfield 253, 3) := by decide +kernel
theorem dX9_windOf_18 : decode cX9_windOf 18 = .ok (.iload_n 1, 1) := by decide +kernel
theorem dX9_windOf_19 : decode cX9_windOf 19 = .ok (.iaload, 1) := by decide +kernel
theorem dX9_windOf_20 : decode cX9_windOf 20 = .ok (.iadd, 1) := by decide +kernel
theorem dX9_windOf_21 : decode cX9_windOf 21 = .ok (.ireturn, 1) := by decide +kernel
def bX9_windOf_0 (w : ab_W) (mc : Nat) (s_X9_within : ab_S) (s_X9_need : ab_S) (x_X9_need : ab_SX) (M : Nat → ab_P) (Kn : Option Value → ab_H → Prop) (Kx : String → ab_H → Prop) : ab_P := ab_ild 1 (ab_ci (nI 0) (ab_ci (nI 3) (ab_cN w 3 s_X9_within (ab_cSX w mc 1 s_X9_need x_X9_need Kx (ab_ci (nI 100) (ab_ald 0 (ab_gr w 9 40 (ab_gr w 3 27 (ab_ild 1 (ab_ia w 11 (ab_b2 (fun x y => x + y) (ab_ir Kn))))))))))))
set_option maxRecDepth 20000 in
set_option maxHeartbeats 2000000 in
theorem vc_X9_windOf {l : Launch} (hl : l.stackTraces = false) {w : ab_W} (hI : ab_Inj w) {mc : Nat} {σ : ab_H} {As : List Value} {Kn : Option Value → ab_H → Prop} {Kx : String → ab_H → Prop} {s_X9_within : ab_S} (ok_X9_within : ab_OkN l yX9_within (Cond.code yX9_within cX9_within 3 (some .boolean)) 1 s_X9_within) {s_X9_need : ab_S} (ok_X9_need : ab_OkN l yX9_need (Cond.code yX9_need cX9_need 1 none) 6 s_X9_need) {x_X9_need : ab_SX} (okx_X9_need : ab_OkX l yX9_need (Cond.code yX9_need cX9_need 1 none) 6 x_X9_need) (hlen : (ab_xl As).length ≤ 2) (h : ∀ M : Nat → ab_P, (∀ L st σ, bX9_windOf_0 w mc s_X9_within s_X9_need x_X9_need M Kn Kx L st σ → M 0 L st σ) → M 0 (ab_pd 2 (ab_xl As)) [] σ) : ab_Met l yX9_windOf (Cond.code yX9_windOf cX9_windOf 2 (some .int)) 7 mc w σ As Kn Kx := by
  refine ab_enter (by decide) hl hI hlen (by decide) ?_
  intro p e R s m args below meth c C hno hr
  exact h _ (sd_iload_n C (i := 1) dX9_windOf_0 rfl (sd_iconst C (x := nI 0) dX9_windOf_1 (by decide +kernel) (sd_iconst C (x := nI 3) dX9_windOf_2 (by decide +kernel) (sd_cS C ok_X9_within ⟨by decide, by decide, wd_477, wd_1, by decide +kernel⟩ wd_618 wd_476 dX9_windOf_3 (sd_cSX C hno ok_X9_need okx_X9_need ⟨by decide, by decide, wd_694, wd_1, by decide +kernel⟩ wd_692 wd_693 dX9_windOf_6 (sd_bipush C (x := nI 100) dX9_windOf_9 (by decide +kernel) (sd_aload_n C (i := 0) dX9_windOf_11 rfl (sd_gr C (ci := 9) (k := 1) (r := (RX9, TX9, 7)) rfl (by decide) rfl wd_293 dX9_windOf_12 (sd_gr C (ci := 3) (k := 5) (r := (RX3, TX3, 13)) rfl (by decide) rfl wd_214 dX9_windOf_15 (sd_iload_n C (i := 1) dX9_windOf_18 rfl (sd_ia C dX9_windOf_19 (sd_iadd C dX9_windOf_20 (sd_ir C hr dX9_windOf_21)))))))))))))
theorem dX9_setting_0 : decode cX9_setting 0 = .ok (.iload_n 1, 1) := by decide +kernel
theorem dX9_setting_1 : decode cX9_setting 1 = .ok (.iconst 0, 1) := by decide +kernel
theorem dX9_setting_2 : decode cX9_setting 2 = .ok (.iconst 4, 1) := by decide +kernel
theorem dX9_setting_3 : decode cX9_setting 3 = .ok (.invokestatic 46, 3) := by decide +kernel
theorem dX9_setting_6 : decode cX9_setting 6 = .ok (.invokestatic 217, 3) := by decide +kernel
theorem dX9_setting_9 : decode cX9_setting 9 = .ok (.aload_n 0, 1) := by decide +kernel
theorem dX9_setting_10 : decode cX9_setting 10 = .ok (.getfield 19, 3) := by decide +kernel
theorem dX9_setting_13 : decode cX9_setting 13 = .ok (.getfield 256, 3) := by decide +kernel
theorem dX9_setting_16 : decode cX9_setting 16 = .ok (.iload_n 1, 1) := by decide +kernel
theorem dX9_setting_17 : decode cX9_setting 17 = .ok (.iaload, 1) := by decide +kernel
theorem dX9_setting_18 : decode cX9_setting 18 = .ok (.ireturn, 1) := by decide +kernel
def bX9_setting_0 (w : ab_W) (mc : Nat) (s_X9_within : ab_S) (s_X9_need : ab_S) (x_X9_need : ab_SX) (M : Nat → ab_P) (Kn : Option Value → ab_H → Prop) (Kx : String → ab_H → Prop) : ab_P := ab_ild 1 (ab_ci (nI 0) (ab_ci (nI 4) (ab_cN w 3 s_X9_within (ab_cSX w mc 1 s_X9_need x_X9_need Kx (ab_ald 0 (ab_gr w 9 40 (ab_gr w 3 28 (ab_ild 1 (ab_ia w 11 (ab_ir Kn))))))))))
set_option maxRecDepth 20000 in
set_option maxHeartbeats 2000000 in
theorem vc_X9_setting {l : Launch} (hl : l.stackTraces = false) {w : ab_W} (hI : ab_Inj w) {mc : Nat} {σ : ab_H} {As : List Value} {Kn : Option Value → ab_H → Prop} {Kx : String → ab_H → Prop} {s_X9_within : ab_S} (ok_X9_within : ab_OkN l yX9_within (Cond.code yX9_within cX9_within 3 (some .boolean)) 1 s_X9_within) {s_X9_need : ab_S} (ok_X9_need : ab_OkN l yX9_need (Cond.code yX9_need cX9_need 1 none) 6 s_X9_need) {x_X9_need : ab_SX} (okx_X9_need : ab_OkX l yX9_need (Cond.code yX9_need cX9_need 1 none) 6 x_X9_need) (hlen : (ab_xl As).length ≤ 2) (h : ∀ M : Nat → ab_P, (∀ L st σ, bX9_setting_0 w mc s_X9_within s_X9_need x_X9_need M Kn Kx L st σ → M 0 L st σ) → M 0 (ab_pd 2 (ab_xl As)) [] σ) : ab_Met l yX9_setting (Cond.code yX9_setting cX9_setting 2 (some .int)) 7 mc w σ As Kn Kx := by
  refine ab_enter (by decide) hl hI hlen (by decide) ?_
  intro p e R s m args below meth c C hno hr
  exact h _ (sd_iload_n C (i := 1) dX9_setting_0 rfl (sd_iconst C (x := nI 0) dX9_setting_1 (by decide +kernel) (sd_iconst C (x := nI 4) dX9_setting_2 (by decide +kernel) (sd_cS C ok_X9_within ⟨by decide, by decide, wd_477, wd_1, by decide +kernel⟩ wd_618 wd_476 dX9_setting_3 (sd_cSX C hno ok_X9_need okx_X9_need ⟨by decide, by decide, wd_694, wd_1, by decide +kernel⟩ wd_692 wd_693 dX9_setting_6 (sd_aload_n C (i := 0) dX9_setting_9 rfl (sd_gr C (ci := 9) (k := 1) (r := (RX9, TX9, 7)) rfl (by decide) rfl wd_293 dX9_setting_10 (sd_gr C (ci := 3) (k := 6) (r := (RX3, TX3, 13)) rfl (by decide) rfl wd_216 dX9_setting_13 (sd_iload_n C (i := 1) dX9_setting_16 rfl (sd_ia C dX9_setting_17 (sd_ir C hr dX9_setting_18)))))))))))
theorem dX9_throwFor_0 : decode cX9_throwFor 0 = .ok (.iload_n 0, 1) := by decide +kernel
theorem dX9_throwFor_1 : decode cX9_throwFor 1 = .ok (.tableswitch 60 1 3 #[27, 38, 49], 27) := by decide +kernel
theorem dX9_throwFor_28 : decode cX9_throwFor 28 = .ok (.new 229, 3) := by decide +kernel
theorem dX9_throwFor_31 : decode cX9_throwFor 31 = .ok (.dup, 1) := by decide +kernel
theorem dX9_throwFor_32 : decode cX9_throwFor 32 = .ok (.ldc_w 368, 3) := by decide +kernel
theorem dX9_throwFor_35 : decode cX9_throwFor 35 = .ok (.invokespecial 233, 3) := by decide +kernel
theorem dX9_throwFor_38 : decode cX9_throwFor 38 = .ok (.athrow, 1) := by decide +kernel
theorem dX9_throwFor_39 : decode cX9_throwFor 39 = .ok (.new 50, 3) := by decide +kernel
theorem dX9_throwFor_42 : decode cX9_throwFor 42 = .ok (.dup, 1) := by decide +kernel
theorem dX9_throwFor_43 : decode cX9_throwFor 43 = .ok (.ldc_w 370, 3) := by decide +kernel
theorem dX9_throwFor_46 : decode cX9_throwFor 46 = .ok (.invokespecial 54, 3) := by decide +kernel
theorem dX9_throwFor_49 : decode cX9_throwFor 49 = .ok (.athrow, 1) := by decide +kernel
theorem dX9_throwFor_50 : decode cX9_throwFor 50 = .ok (.new 61, 3) := by decide +kernel
theorem dX9_throwFor_53 : decode cX9_throwFor 53 = .ok (.dup, 1) := by decide +kernel
theorem dX9_throwFor_54 : decode cX9_throwFor 54 = .ok (.ldc_w 372, 3) := by decide +kernel
theorem dX9_throwFor_57 : decode cX9_throwFor 57 = .ok (.invokespecial 65, 3) := by decide +kernel
theorem dX9_throwFor_60 : decode cX9_throwFor 60 = .ok (.athrow, 1) := by decide +kernel
theorem dX9_throwFor_61 : decode cX9_throwFor 61 = .ok (.return_, 1) := by decide +kernel
def bX9_throwFor_0 (w : ab_W) (mc : Nat) (M : Nat → ab_P) (Kn : Option Value → ab_H → Prop) (Kx : String → ab_H → Prop) : ab_P := ab_ild 0 (ab_sw [(nI 1, ab_th mc "java/lang/IndexOutOfBoundsException" Kx), (nI 2, ab_th mc "java/lang/IllegalArgumentException" Kx), (nI 3, ab_th mc "java/lang/IllegalStateException" Kx)] (ab_vr Kn))
set_option maxRecDepth 20000 in
set_option maxHeartbeats 2000000 in
theorem vc_X9_throwFor {l : Launch} (hl : l.stackTraces = false) {w : ab_W} (hI : ab_Inj w) {mc : Nat} {σ : ab_H} {As : List Value} {Kn : Option Value → ab_H → Prop} {Kx : String → ab_H → Prop} (hlen : (ab_xl As).length ≤ 1) (h : ∀ M : Nat → ab_P, (∀ L st σ, bX9_throwFor_0 w mc M Kn Kx L st σ → M 0 L st σ) → M 0 (ab_pd 1 (ab_xl As)) [] σ) : ab_Met l yX9_throwFor (Cond.code yX9_throwFor cX9_throwFor 1 none) 6 mc w σ As Kn Kx := by
  refine ab_enter (by decide) hl hI hlen (by decide) ?_
  intro p e R s m args below meth c C hno hr
  exact h _ (sd_iload_n C (i := 0) dX9_throwFor_0 rfl (sd_table C (td := 61) dX9_throwFor_1 3 (by decide +kernel : ([nI 1, nI 2, nI 3] : List Int32) = _) (by decide) (List.forall_mem_cons.mpr ⟨⟨27, 28, (by decide +kernel : ¬ (nI 1 : Int32).toInt < 1), (by decide +kernel : ¬ (3 : Int) < (nI 1 : Int32).toInt), (by decide +kernel : (#[27, 38, 49] : Array Int)[((nI 1 : Int32).toInt - 1).toNat]? = some 27), (by decide), (sd_thW C hno (text := "no such station") (by decide) tw_229_233 wd_619 wd_15 (by decide +kernel) (by decide) dX9_throwFor_28 dX9_throwFor_31 dX9_throwFor_32 dX9_throwFor_35 dX9_throwFor_38)⟩, (List.forall_mem_cons.mpr ⟨⟨38, 39, (by decide +kernel : ¬ (nI 2 : Int32).toInt < 1), (by decide +kernel : ¬ (3 : Int) < (nI 2 : Int32).toInt), (by decide +kernel : (#[27, 38, 49] : Array Int)[((nI 2 : Int32).toInt - 1).toNat]? = some 38), (by decide), (sd_thW C hno (text := "an argument is out of its range") (by decide) tw_50_54 wd_668 wd_14 (by decide +kernel) (by decide) dX9_throwFor_39 dX9_throwFor_42 dX9_throwFor_43 dX9_throwFor_46 dX9_throwFor_49)⟩, (List.forall_mem_cons.mpr ⟨⟨49, 50, (by decide +kernel : ¬ (nI 3 : Int32).toInt < 1), (by decide +kernel : ¬ (3 : Int) < (nI 3 : Int32).toInt), (by decide +kernel : (#[27, 38, 49] : Array Int)[((nI 3 : Int32).toInt - 1).toNat]? = some 49), (by decide), (sd_thW C hno (text := "the net does not allow it now") (by decide) tw_61_65 wd_351 wd_18 (by decide +kernel) (by decide) dX9_throwFor_50 dX9_throwFor_53 dX9_throwFor_54 dX9_throwFor_57 dX9_throwFor_60)⟩, (fun _ h => absurd h List.not_mem_nil)⟩)⟩)⟩) (by decide) (sd_vr C hr dX9_throwFor_61)))
theorem dX9_beginAction_0 : decode cX9_beginAction 0 = .ok (.iload_n 1, 1) := by decide +kernel
theorem dX9_beginAction_1 : decode cX9_beginAction 1 = .ok (.invokestatic 306, 3) := by decide +kernel
theorem dX9_beginAction_4 : decode cX9_beginAction 4 = .ok (.aload_n 0, 1) := by decide +kernel
theorem dX9_beginAction_5 : decode cX9_beginAction 5 = .ok (.getfield 32, 3) := by decide +kernel
theorem dX9_beginAction_8 : decode cX9_beginAction 8 = .ok (.aload_n 0, 1) := by decide +kernel
theorem dX9_beginAction_9 : decode cX9_beginAction 9 = .ok (.getfield 19, 3) := by decide +kernel
theorem dX9_beginAction_12 : decode cX9_beginAction 12 = .ok (.invokevirtual 309, 3) := by decide +kernel
theorem dX9_beginAction_15 : decode cX9_beginAction 15 = .ok (.return_, 1) := by decide +kernel
def bX9_beginAction_0 (w : ab_W) (mc : Nat) (s_X9_throwFor : ab_S) (s_X2_remember : ab_S) (x_X9_throwFor : ab_SX) (M : Nat → ab_P) (Kn : Option Value → ab_H → Prop) (Kx : String → ab_H → Prop) : ab_P := ab_ild 1 (ab_cSX w mc 1 s_X9_throwFor x_X9_throwFor Kx (ab_ald 0 (ab_gr w 9 4 (ab_ald 0 (ab_gr w 9 40 (ab_cV w 2 2 s_X2_remember (ab_vr Kn)))))))
set_option maxRecDepth 20000 in
set_option maxHeartbeats 2000000 in
theorem vc_X9_beginAction {l : Launch} (hl : l.stackTraces = false) {w : ab_W} (hI : ab_Inj w) {mc : Nat} {σ : ab_H} {As : List Value} {Kn : Option Value → ab_H → Prop} {Kx : String → ab_H → Prop} {s_X9_throwFor : ab_S} (ok_X9_throwFor : ab_OkN l yX9_throwFor (Cond.code yX9_throwFor cX9_throwFor 1 none) 6 s_X9_throwFor) {s_X2_remember : ab_S} (ok_X2_remember : ab_OkN l yX2_remember (Cond.code yX2_remember cX2_remember 3 none) 5 s_X2_remember) {x_X9_throwFor : ab_SX} (okx_X9_throwFor : ab_OkX l yX9_throwFor (Cond.code yX9_throwFor cX9_throwFor 1 none) 6 x_X9_throwFor) (hlen : (ab_xl As).length ≤ 2) (h : ∀ M : Nat → ab_P, (∀ L st σ, bX9_beginAction_0 w mc s_X9_throwFor s_X2_remember x_X9_throwFor M Kn Kx L st σ → M 0 L st σ) → M 0 (ab_pd 2 (ab_xl As)) [] σ) : ab_Met l yX9_beginAction (Cond.code yX9_beginAction cX9_beginAction 2 none) 7 mc w σ As Kn Kx := by
  refine ab_enter (by decide) hl hI hlen (by decide) ?_
  intro p e R s m args below meth c C hno hr
  exact h _ (sd_iload_n C (i := 1) dX9_beginAction_0 rfl (sd_cSX C hno ok_X9_throwFor okx_X9_throwFor ⟨by decide, by decide, wd_788, wd_1, by decide +kernel⟩ wd_786 wd_787 dX9_beginAction_1 (sd_aload_n C (i := 0) dX9_beginAction_4 rfl (sd_gr C (ci := 9) (k := 4) (r := (RX9, TX9, 7)) rfl (by decide) rfl wd_296 dX9_beginAction_5 (sd_aload_n C (i := 0) dX9_beginAction_8 rfl (sd_gr C (ci := 9) (k := 1) (r := (RX9, TX9, 7)) rfl (by decide) rfl wd_293 dX9_beginAction_9 (sd_cV C ok_X2_remember (ci := 2) (row := (RX2, TX2, 3)) rfl rfl ⟨by decide, by decide, wd_793, wd_9, by decide +kernel⟩ wd_790 wd_791 wd_792 dX9_beginAction_12 (sd_vr C hr dX9_beginAction_15))))))))
theorem dX9_addStation_0 : decode cX9_addStation 0 = .ok (.aload_n 0, 1) := by decide +kernel
theorem dX9_addStation_1 : decode cX9_addStation 1 = .ok (.aload_n 0, 1) := by decide +kernel
theorem dX9_addStation_2 : decode cX9_addStation 2 = .ok (.getfield 19, 3) := by decide +kernel
theorem dX9_addStation_5 : decode cX9_addStation 5 = .ok (.iload_n 1, 1) := by decide +kernel
theorem dX9_addStation_6 : decode cX9_addStation 6 = .ok (.iload_n 2, 1) := by decide +kernel
theorem dX9_addStation_7 : decode cX9_addStation 7 = .ok (.iload_n 3, 1) := by decide +kernel
theorem dX9_addStation_8 : decode cX9_addStation 8 = .ok (.iload 4, 2) := by decide +kernel
theorem dX9_addStation_10 : decode cX9_addStation 10 = .ok (.iload 5, 2) := by decide +kernel
theorem dX9_addStation_12 : decode cX9_addStation 12 = .ok (.invokevirtual 259, 3) := by decide +kernel
theorem dX9_addStation_15 : decode cX9_addStation 15 = .ok (.invokevirtual 263, 3) := by decide +kernel
theorem dX9_addStation_18 : decode cX9_addStation 18 = .ok (.aload_n 0, 1) := by decide +kernel
theorem dX9_addStation_19 : decode cX9_addStation 19 = .ok (.getfield 19, 3) := by decide +kernel
theorem dX9_addStation_22 : decode cX9_addStation 22 = .ok (.iload_n 1, 1) := by decide +kernel
theorem dX9_addStation_23 : decode cX9_addStation 23 = .ok (.iload_n 2, 1) := by decide +kernel
theorem dX9_addStation_24 : decode cX9_addStation 24 = .ok (.iload_n 3, 1) := by decide +kernel
theorem dX9_addStation_25 : decode cX9_addStation 25 = .ok (.iload 4, 2) := by decide +kernel
theorem dX9_addStation_27 : decode cX9_addStation 27 = .ok (.iload 5, 2) := by decide +kernel
theorem dX9_addStation_29 : decode cX9_addStation 29 = .ok (.invokevirtual 105, 3) := by decide +kernel
theorem dX9_addStation_32 : decode cX9_addStation 32 = .ok (.pop, 1) := by decide +kernel
theorem dX9_addStation_33 : decode cX9_addStation 33 = .ok (.aload_n 0, 1) := by decide +kernel
theorem dX9_addStation_34 : decode cX9_addStation 34 = .ok (.getfield 19, 3) := by decide +kernel
theorem dX9_addStation_37 : decode cX9_addStation 37 = .ok (.getfield 122, 3) := by decide +kernel
theorem dX9_addStation_40 : decode cX9_addStation 40 = .ok (.getfield 126, 3) := by decide +kernel
theorem dX9_addStation_43 : decode cX9_addStation 43 = .ok (.iconst 1, 1) := by decide +kernel
theorem dX9_addStation_44 : decode cX9_addStation 44 = .ok (.isub, 1) := by decide +kernel
theorem dX9_addStation_45 : decode cX9_addStation 45 = .ok (.ireturn, 1) := by decide +kernel
def bX9_addStation_0 (w : ab_W) (mc : Nat) (s_X3_stationRefusal : ab_S) (s_X9_beginAction : ab_S) (s_X3_tryStation : ab_S) (x_X9_beginAction : ab_SX) (M : Nat → ab_P) (Kn : Option Value → ab_H → Prop) (Kx : String → ab_H → Prop) : ab_P := ab_ald 0 (ab_ald 0 (ab_gr w 9 40 (ab_ild 1 (ab_ild 2 (ab_ild 3 (ab_ild 4 (ab_ild 5 (ab_cV w 6 3 s_X3_stationRefusal (ab_cVX w mc 2 9 s_X9_beginAction x_X9_beginAction Kx (ab_ald 0 (ab_gr w 9 40 (ab_ild 1 (ab_ild 2 (ab_ild 3 (ab_ild 4 (ab_ild 5 (ab_cV w 6 3 s_X3_tryStation (ab_pop (ab_ald 0 (ab_gr w 9 40 (ab_gr w 3 1 (ab_gf w 7 0 (ab_ci (nI 1) (ab_b2 (fun x y => x - y) (ab_ir Kn)))))))))))))))))))))))))
set_option maxRecDepth 20000 in
set_option maxHeartbeats 2000000 in
theorem vc_X9_addStation {l : Launch} (hl : l.stackTraces = false) {w : ab_W} (hI : ab_Inj w) {mc : Nat} {σ : ab_H} {As : List Value} {Kn : Option Value → ab_H → Prop} {Kx : String → ab_H → Prop} {s_X3_stationRefusal : ab_S} (ok_X3_stationRefusal : ab_OkN l yX3_stationRefusal (Cond.code yX3_stationRefusal cX3_stationRefusal 6 (some .int)) 2 s_X3_stationRefusal) {s_X9_beginAction : ab_S} (ok_X9_beginAction : ab_OkN l yX9_beginAction (Cond.code yX9_beginAction cX9_beginAction 2 none) 7 s_X9_beginAction) {s_X3_tryStation : ab_S} (ok_X3_tryStation : ab_OkN l yX3_tryStation (Cond.code yX3_tryStation cX3_tryStation 6 (some .boolean)) 3 s_X3_tryStation) {x_X9_beginAction : ab_SX} (okx_X9_beginAction : ab_OkX l yX9_beginAction (Cond.code yX9_beginAction cX9_beginAction 2 none) 7 x_X9_beginAction) (hlen : (ab_xl As).length ≤ 6) (h : ∀ M : Nat → ab_P, (∀ L st σ, bX9_addStation_0 w mc s_X3_stationRefusal s_X9_beginAction s_X3_tryStation x_X9_beginAction M Kn Kx L st σ → M 0 L st σ) → M 0 (ab_pd 6 (ab_xl As)) [] σ) : ab_Met l yX9_addStation (Cond.code yX9_addStation cX9_addStation 6 (some .int)) 8 mc w σ As Kn Kx := by
  refine ab_enter (by decide) hl hI hlen (by decide) ?_
  intro p e R s m args below meth c C hno hr
  exact h _ (sd_aload_n C (i := 0) dX9_addStation_0 rfl (sd_aload_n C (i := 0) dX9_addStation_1 rfl (sd_gr C (ci := 9) (k := 1) (r := (RX9, TX9, 7)) rfl (by decide) rfl wd_293 dX9_addStation_2 (sd_iload_n C (i := 1) dX9_addStation_5 rfl (sd_iload_n C (i := 2) dX9_addStation_6 rfl (sd_iload_n C (i := 3) dX9_addStation_7 rfl (sd_iload C dX9_addStation_8 (sd_iload C dX9_addStation_10 (sd_cV C ok_X3_stationRefusal (ci := 3) (row := (RX3, TX3, 13)) rfl rfl ⟨by decide, by decide, wd_474, wd_3, by decide +kernel⟩ wd_781 wd_472 wd_473 dX9_addStation_12 (sd_cVX C hno ok_X9_beginAction okx_X9_beginAction (ci := 9) (row := (RX9, TX9, 7)) rfl rfl ⟨by decide, by decide, wd_785, wd_1, by decide +kernel⟩ wd_782 wd_784 ws_12 dX9_addStation_15 (sd_aload_n C (i := 0) dX9_addStation_18 rfl (sd_gr C (ci := 9) (k := 1) (r := (RX9, TX9, 7)) rfl (by decide) rfl wd_293 dX9_addStation_19 (sd_iload_n C (i := 1) dX9_addStation_22 rfl (sd_iload_n C (i := 2) dX9_addStation_23 rfl (sd_iload_n C (i := 3) dX9_addStation_24 rfl (sd_iload C dX9_addStation_25 (sd_iload C dX9_addStation_27 (sd_cV C ok_X3_tryStation (ci := 3) (row := (RX3, TX3, 13)) rfl rfl ⟨by decide, by decide, wd_470, wd_3, by decide +kernel⟩ wd_467 wd_468 wd_469 dX9_addStation_29 (sd_pop C dX9_addStation_32 (sd_aload_n C (i := 0) dX9_addStation_33 rfl (sd_gr C (ci := 9) (k := 1) (r := (RX9, TX9, 7)) rfl (by decide) rfl wd_293 dX9_addStation_34 (sd_gr C (ci := 3) (k := 0) (r := (RX3, TX3, 13)) rfl (by decide) rfl wd_204 dX9_addStation_37 (sd_gf C (ci := 7) (k := 0) (r := (RX7, TX7, 8)) rfl (by decide) rfl wd_68 dX9_addStation_40 (sd_iconst C (x := nI 1) dX9_addStation_43 (by decide +kernel) (sd_isub C dX9_addStation_44 (sd_ir C hr dX9_addStation_45))))))))))))))))))))))))))
theorem dX9_addFinder_0 : decode cX9_addFinder 0 = .ok (.aload_n 0, 1) := by decide +kernel
theorem dX9_addFinder_1 : decode cX9_addFinder 1 = .ok (.aload_n 0, 1) := by decide +kernel
theorem dX9_addFinder_2 : decode cX9_addFinder 2 = .ok (.getfield 19, 3) := by decide +kernel
theorem dX9_addFinder_5 : decode cX9_addFinder 5 = .ok (.iload_n 1, 1) := by decide +kernel
theorem dX9_addFinder_6 : decode cX9_addFinder 6 = .ok (.iload_n 2, 1) := by decide +kernel
theorem dX9_addFinder_7 : decode cX9_addFinder 7 = .ok (.iload_n 3, 1) := by decide +kernel
theorem dX9_addFinder_8 : decode cX9_addFinder 8 = .ok (.invokevirtual 266, 3) := by decide +kernel
theorem dX9_addFinder_11 : decode cX9_addFinder 11 = .ok (.invokevirtual 263, 3) := by decide +kernel
theorem dX9_addFinder_14 : decode cX9_addFinder 14 = .ok (.aload_n 0, 1) := by decide +kernel
theorem dX9_addFinder_15 : decode cX9_addFinder 15 = .ok (.getfield 19, 3) := by decide +kernel
theorem dX9_addFinder_18 : decode cX9_addFinder 18 = .ok (.iload_n 1, 1) := by decide +kernel
theorem dX9_addFinder_19 : decode cX9_addFinder 19 = .ok (.iload_n 2, 1) := by decide +kernel
theorem dX9_addFinder_20 : decode cX9_addFinder 20 = .ok (.iload_n 3, 1) := by decide +kernel
theorem dX9_addFinder_21 : decode cX9_addFinder 21 = .ok (.invokevirtual 109, 3) := by decide +kernel
theorem dX9_addFinder_24 : decode cX9_addFinder 24 = .ok (.pop, 1) := by decide +kernel
theorem dX9_addFinder_25 : decode cX9_addFinder 25 = .ok (.aload_n 0, 1) := by decide +kernel
theorem dX9_addFinder_26 : decode cX9_addFinder 26 = .ok (.getfield 19, 3) := by decide +kernel
theorem dX9_addFinder_29 : decode cX9_addFinder 29 = .ok (.getfield 131, 3) := by decide +kernel
theorem dX9_addFinder_32 : decode cX9_addFinder 32 = .ok (.getfield 135, 3) := by decide +kernel
theorem dX9_addFinder_35 : decode cX9_addFinder 35 = .ok (.iconst 1, 1) := by decide +kernel
theorem dX9_addFinder_36 : decode cX9_addFinder 36 = .ok (.isub, 1) := by decide +kernel
theorem dX9_addFinder_37 : decode cX9_addFinder 37 = .ok (.ireturn, 1) := by decide +kernel
def bX9_addFinder_0 (w : ab_W) (mc : Nat) (s_X3_finderRefusal : ab_S) (s_X9_beginAction : ab_S) (s_X3_tryFinder : ab_S) (x_X9_beginAction : ab_SX) (M : Nat → ab_P) (Kn : Option Value → ab_H → Prop) (Kx : String → ab_H → Prop) : ab_P := ab_ald 0 (ab_ald 0 (ab_gr w 9 40 (ab_ild 1 (ab_ild 2 (ab_ild 3 (ab_cV w 4 3 s_X3_finderRefusal (ab_cVX w mc 2 9 s_X9_beginAction x_X9_beginAction Kx (ab_ald 0 (ab_gr w 9 40 (ab_ild 1 (ab_ild 2 (ab_ild 3 (ab_cV w 4 3 s_X3_tryFinder (ab_pop (ab_ald 0 (ab_gr w 9 40 (ab_gr w 3 9 (ab_gf w 0 0 (ab_ci (nI 1) (ab_b2 (fun x y => x - y) (ab_ir Kn)))))))))))))))))))))
set_option maxRecDepth 20000 in
set_option maxHeartbeats 2000000 in
theorem vc_X9_addFinder {l : Launch} (hl : l.stackTraces = false) {w : ab_W} (hI : ab_Inj w) {mc : Nat} {σ : ab_H} {As : List Value} {Kn : Option Value → ab_H → Prop} {Kx : String → ab_H → Prop} {s_X3_finderRefusal : ab_S} (ok_X3_finderRefusal : ab_OkN l yX3_finderRefusal (Cond.code yX3_finderRefusal cX3_finderRefusal 4 (some .int)) 2 s_X3_finderRefusal) {s_X9_beginAction : ab_S} (ok_X9_beginAction : ab_OkN l yX9_beginAction (Cond.code yX9_beginAction cX9_beginAction 2 none) 7 s_X9_beginAction) {s_X3_tryFinder : ab_S} (ok_X3_tryFinder : ab_OkN l yX3_tryFinder (Cond.code yX3_tryFinder cX3_tryFinder 4 (some .boolean)) 3 s_X3_tryFinder) {x_X9_beginAction : ab_SX} (okx_X9_beginAction : ab_OkX l yX9_beginAction (Cond.code yX9_beginAction cX9_beginAction 2 none) 7 x_X9_beginAction) (hlen : (ab_xl As).length ≤ 4) (h : ∀ M : Nat → ab_P, (∀ L st σ, bX9_addFinder_0 w mc s_X3_finderRefusal s_X9_beginAction s_X3_tryFinder x_X9_beginAction M Kn Kx L st σ → M 0 L st σ) → M 0 (ab_pd 4 (ab_xl As)) [] σ) : ab_Met l yX9_addFinder (Cond.code yX9_addFinder cX9_addFinder 4 (some .int)) 8 mc w σ As Kn Kx := by
  refine ab_enter (by decide) hl hI hlen (by decide) ?_
  intro p e R s m args below meth c C hno hr
  exact h _ (sd_aload_n C (i := 0) dX9_addFinder_0 rfl (sd_aload_n C (i := 0) dX9_addFinder_1 rfl (sd_gr C (ci := 9) (k := 1) (r := (RX9, TX9, 7)) rfl (by decide) rfl wd_293 dX9_addFinder_2 (sd_iload_n C (i := 1) dX9_addFinder_5 rfl (sd_iload_n C (i := 2) dX9_addFinder_6 rfl (sd_iload_n C (i := 3) dX9_addFinder_7 rfl (sd_cV C ok_X3_finderRefusal (ci := 3) (row := (RX3, TX3, 13)) rfl rfl ⟨by decide, by decide, wd_497, wd_3, by decide +kernel⟩ wd_802 wd_495 wd_496 dX9_addFinder_8 (sd_cVX C hno ok_X9_beginAction okx_X9_beginAction (ci := 9) (row := (RX9, TX9, 7)) rfl rfl ⟨by decide, by decide, wd_785, wd_1, by decide +kernel⟩ wd_782 wd_784 ws_12 dX9_addFinder_11 (sd_aload_n C (i := 0) dX9_addFinder_14 rfl (sd_gr C (ci := 9) (k := 1) (r := (RX9, TX9, 7)) rfl (by decide) rfl wd_293 dX9_addFinder_15 (sd_iload_n C (i := 1) dX9_addFinder_18 rfl (sd_iload_n C (i := 2) dX9_addFinder_19 rfl (sd_iload_n C (i := 3) dX9_addFinder_20 rfl (sd_cV C ok_X3_tryFinder (ci := 3) (row := (RX3, TX3, 13)) rfl rfl ⟨by decide, by decide, wd_493, wd_3, by decide +kernel⟩ wd_490 wd_491 wd_492 dX9_addFinder_21 (sd_pop C dX9_addFinder_24 (sd_aload_n C (i := 0) dX9_addFinder_25 rfl (sd_gr C (ci := 9) (k := 1) (r := (RX9, TX9, 7)) rfl (by decide) rfl wd_293 dX9_addFinder_26 (sd_gr C (ci := 3) (k := 1) (r := (RX3, TX3, 13)) rfl (by decide) rfl wd_206 dX9_addFinder_29 (sd_gf C (ci := 0) (k := 0) (r := (RX0, TX0, 5)) rfl (by decide) rfl wd_113 dX9_addFinder_32 (sd_iconst C (x := nI 1) dX9_addFinder_35 (by decide +kernel) (sd_isub C dX9_addFinder_36 (sd_ir C hr dX9_addFinder_37))))))))))))))))))))))
theorem dX9_wind_0 : decode cX9_wind 0 = .ok (.aload_n 0, 1) := by decide +kernel
theorem dX9_wind_1 : decode cX9_wind 1 = .ok (.aload_n 0, 1) := by decide +kernel
theorem dX9_wind_2 : decode cX9_wind 2 = .ok (.getfield 19, 3) := by decide +kernel
theorem dX9_wind_5 : decode cX9_wind 5 = .ok (.iload_n 1, 1) := by decide +kernel
theorem dX9_wind_6 : decode cX9_wind 6 = .ok (.iload_n 2, 1) := by decide +kernel
theorem dX9_wind_7 : decode cX9_wind 7 = .ok (.invokevirtual 270, 3) := by decide +kernel
theorem dX9_wind_10 : decode cX9_wind 10 = .ok (.invokevirtual 263, 3) := by decide +kernel
theorem dX9_wind_13 : decode cX9_wind 13 = .ok (.aload_n 0, 1) := by decide +kernel
theorem dX9_wind_14 : decode cX9_wind 14 = .ok (.getfield 19, 3) := by decide +kernel
theorem dX9_wind_17 : decode cX9_wind 17 = .ok (.getfield 253, 3) := by decide +kernel
theorem dX9_wind_20 : decode cX9_wind 20 = .ok (.iload_n 1, 1) := by decide +kernel
theorem dX9_wind_21 : decode cX9_wind 21 = .ok (.iaload, 1) := by decide +kernel
theorem dX9_wind_22 : decode cX9_wind 22 = .ok (.istore_n 3, 1) := by decide +kernel
theorem dX9_wind_23 : decode cX9_wind 23 = .ok (.aload_n 0, 1) := by decide +kernel
theorem dX9_wind_24 : decode cX9_wind 24 = .ok (.getfield 19, 3) := by decide +kernel
theorem dX9_wind_27 : decode cX9_wind 27 = .ok (.iload_n 1, 1) := by decide +kernel
theorem dX9_wind_28 : decode cX9_wind 28 = .ok (.iload_n 2, 1) := by decide +kernel
theorem dX9_wind_29 : decode cX9_wind 29 = .ok (.invokevirtual 112, 3) := by decide +kernel
theorem dX9_wind_32 : decode cX9_wind 32 = .ok (.pop, 1) := by decide +kernel
theorem dX9_wind_33 : decode cX9_wind 33 = .ok (.bipush 100, 2) := by decide +kernel
theorem dX9_wind_35 : decode cX9_wind 35 = .ok (.iload_n 3, 1) := by decide +kernel
theorem dX9_wind_36 : decode cX9_wind 36 = .ok (.iadd, 1) := by decide +kernel
theorem dX9_wind_37 : decode cX9_wind 37 = .ok (.ireturn, 1) := by decide +kernel
def bX9_wind_0 (w : ab_W) (mc : Nat) (s_X3_windRefusal : ab_S) (s_X9_beginAction : ab_S) (s_X3_tryWind : ab_S) (x_X9_beginAction : ab_SX) (M : Nat → ab_P) (Kn : Option Value → ab_H → Prop) (Kx : String → ab_H → Prop) : ab_P := ab_ald 0 (ab_ald 0 (ab_gr w 9 40 (ab_ild 1 (ab_ild 2 (ab_cV w 3 3 s_X3_windRefusal (ab_cVX w mc 2 9 s_X9_beginAction x_X9_beginAction Kx (ab_ald 0 (ab_gr w 9 40 (ab_gr w 3 27 (ab_ild 1 (ab_ia w 11 (ab_ist 3 (ab_ald 0 (ab_gr w 9 40 (ab_ild 1 (ab_ild 2 (ab_cV w 3 3 s_X3_tryWind (ab_pop (ab_ci (nI 100) (ab_ild 3 (ab_b2 (fun x y => x + y) (ab_ir Kn))))))))))))))))))))))
set_option maxRecDepth 20000 in
set_option maxHeartbeats 2000000 in
theorem vc_X9_wind {l : Launch} (hl : l.stackTraces = false) {w : ab_W} (hI : ab_Inj w) {mc : Nat} {σ : ab_H} {As : List Value} {Kn : Option Value → ab_H → Prop} {Kx : String → ab_H → Prop} {s_X3_windRefusal : ab_S} (ok_X3_windRefusal : ab_OkN l yX3_windRefusal (Cond.code yX3_windRefusal cX3_windRefusal 3 (some .int)) 2 s_X3_windRefusal) {s_X9_beginAction : ab_S} (ok_X9_beginAction : ab_OkN l yX9_beginAction (Cond.code yX9_beginAction cX9_beginAction 2 none) 7 s_X9_beginAction) {s_X3_tryWind : ab_S} (ok_X3_tryWind : ab_OkN l yX3_tryWind (Cond.code yX3_tryWind cX3_tryWind 3 (some .boolean)) 3 s_X3_tryWind) {x_X9_beginAction : ab_SX} (okx_X9_beginAction : ab_OkX l yX9_beginAction (Cond.code yX9_beginAction cX9_beginAction 2 none) 7 x_X9_beginAction) (hlen : (ab_xl As).length ≤ 4) (h : ∀ M : Nat → ab_P, (∀ L st σ, bX9_wind_0 w mc s_X3_windRefusal s_X9_beginAction s_X3_tryWind x_X9_beginAction M Kn Kx L st σ → M 0 L st σ) → M 0 (ab_pd 4 (ab_xl As)) [] σ) : ab_Met l yX9_wind (Cond.code yX9_wind cX9_wind 4 (some .int)) 8 mc w σ As Kn Kx := by
  refine ab_enter (by decide) hl hI hlen (by decide) ?_
  intro p e R s m args below meth c C hno hr
  exact h _ (sd_aload_n C (i := 0) dX9_wind_0 rfl (sd_aload_n C (i := 0) dX9_wind_1 rfl (sd_gr C (ci := 9) (k := 1) (r := (RX9, TX9, 7)) rfl (by decide) rfl wd_293 dX9_wind_2 (sd_iload_n C (i := 1) dX9_wind_5 rfl (sd_iload_n C (i := 2) dX9_wind_6 rfl (sd_cV C ok_X3_windRefusal (ci := 3) (row := (RX3, TX3, 13)) rfl rfl ⟨by decide, by decide, wd_509, wd_3, by decide +kernel⟩ wd_810 wd_507 wd_508 dX9_wind_7 (sd_cVX C hno ok_X9_beginAction okx_X9_beginAction (ci := 9) (row := (RX9, TX9, 7)) rfl rfl ⟨by decide, by decide, wd_785, wd_1, by decide +kernel⟩ wd_782 wd_784 ws_12 dX9_wind_10 (sd_aload_n C (i := 0) dX9_wind_13 rfl (sd_gr C (ci := 9) (k := 1) (r := (RX9, TX9, 7)) rfl (by decide) rfl wd_293 dX9_wind_14 (sd_gr C (ci := 3) (k := 5) (r := (RX3, TX3, 13)) rfl (by decide) rfl wd_214 dX9_wind_17 (sd_iload_n C (i := 1) dX9_wind_20 rfl (sd_ia C dX9_wind_21 (sd_istore_n C (i := 3) dX9_wind_22 rfl (by decide) (sd_aload_n C (i := 0) dX9_wind_23 rfl (sd_gr C (ci := 9) (k := 1) (r := (RX9, TX9, 7)) rfl (by decide) rfl wd_293 dX9_wind_24 (sd_iload_n C (i := 1) dX9_wind_27 rfl (sd_iload_n C (i := 2) dX9_wind_28 rfl (sd_cV C ok_X3_tryWind (ci := 3) (row := (RX3, TX3, 13)) rfl rfl ⟨by decide, by decide, wd_505, wd_3, by decide +kernel⟩ wd_502 wd_503 wd_504 dX9_wind_29 (sd_pop C dX9_wind_32 (sd_bipush C (x := nI 100) dX9_wind_33 (by decide +kernel) (sd_iload_n C (i := 3) dX9_wind_35 rfl (sd_iadd C dX9_wind_36 (sd_ir C hr dX9_wind_37)))))))))))))))))))))))
theorem dX9_change_0 : decode cX9_change 0 = .ok (.aload_n 0, 1) := by decide +kernel
theorem dX9_change_1 : decode cX9_change 1 = .ok (.aload_n 0, 1) := by decide +kernel
theorem dX9_change_2 : decode cX9_change 2 = .ok (.getfield 19, 3) := by decide +kernel
theorem dX9_change_5 : decode cX9_change 5 = .ok (.iload_n 1, 1) := by decide +kernel
theorem dX9_change_6 : decode cX9_change 6 = .ok (.iload_n 2, 1) := by decide +kernel
theorem dX9_change_7 : decode cX9_change 7 = .ok (.iload_n 3, 1) := by decide +kernel
theorem dX9_change_8 : decode cX9_change 8 = .ok (.invokevirtual 273, 3) := by decide +kernel
theorem dX9_change_11 : decode cX9_change 11 = .ok (.invokevirtual 263, 3) := by decide +kernel
theorem dX9_change_14 : decode cX9_change 14 = .ok (.aload_n 0, 1) := by decide +kernel
theorem dX9_change_15 : decode cX9_change 15 = .ok (.getfield 19, 3) := by decide +kernel
theorem dX9_change_18 : decode cX9_change 18 = .ok (.getfield 122, 3) := by decide +kernel
theorem dX9_change_21 : decode cX9_change 21 = .ok (.getfield 189, 3) := by decide +kernel
theorem dX9_change_24 : decode cX9_change 24 = .ok (.iload_n 1, 1) := by decide +kernel
theorem dX9_change_25 : decode cX9_change 25 = .ok (.iaload, 1) := by decide +kernel
theorem dX9_change_26 : decode cX9_change 26 = .ok (.istore 4, 2) := by decide +kernel
theorem dX9_change_28 : decode cX9_change 28 = .ok (.aload_n 0, 1) := by decide +kernel
theorem dX9_change_29 : decode cX9_change 29 = .ok (.getfield 19, 3) := by decide +kernel
theorem dX9_change_32 : decode cX9_change 32 = .ok (.iload_n 1, 1) := by decide +kernel
theorem dX9_change_33 : decode cX9_change 33 = .ok (.iload_n 2, 1) := by decide +kernel
theorem dX9_change_34 : decode cX9_change 34 = .ok (.iload_n 3, 1) := by decide +kernel
theorem dX9_change_35 : decode cX9_change 35 = .ok (.invokevirtual 276, 3) := by decide +kernel
theorem dX9_change_38 : decode cX9_change 38 = .ok (.pop, 1) := by decide +kernel
theorem dX9_change_39 : decode cX9_change 39 = .ok (.iload 4, 2) := by decide +kernel
theorem dX9_change_41 : decode cX9_change 41 = .ok (.ireturn, 1) := by decide +kernel
def bX9_change_0 (w : ab_W) (mc : Nat) (s_X3_changeRefusal : ab_S) (s_X9_beginAction : ab_S) (s_X3_tryChange : ab_S) (x_X9_beginAction : ab_SX) (M : Nat → ab_P) (Kn : Option Value → ab_H → Prop) (Kx : String → ab_H → Prop) : ab_P := ab_ald 0 (ab_ald 0 (ab_gr w 9 40 (ab_ild 1 (ab_ild 2 (ab_ild 3 (ab_cV w 4 3 s_X3_changeRefusal (ab_cVX w mc 2 9 s_X9_beginAction x_X9_beginAction Kx (ab_ald 0 (ab_gr w 9 40 (ab_gr w 3 1 (ab_gr w 7 2 (ab_ild 1 (ab_ia w 11 (ab_ist 4 (ab_ald 0 (ab_gr w 9 40 (ab_ild 1 (ab_ild 2 (ab_ild 3 (ab_cV w 4 3 s_X3_tryChange (ab_pop (ab_ild 4 (ab_ir Kn)))))))))))))))))))))))
set_option maxRecDepth 20000 in
set_option maxHeartbeats 2000000 in
theorem vc_X9_change {l : Launch} (hl : l.stackTraces = false) {w : ab_W} (hI : ab_Inj w) {mc : Nat} {σ : ab_H} {As : List Value} {Kn : Option Value → ab_H → Prop} {Kx : String → ab_H → Prop} {s_X3_changeRefusal : ab_S} (ok_X3_changeRefusal : ab_OkN l yX3_changeRefusal (Cond.code yX3_changeRefusal cX3_changeRefusal 4 (some .int)) 2 s_X3_changeRefusal) {s_X9_beginAction : ab_S} (ok_X9_beginAction : ab_OkN l yX9_beginAction (Cond.code yX9_beginAction cX9_beginAction 2 none) 7 s_X9_beginAction) {s_X3_tryChange : ab_S} (ok_X3_tryChange : ab_OkN l yX3_tryChange (Cond.code yX3_tryChange cX3_tryChange 4 (some .boolean)) 3 s_X3_tryChange) {x_X9_beginAction : ab_SX} (okx_X9_beginAction : ab_OkX l yX9_beginAction (Cond.code yX9_beginAction cX9_beginAction 2 none) 7 x_X9_beginAction) (hlen : (ab_xl As).length ≤ 5) (h : ∀ M : Nat → ab_P, (∀ L st σ, bX9_change_0 w mc s_X3_changeRefusal s_X9_beginAction s_X3_tryChange x_X9_beginAction M Kn Kx L st σ → M 0 L st σ) → M 0 (ab_pd 5 (ab_xl As)) [] σ) : ab_Met l yX9_change (Cond.code yX9_change cX9_change 5 (some .int)) 8 mc w σ As Kn Kx := by
  refine ab_enter (by decide) hl hI hlen (by decide) ?_
  intro p e R s m args below meth c C hno hr
  exact h _ (sd_aload_n C (i := 0) dX9_change_0 rfl (sd_aload_n C (i := 0) dX9_change_1 rfl (sd_gr C (ci := 9) (k := 1) (r := (RX9, TX9, 7)) rfl (by decide) rfl wd_293 dX9_change_2 (sd_iload_n C (i := 1) dX9_change_5 rfl (sd_iload_n C (i := 2) dX9_change_6 rfl (sd_iload_n C (i := 3) dX9_change_7 rfl (sd_cV C ok_X3_changeRefusal (ci := 3) (row := (RX3, TX3, 13)) rfl rfl ⟨by decide, by decide, wd_821, wd_3, by decide +kernel⟩ wd_818 wd_819 wd_820 dX9_change_8 (sd_cVX C hno ok_X9_beginAction okx_X9_beginAction (ci := 9) (row := (RX9, TX9, 7)) rfl rfl ⟨by decide, by decide, wd_785, wd_1, by decide +kernel⟩ wd_782 wd_784 ws_12 dX9_change_11 (sd_aload_n C (i := 0) dX9_change_14 rfl (sd_gr C (ci := 9) (k := 1) (r := (RX9, TX9, 7)) rfl (by decide) rfl wd_293 dX9_change_15 (sd_gr C (ci := 3) (k := 0) (r := (RX3, TX3, 13)) rfl (by decide) rfl wd_204 dX9_change_18 (sd_gr C (ci := 7) (k := 2) (r := (RX7, TX7, 8)) rfl (by decide) rfl wd_73 dX9_change_21 (sd_iload_n C (i := 1) dX9_change_24 rfl (sd_ia C dX9_change_25 (sd_istore C dX9_change_26 (by decide) (sd_aload_n C (i := 0) dX9_change_28 rfl (sd_gr C (ci := 9) (k := 1) (r := (RX9, TX9, 7)) rfl (by decide) rfl wd_293 dX9_change_29 (sd_iload_n C (i := 1) dX9_change_32 rfl (sd_iload_n C (i := 2) dX9_change_33 rfl (sd_iload_n C (i := 3) dX9_change_34 rfl (sd_cV C ok_X3_tryChange (ci := 3) (row := (RX3, TX3, 13)) rfl rfl ⟨by decide, by decide, wd_825, wd_3, by decide +kernel⟩ wd_822 wd_823 wd_824 dX9_change_35 (sd_pop C dX9_change_38 (sd_iload C dX9_change_39 (sd_ir C hr dX9_change_41))))))))))))))))))))))))
theorem dX9_deliver_0 : decode cX9_deliver 0 = .ok (.aload_n 0, 1) := by decide +kernel
theorem dX9_deliver_1 : decode cX9_deliver 1 = .ok (.aload_n 0, 1) := by decide +kernel
theorem dX9_deliver_2 : decode cX9_deliver 2 = .ok (.getfield 19, 3) := by decide +kernel
theorem dX9_deliver_5 : decode cX9_deliver 5 = .ok (.iload_n 1, 1) := by decide +kernel
theorem dX9_deliver_6 : decode cX9_deliver 6 = .ok (.iload_n 2, 1) := by decide +kernel
theorem dX9_deliver_7 : decode cX9_deliver 7 = .ok (.iload_n 3, 1) := by decide +kernel
theorem dX9_deliver_8 : decode cX9_deliver 8 = .ok (.invokevirtual 279, 3) := by decide +kernel
theorem dX9_deliver_11 : decode cX9_deliver 11 = .ok (.invokevirtual 263, 3) := by decide +kernel
theorem dX9_deliver_14 : decode cX9_deliver 14 = .ok (.aload_n 0, 1) := by decide +kernel
theorem dX9_deliver_15 : decode cX9_deliver 15 = .ok (.getfield 19, 3) := by decide +kernel
theorem dX9_deliver_18 : decode cX9_deliver 18 = .ok (.iload_n 1, 1) := by decide +kernel
theorem dX9_deliver_19 : decode cX9_deliver 19 = .ok (.iload_n 2, 1) := by decide +kernel
theorem dX9_deliver_20 : decode cX9_deliver 20 = .ok (.iload_n 3, 1) := by decide +kernel
theorem dX9_deliver_21 : decode cX9_deliver 21 = .ok (.invokevirtual 116, 3) := by decide +kernel
theorem dX9_deliver_24 : decode cX9_deliver 24 = .ok (.pop, 1) := by decide +kernel
theorem dX9_deliver_25 : decode cX9_deliver 25 = .ok (.aload_n 0, 1) := by decide +kernel
theorem dX9_deliver_26 : decode cX9_deliver 26 = .ok (.getfield 19, 3) := by decide +kernel
theorem dX9_deliver_29 : decode cX9_deliver 29 = .ok (.iload_n 2, 1) := by decide +kernel
theorem dX9_deliver_30 : decode cX9_deliver 30 = .ok (.iload_n 3, 1) := by decide +kernel
theorem dX9_deliver_31 : decode cX9_deliver 31 = .ok (.invokevirtual 282, 3) := by decide +kernel
theorem dX9_deliver_34 : decode cX9_deliver 34 = .ok (.ireturn, 1) := by decide +kernel
def bX9_deliver_0 (w : ab_W) (mc : Nat) (s_X3_orderRefusal : ab_S) (s_X9_beginAction : ab_S) (s_X3_tryOrder : ab_S) (s_X3_priceOf : ab_S) (x_X9_beginAction : ab_SX) (M : Nat → ab_P) (Kn : Option Value → ab_H → Prop) (Kx : String → ab_H → Prop) : ab_P := ab_ald 0 (ab_ald 0 (ab_gr w 9 40 (ab_ild 1 (ab_ild 2 (ab_ild 3 (ab_cV w 4 3 s_X3_orderRefusal (ab_cVX w mc 2 9 s_X9_beginAction x_X9_beginAction Kx (ab_ald 0 (ab_gr w 9 40 (ab_ild 1 (ab_ild 2 (ab_ild 3 (ab_cV w 4 3 s_X3_tryOrder (ab_pop (ab_ald 0 (ab_gr w 9 40 (ab_ild 2 (ab_ild 3 (ab_cV w 3 3 s_X3_priceOf (ab_ir Kn))))))))))))))))))))
set_option maxRecDepth 20000 in
set_option maxHeartbeats 2000000 in
theorem vc_X9_deliver {l : Launch} (hl : l.stackTraces = false) {w : ab_W} (hI : ab_Inj w) {mc : Nat} {σ : ab_H} {As : List Value} {Kn : Option Value → ab_H → Prop} {Kx : String → ab_H → Prop} {s_X3_orderRefusal : ab_S} (ok_X3_orderRefusal : ab_OkN l yX3_orderRefusal (Cond.code yX3_orderRefusal cX3_orderRefusal 5 (some .int)) 2 s_X3_orderRefusal) {s_X9_beginAction : ab_S} (ok_X9_beginAction : ab_OkN l yX9_beginAction (Cond.code yX9_beginAction cX9_beginAction 2 none) 7 s_X9_beginAction) {s_X3_tryOrder : ab_S} (ok_X3_tryOrder : ab_OkN l yX3_tryOrder (Cond.code yX3_tryOrder cX3_tryOrder 4 (some .boolean)) 3 s_X3_tryOrder) {s_X3_priceOf : ab_S} (ok_X3_priceOf : ab_OkN l yX3_priceOf (Cond.code yX3_priceOf cX3_priceOf 3 (some .int)) 1 s_X3_priceOf) {x_X9_beginAction : ab_SX} (okx_X9_beginAction : ab_OkX l yX9_beginAction (Cond.code yX9_beginAction cX9_beginAction 2 none) 7 x_X9_beginAction) (hlen : (ab_xl As).length ≤ 4) (h : ∀ M : Nat → ab_P, (∀ L st σ, bX9_deliver_0 w mc s_X3_orderRefusal s_X9_beginAction s_X3_tryOrder s_X3_priceOf x_X9_beginAction M Kn Kx L st σ → M 0 L st σ) → M 0 (ab_pd 4 (ab_xl As)) [] σ) : ab_Met l yX9_deliver (Cond.code yX9_deliver cX9_deliver 4 (some .int)) 8 mc w σ As Kn Kx := by
  refine ab_enter (by decide) hl hI hlen (by decide) ?_
  intro p e R s m args below meth c C hno hr
  exact h _ (sd_aload_n C (i := 0) dX9_deliver_0 rfl (sd_aload_n C (i := 0) dX9_deliver_1 rfl (sd_gr C (ci := 9) (k := 1) (r := (RX9, TX9, 7)) rfl (by decide) rfl wd_293 dX9_deliver_2 (sd_iload_n C (i := 1) dX9_deliver_5 rfl (sd_iload_n C (i := 2) dX9_deliver_6 rfl (sd_iload_n C (i := 3) dX9_deliver_7 rfl (sd_cV C ok_X3_orderRefusal (ci := 3) (row := (RX3, TX3, 13)) rfl rfl ⟨by decide, by decide, wd_517, wd_3, by decide +kernel⟩ wd_834 wd_515 wd_516 dX9_deliver_8 (sd_cVX C hno ok_X9_beginAction okx_X9_beginAction (ci := 9) (row := (RX9, TX9, 7)) rfl rfl ⟨by decide, by decide, wd_785, wd_1, by decide +kernel⟩ wd_782 wd_784 ws_12 dX9_deliver_11 (sd_aload_n C (i := 0) dX9_deliver_14 rfl (sd_gr C (ci := 9) (k := 1) (r := (RX9, TX9, 7)) rfl (by decide) rfl wd_293 dX9_deliver_15 (sd_iload_n C (i := 1) dX9_deliver_18 rfl (sd_iload_n C (i := 2) dX9_deliver_19 rfl (sd_iload_n C (i := 3) dX9_deliver_20 rfl (sd_cV C ok_X3_tryOrder (ci := 3) (row := (RX3, TX3, 13)) rfl rfl ⟨by decide, by decide, wd_513, wd_3, by decide +kernel⟩ wd_510 wd_511 wd_512 dX9_deliver_21 (sd_pop C dX9_deliver_24 (sd_aload_n C (i := 0) dX9_deliver_25 rfl (sd_gr C (ci := 9) (k := 1) (r := (RX9, TX9, 7)) rfl (by decide) rfl wd_293 dX9_deliver_26 (sd_iload_n C (i := 2) dX9_deliver_29 rfl (sd_iload_n C (i := 3) dX9_deliver_30 rfl (sd_cV C ok_X3_priceOf (ci := 3) (row := (RX3, TX3, 13)) rfl rfl ⟨by decide, by decide, wd_530, wd_3, by decide +kernel⟩ wd_835 wd_528 wd_529 dX9_deliver_31 (sd_ir C hr dX9_deliver_34)))))))))))))))))))))
theorem dX9_move_0 : decode cX9_move 0 = .ok (.aload_n 0, 1) := by decide +kernel
theorem dX9_move_1 : decode cX9_move 1 = .ok (.aload_n 0, 1) := by decide +kernel
theorem dX9_move_2 : decode cX9_move 2 = .ok (.getfield 19, 3) := by decide +kernel
theorem dX9_move_5 : decode cX9_move 5 = .ok (.iload_n 1, 1) := by decide +kernel
theorem dX9_move_6 : decode cX9_move 6 = .ok (.iload_n 2, 1) := by decide +kernel
theorem dX9_move_7 : decode cX9_move 7 = .ok (.invokevirtual 285, 3) := by decide +kernel
theorem dX9_move_10 : decode cX9_move 10 = .ok (.invokevirtual 263, 3) := by decide +kernel
theorem dX9_move_13 : decode cX9_move 13 = .ok (.aload_n 0, 1) := by decide +kernel
theorem dX9_move_14 : decode cX9_move 14 = .ok (.getfield 19, 3) := by decide +kernel
theorem dX9_move_17 : decode cX9_move 17 = .ok (.getfield 122, 3) := by decide +kernel
theorem dX9_move_20 : decode cX9_move 20 = .ok (.iload_n 1, 1) := by decide +kernel
theorem dX9_move_21 : decode cX9_move 21 = .ok (.invokevirtual 288, 3) := by decide +kernel
theorem dX9_move_24 : decode cX9_move 24 = .ok (.istore_n 3, 1) := by decide +kernel
theorem dX9_move_25 : decode cX9_move 25 = .ok (.aload_n 0, 1) := by decide +kernel
theorem dX9_move_26 : decode cX9_move 26 = .ok (.getfield 19, 3) := by decide +kernel
theorem dX9_move_29 : decode cX9_move 29 = .ok (.iload_n 1, 1) := by decide +kernel
theorem dX9_move_30 : decode cX9_move 30 = .ok (.iload_n 2, 1) := by decide +kernel
theorem dX9_move_31 : decode cX9_move 31 = .ok (.invokevirtual 291, 3) := by decide +kernel
theorem dX9_move_34 : decode cX9_move 34 = .ok (.pop, 1) := by decide +kernel
theorem dX9_move_35 : decode cX9_move 35 = .ok (.iload_n 3, 1) := by decide +kernel
theorem dX9_move_36 : decode cX9_move 36 = .ok (.ireturn, 1) := by decide +kernel
def bX9_move_0 (w : ab_W) (mc : Nat) (s_X3_transferRefusal : ab_S) (s_X9_beginAction : ab_S) (s_X7_mostFlownOf : ab_S) (s_X3_tryTransfer : ab_S) (x_X9_beginAction : ab_SX) (M : Nat → ab_P) (Kn : Option Value → ab_H → Prop) (Kx : String → ab_H → Prop) : ab_P := ab_ald 0 (ab_ald 0 (ab_gr w 9 40 (ab_ild 1 (ab_ild 2 (ab_cV w 3 3 s_X3_transferRefusal (ab_cVX w mc 2 9 s_X9_beginAction x_X9_beginAction Kx (ab_ald 0 (ab_gr w 9 40 (ab_gr w 3 1 (ab_ild 1 (ab_cV w 2 7 s_X7_mostFlownOf (ab_ist 3 (ab_ald 0 (ab_gr w 9 40 (ab_ild 1 (ab_ild 2 (ab_cV w 3 3 s_X3_tryTransfer (ab_pop (ab_ild 3 (ab_ir Kn))))))))))))))))))))
set_option maxRecDepth 20000 in
set_option maxHeartbeats 2000000 in
theorem vc_X9_move {l : Launch} (hl : l.stackTraces = false) {w : ab_W} (hI : ab_Inj w) {mc : Nat} {σ : ab_H} {As : List Value} {Kn : Option Value → ab_H → Prop} {Kx : String → ab_H → Prop} {s_X3_transferRefusal : ab_S} (ok_X3_transferRefusal : ab_OkN l yX3_transferRefusal (Cond.code yX3_transferRefusal cX3_transferRefusal 3 (some .int)) 3 s_X3_transferRefusal) {s_X9_beginAction : ab_S} (ok_X9_beginAction : ab_OkN l yX9_beginAction (Cond.code yX9_beginAction cX9_beginAction 2 none) 7 s_X9_beginAction) {s_X7_mostFlownOf : ab_S} (ok_X7_mostFlownOf : ab_OkN l yX7_mostFlownOf (Cond.code yX7_mostFlownOf cX7_mostFlownOf 3 (some .int)) 2 s_X7_mostFlownOf) {s_X3_tryTransfer : ab_S} (ok_X3_tryTransfer : ab_OkN l yX3_tryTransfer (Cond.code yX3_tryTransfer cX3_tryTransfer 4 (some .boolean)) 4 s_X3_tryTransfer) {x_X9_beginAction : ab_SX} (okx_X9_beginAction : ab_OkX l yX9_beginAction (Cond.code yX9_beginAction cX9_beginAction 2 none) 7 x_X9_beginAction) (hlen : (ab_xl As).length ≤ 4) (h : ∀ M : Nat → ab_P, (∀ L st σ, bX9_move_0 w mc s_X3_transferRefusal s_X9_beginAction s_X7_mostFlownOf s_X3_tryTransfer x_X9_beginAction M Kn Kx L st σ → M 0 L st σ) → M 0 (ab_pd 4 (ab_xl As)) [] σ) : ab_Met l yX9_move (Cond.code yX9_move cX9_move 4 (some .int)) 8 mc w σ As Kn Kx := by
  refine ab_enter (by decide) hl hI hlen (by decide) ?_
  intro p e R s m args below meth c C hno hr
  exact h _ (sd_aload_n C (i := 0) dX9_move_0 rfl (sd_aload_n C (i := 0) dX9_move_1 rfl (sd_gr C (ci := 9) (k := 1) (r := (RX9, TX9, 7)) rfl (by decide) rfl wd_293 dX9_move_2 (sd_iload_n C (i := 1) dX9_move_5 rfl (sd_iload_n C (i := 2) dX9_move_6 rfl (sd_cV C ok_X3_transferRefusal (ci := 3) (row := (RX3, TX3, 13)) rfl rfl ⟨by decide, by decide, wd_846, wd_3, by decide +kernel⟩ wd_843 wd_844 wd_845 dX9_move_7 (sd_cVX C hno ok_X9_beginAction okx_X9_beginAction (ci := 9) (row := (RX9, TX9, 7)) rfl rfl ⟨by decide, by decide, wd_785, wd_1, by decide +kernel⟩ wd_782 wd_784 ws_12 dX9_move_10 (sd_aload_n C (i := 0) dX9_move_13 rfl (sd_gr C (ci := 9) (k := 1) (r := (RX9, TX9, 7)) rfl (by decide) rfl wd_293 dX9_move_14 (sd_gr C (ci := 3) (k := 0) (r := (RX3, TX3, 13)) rfl (by decide) rfl wd_204 dX9_move_17 (sd_iload_n C (i := 1) dX9_move_20 rfl (sd_cV C ok_X7_mostFlownOf (ci := 7) (row := (RX7, TX7, 8)) rfl rfl ⟨by decide, by decide, wd_575, wd_4, by decide +kernel⟩ wd_847 wd_573 wd_574 dX9_move_21 (sd_istore_n C (i := 3) dX9_move_24 rfl (by decide) (sd_aload_n C (i := 0) dX9_move_25 rfl (sd_gr C (ci := 9) (k := 1) (r := (RX9, TX9, 7)) rfl (by decide) rfl wd_293 dX9_move_26 (sd_iload_n C (i := 1) dX9_move_29 rfl (sd_iload_n C (i := 2) dX9_move_30 rfl (sd_cV C ok_X3_tryTransfer (ci := 3) (row := (RX3, TX3, 13)) rfl rfl ⟨by decide, by decide, wd_851, wd_3, by decide +kernel⟩ wd_848 wd_849 wd_850 dX9_move_31 (sd_pop C dX9_move_34 (sd_iload_n C (i := 3) dX9_move_35 rfl (sd_ir C hr dX9_move_36)))))))))))))))))))))
theorem dX9_run_0 : decode cX9_run 0 = .ok (.aload_n 0, 1) := by decide +kernel
theorem dX9_run_1 : decode cX9_run 1 = .ok (.iload_n 1, 1) := by decide +kernel
theorem dX9_run_2 : decode cX9_run 2 = .ok (.iconst 1, 1) := by decide +kernel
theorem dX9_run_3 : decode cX9_run 3 = .ok (.bipush 40, 2) := by decide +kernel
theorem dX9_run_5 : decode cX9_run 5 = .ok (.invokestatic 46, 3) := by decide +kernel
theorem dX9_run_8 : decode cX9_run 8 = .ok (.ifCond .eq 7, 3) := by decide +kernel
theorem dX9_run_11 : decode cX9_run 11 = .ok (.iconst 0, 1) := by decide +kernel
theorem dX9_run_12 : decode cX9_run 12 = .ok (.goto 4, 3) := by decide +kernel
theorem dX9_run_15 : decode cX9_run 15 = .ok (.iconst 2, 1) := by decide +kernel
theorem dX9_run_16 : decode cX9_run 16 = .ok (.invokevirtual 263, 3) := by decide +kernel
theorem dX9_run_19 : decode cX9_run 19 = .ok (.aload_n 0, 1) := by decide +kernel
theorem dX9_run_20 : decode cX9_run 20 = .ok (.getfield 19, 3) := by decide +kernel
theorem dX9_run_23 : decode cX9_run 23 = .ok (.getfield 144, 3) := by decide +kernel
theorem dX9_run_26 : decode cX9_run 26 = .ok (.istore_n 2, 1) := by decide +kernel
theorem dX9_run_27 : decode cX9_run 27 = .ok (.aload_n 0, 1) := by decide +kernel
theorem dX9_run_28 : decode cX9_run 28 = .ok (.getfield 19, 3) := by decide +kernel
theorem dX9_run_31 : decode cX9_run 31 = .ok (.iload_n 1, 1) := by decide +kernel
theorem dX9_run_32 : decode cX9_run 32 = .ok (.bipush 40, 2) := by decide +kernel
theorem dX9_run_34 : decode cX9_run 34 = .ok (.invokevirtual 119, 3) := by decide +kernel
theorem dX9_run_37 : decode cX9_run 37 = .ok (.pop, 1) := by decide +kernel
theorem dX9_run_38 : decode cX9_run 38 = .ok (.aload_n 0, 1) := by decide +kernel
theorem dX9_run_39 : decode cX9_run 39 = .ok (.getfield 19, 3) := by decide +kernel
theorem dX9_run_42 : decode cX9_run 42 = .ok (.getfield 144, 3) := by decide +kernel
theorem dX9_run_45 : decode cX9_run 45 = .ok (.iload_n 2, 1) := by decide +kernel
theorem dX9_run_46 : decode cX9_run 46 = .ok (.isub, 1) := by decide +kernel
theorem dX9_run_47 : decode cX9_run 47 = .ok (.ireturn, 1) := by decide +kernel
def bX9_run_0 (w : ab_W) (mc : Nat) (s_X9_within : ab_S) (s_X9_beginAction : ab_S) (s_X3_tryWatches : ab_S) (x_X9_beginAction : ab_SX) (M : Nat → ab_P) (Kn : Option Value → ab_H → Prop) (Kx : String → ab_H → Prop) : ab_P := ab_ald 0 (ab_ild 1 (ab_ci (nI 1) (ab_ci (nI 40) (ab_cN w 3 s_X9_within (ab_if1 (fun x => x = 0) (ab_ci (nI 2) (M 16)) (ab_ci (nI 0) (M 16)))))))
def bX9_run_16 (w : ab_W) (mc : Nat) (s_X9_within : ab_S) (s_X9_beginAction : ab_S) (s_X3_tryWatches : ab_S) (x_X9_beginAction : ab_SX) (M : Nat → ab_P) (Kn : Option Value → ab_H → Prop) (Kx : String → ab_H → Prop) : ab_P := ab_cVX w mc 2 9 s_X9_beginAction x_X9_beginAction Kx (ab_ald 0 (ab_gr w 9 40 (ab_gf w 3 9 (ab_ist 2 (ab_ald 0 (ab_gr w 9 40 (ab_ild 1 (ab_ci (nI 40) (ab_cV w 3 3 s_X3_tryWatches (ab_pop (ab_ald 0 (ab_gr w 9 40 (ab_gf w 3 9 (ab_ild 2 (ab_b2 (fun x y => x - y) (ab_ir Kn))))))))))))))))
set_option maxRecDepth 20000 in
set_option maxHeartbeats 2000000 in
theorem vc_X9_run {l : Launch} (hl : l.stackTraces = false) {w : ab_W} (hI : ab_Inj w) {mc : Nat} {σ : ab_H} {As : List Value} {Kn : Option Value → ab_H → Prop} {Kx : String → ab_H → Prop} {s_X9_within : ab_S} (ok_X9_within : ab_OkN l yX9_within (Cond.code yX9_within cX9_within 3 (some .boolean)) 1 s_X9_within) {s_X9_beginAction : ab_S} (ok_X9_beginAction : ab_OkN l yX9_beginAction (Cond.code yX9_beginAction cX9_beginAction 2 none) 7 s_X9_beginAction) {s_X3_tryWatches : ab_S} (ok_X3_tryWatches : ab_OkN l yX3_tryWatches (Cond.code yX3_tryWatches cX3_tryWatches 4 (some .boolean)) 5 s_X3_tryWatches) {x_X9_beginAction : ab_SX} (okx_X9_beginAction : ab_OkX l yX9_beginAction (Cond.code yX9_beginAction cX9_beginAction 2 none) 7 x_X9_beginAction) (hlen : (ab_xl As).length ≤ 3) (h : ∀ M : Nat → ab_P, (∀ L st σ, bX9_run_0 w mc s_X9_within s_X9_beginAction s_X3_tryWatches x_X9_beginAction M Kn Kx L st σ → M 0 L st σ) → (∀ L st σ, bX9_run_16 w mc s_X9_within s_X9_beginAction s_X3_tryWatches x_X9_beginAction M Kn Kx L st σ → M 16 L st σ) → M 0 (ab_pd 3 (ab_xl As)) [] σ) : ab_Met l yX9_run (Cond.code yX9_run cX9_run 3 (some .int)) 8 mc w σ As Kn Kx := by
  refine ab_enter (by decide) hl hI hlen (by decide) ?_
  intro p e R s m args below meth c C hno hr
  exact h _ (sd_aload_n C (i := 0) dX9_run_0 rfl (sd_iload_n C (i := 1) dX9_run_1 rfl (sd_iconst C (x := nI 1) dX9_run_2 (by decide +kernel) (sd_bipush C (x := nI 40) dX9_run_3 (by decide +kernel) (sd_cS C ok_X9_within ⟨by decide, by decide, wd_477, wd_1, by decide +kernel⟩ wd_618 wd_476 dX9_run_5 (sd_if_eq C dX9_run_8 (tgt := 15) (by decide) (sd_iconst C (x := nI 2) dX9_run_15 (by decide +kernel) (fun _ _ _ h => h)) (sd_iconst C (x := nI 0) dX9_run_11 (by decide +kernel) (sd_goto C dX9_run_12 (tgt := 16) (by decide) (fun _ _ _ h => h)))))))))
    (sd_cVX C hno ok_X9_beginAction okx_X9_beginAction (ci := 9) (row := (RX9, TX9, 7)) rfl rfl ⟨by decide, by decide, wd_785, wd_1, by decide +kernel⟩ wd_782 wd_784 ws_12 dX9_run_16 (sd_aload_n C (i := 0) dX9_run_19 rfl (sd_gr C (ci := 9) (k := 1) (r := (RX9, TX9, 7)) rfl (by decide) rfl wd_293 dX9_run_20 (sd_gf C (ci := 3) (k := 9) (r := (RX3, TX3, 13)) rfl (by decide) rfl wd_222 dX9_run_23 (sd_istore_n C (i := 2) dX9_run_26 rfl (by decide) (sd_aload_n C (i := 0) dX9_run_27 rfl (sd_gr C (ci := 9) (k := 1) (r := (RX9, TX9, 7)) rfl (by decide) rfl wd_293 dX9_run_28 (sd_iload_n C (i := 1) dX9_run_31 rfl (sd_bipush C (x := nI 40) dX9_run_32 (by decide +kernel) (sd_cV C ok_X3_tryWatches (ci := 3) (row := (RX3, TX3, 13)) rfl rfl ⟨by decide, by decide, wd_534, wd_3, by decide +kernel⟩ wd_531 wd_532 wd_533 dX9_run_34 (sd_pop C dX9_run_37 (sd_aload_n C (i := 0) dX9_run_38 rfl (sd_gr C (ci := 9) (k := 1) (r := (RX9, TX9, 7)) rfl (by decide) rfl wd_293 dX9_run_39 (sd_gf C (ci := 3) (k := 9) (r := (RX3, TX3, 13)) rfl (by decide) rfl wd_222 dX9_run_42 (sd_iload_n C (i := 2) dX9_run_45 rfl (sd_isub C dX9_run_46 (sd_ir C hr dX9_run_47)))))))))))))))))
theorem dX9_set_0 : decode cX9_set 0 = .ok (.aload_n 0, 1) := by decide +kernel
theorem dX9_set_1 : decode cX9_set 1 = .ok (.aload_n 0, 1) := by decide +kernel
theorem dX9_set_2 : decode cX9_set 2 = .ok (.getfield 19, 3) := by decide +kernel
theorem dX9_set_5 : decode cX9_set 5 = .ok (.iload_n 1, 1) := by decide +kernel
theorem dX9_set_6 : decode cX9_set 6 = .ok (.iload_n 2, 1) := by decide +kernel
theorem dX9_set_7 : decode cX9_set 7 = .ok (.invokevirtual 294, 3) := by decide +kernel
theorem dX9_set_10 : decode cX9_set 10 = .ok (.invokevirtual 263, 3) := by decide +kernel
theorem dX9_set_13 : decode cX9_set 13 = .ok (.aload_n 0, 1) := by decide +kernel
theorem dX9_set_14 : decode cX9_set 14 = .ok (.getfield 19, 3) := by decide +kernel
theorem dX9_set_17 : decode cX9_set 17 = .ok (.getfield 256, 3) := by decide +kernel
theorem dX9_set_20 : decode cX9_set 20 = .ok (.iload_n 1, 1) := by decide +kernel
theorem dX9_set_21 : decode cX9_set 21 = .ok (.iaload, 1) := by decide +kernel
theorem dX9_set_22 : decode cX9_set 22 = .ok (.istore_n 3, 1) := by decide +kernel
theorem dX9_set_23 : decode cX9_set 23 = .ok (.aload_n 0, 1) := by decide +kernel
theorem dX9_set_24 : decode cX9_set 24 = .ok (.getfield 19, 3) := by decide +kernel
theorem dX9_set_27 : decode cX9_set 27 = .ok (.iload_n 1, 1) := by decide +kernel
theorem dX9_set_28 : decode cX9_set 28 = .ok (.iload_n 2, 1) := by decide +kernel
theorem dX9_set_29 : decode cX9_set 29 = .ok (.invokevirtual 297, 3) := by decide +kernel
theorem dX9_set_32 : decode cX9_set 32 = .ok (.pop, 1) := by decide +kernel
theorem dX9_set_33 : decode cX9_set 33 = .ok (.iload_n 3, 1) := by decide +kernel
theorem dX9_set_34 : decode cX9_set 34 = .ok (.ireturn, 1) := by decide +kernel
def bX9_set_0 (w : ab_W) (mc : Nat) (s_X3_settingRefusal : ab_S) (s_X9_beginAction : ab_S) (s_X3_trySetting : ab_S) (x_X9_beginAction : ab_SX) (M : Nat → ab_P) (Kn : Option Value → ab_H → Prop) (Kx : String → ab_H → Prop) : ab_P := ab_ald 0 (ab_ald 0 (ab_gr w 9 40 (ab_ild 1 (ab_ild 2 (ab_cV w 3 3 s_X3_settingRefusal (ab_cVX w mc 2 9 s_X9_beginAction x_X9_beginAction Kx (ab_ald 0 (ab_gr w 9 40 (ab_gr w 3 28 (ab_ild 1 (ab_ia w 11 (ab_ist 3 (ab_ald 0 (ab_gr w 9 40 (ab_ild 1 (ab_ild 2 (ab_cV w 3 3 s_X3_trySetting (ab_pop (ab_ild 3 (ab_ir Kn))))))))))))))))))))
set_option maxRecDepth 20000 in
set_option maxHeartbeats 2000000 in
theorem vc_X9_set {l : Launch} (hl : l.stackTraces = false) {w : ab_W} (hI : ab_Inj w) {mc : Nat} {σ : ab_H} {As : List Value} {Kn : Option Value → ab_H → Prop} {Kx : String → ab_H → Prop} {s_X3_settingRefusal : ab_S} (ok_X3_settingRefusal : ab_OkN l yX3_settingRefusal (Cond.code yX3_settingRefusal cX3_settingRefusal 4 (some .int)) 2 s_X3_settingRefusal) {s_X9_beginAction : ab_S} (ok_X9_beginAction : ab_OkN l yX9_beginAction (Cond.code yX9_beginAction cX9_beginAction 2 none) 7 s_X9_beginAction) {s_X3_trySetting : ab_S} (ok_X3_trySetting : ab_OkN l yX3_trySetting (Cond.code yX3_trySetting cX3_trySetting 3 (some .boolean)) 3 s_X3_trySetting) {x_X9_beginAction : ab_SX} (okx_X9_beginAction : ab_OkX l yX9_beginAction (Cond.code yX9_beginAction cX9_beginAction 2 none) 7 x_X9_beginAction) (hlen : (ab_xl As).length ≤ 4) (h : ∀ M : Nat → ab_P, (∀ L st σ, bX9_set_0 w mc s_X3_settingRefusal s_X9_beginAction s_X3_trySetting x_X9_beginAction M Kn Kx L st σ → M 0 L st σ) → M 0 (ab_pd 4 (ab_xl As)) [] σ) : ab_Met l yX9_set (Cond.code yX9_set cX9_set 4 (some .int)) 8 mc w σ As Kn Kx := by
  refine ab_enter (by decide) hl hI hlen (by decide) ?_
  intro p e R s m args below meth c C hno hr
  exact h _ (sd_aload_n C (i := 0) dX9_set_0 rfl (sd_aload_n C (i := 0) dX9_set_1 rfl (sd_gr C (ci := 9) (k := 1) (r := (RX9, TX9, 7)) rfl (by decide) rfl wd_293 dX9_set_2 (sd_iload_n C (i := 1) dX9_set_5 rfl (sd_iload_n C (i := 2) dX9_set_6 rfl (sd_cV C ok_X3_settingRefusal (ci := 3) (row := (RX3, TX3, 13)) rfl rfl ⟨by decide, by decide, wd_870, wd_3, by decide +kernel⟩ wd_867 wd_868 wd_869 dX9_set_7 (sd_cVX C hno ok_X9_beginAction okx_X9_beginAction (ci := 9) (row := (RX9, TX9, 7)) rfl rfl ⟨by decide, by decide, wd_785, wd_1, by decide +kernel⟩ wd_782 wd_784 ws_12 dX9_set_10 (sd_aload_n C (i := 0) dX9_set_13 rfl (sd_gr C (ci := 9) (k := 1) (r := (RX9, TX9, 7)) rfl (by decide) rfl wd_293 dX9_set_14 (sd_gr C (ci := 3) (k := 6) (r := (RX3, TX3, 13)) rfl (by decide) rfl wd_216 dX9_set_17 (sd_iload_n C (i := 1) dX9_set_20 rfl (sd_ia C dX9_set_21 (sd_istore_n C (i := 3) dX9_set_22 rfl (by decide) (sd_aload_n C (i := 0) dX9_set_23 rfl (sd_gr C (ci := 9) (k := 1) (r := (RX9, TX9, 7)) rfl (by decide) rfl wd_293 dX9_set_24 (sd_iload_n C (i := 1) dX9_set_27 rfl (sd_iload_n C (i := 2) dX9_set_28 rfl (sd_cV C ok_X3_trySetting (ci := 3) (row := (RX3, TX3, 13)) rfl rfl ⟨by decide, by decide, wd_878, wd_3, by decide +kernel⟩ wd_875 wd_876 wd_877 dX9_set_29 (sd_pop C dX9_set_32 (sd_iload_n C (i := 3) dX9_set_33 rfl (sd_ir C hr dX9_set_34)))))))))))))))))))))
theorem dX9_undo_0 : decode cX9_undo 0 = .ok (.aload_n 0, 1) := by decide +kernel
theorem dX9_undo_1 : decode cX9_undo 1 = .ok (.getfield 32, 3) := by decide +kernel
theorem dX9_undo_4 : decode cX9_undo 4 = .ok (.getfield 300, 3) := by decide +kernel
theorem dX9_undo_7 : decode cX9_undo 7 = .ok (.ifCond .ne 14, 3) := by decide +kernel
theorem dX9_undo_10 : decode cX9_undo 10 = .ok (.new 61, 3) := by decide +kernel
theorem dX9_undo_13 : decode cX9_undo 13 = .ok (.dup, 1) := by decide +kernel
theorem dX9_undo_14 : decode cX9_undo 14 = .ok (.ldc_w 301, 3) := by decide +kernel
theorem dX9_undo_17 : decode cX9_undo 17 = .ok (.invokespecial 65, 3) := by decide +kernel
theorem dX9_undo_20 : decode cX9_undo 20 = .ok (.athrow, 1) := by decide +kernel
theorem dX9_undo_21 : decode cX9_undo 21 = .ok (.aload_n 0, 1) := by decide +kernel
theorem dX9_undo_22 : decode cX9_undo 22 = .ok (.getfield 32, 3) := by decide +kernel
theorem dX9_undo_25 : decode cX9_undo 25 = .ok (.aload_n 0, 1) := by decide +kernel
theorem dX9_undo_26 : decode cX9_undo 26 = .ok (.getfield 19, 3) := by decide +kernel
theorem dX9_undo_29 : decode cX9_undo 29 = .ok (.invokevirtual 303, 3) := by decide +kernel
theorem dX9_undo_32 : decode cX9_undo 32 = .ok (.aload_n 0, 1) := by decide +kernel
theorem dX9_undo_33 : decode cX9_undo 33 = .ok (.getfield 32, 3) := by decide +kernel
theorem dX9_undo_36 : decode cX9_undo 36 = .ok (.getfield 300, 3) := by decide +kernel
theorem dX9_undo_39 : decode cX9_undo 39 = .ok (.ireturn, 1) := by decide +kernel
def bX9_undo_0 (w : ab_W) (mc : Nat) (s_X2_takeBack : ab_S) (M : Nat → ab_P) (Kn : Option Value → ab_H → Prop) (Kx : String → ab_H → Prop) : ab_P := ab_ald 0 (ab_gr w 9 4 (ab_gf w 2 0 (ab_if1 (fun x => ¬ x = 0) (ab_ald 0 (ab_gr w 9 4 (ab_ald 0 (ab_gr w 9 40 (ab_cV w 2 2 s_X2_takeBack (ab_ald 0 (ab_gr w 9 4 (ab_gf w 2 0 (ab_ir Kn))))))))) (ab_th mc "java/lang/IllegalStateException" Kx))))
set_option maxRecDepth 20000 in
set_option maxHeartbeats 2000000 in
theorem vc_X9_undo {l : Launch} (hl : l.stackTraces = false) {w : ab_W} (hI : ab_Inj w) {mc : Nat} {σ : ab_H} {As : List Value} {Kn : Option Value → ab_H → Prop} {Kx : String → ab_H → Prop} {s_X2_takeBack : ab_S} (ok_X2_takeBack : ab_OkN l yX2_takeBack (Cond.code yX2_takeBack cX2_takeBack 3 none) 5 s_X2_takeBack) (hlen : (ab_xl As).length ≤ 1) (h : ∀ M : Nat → ab_P, (∀ L st σ, bX9_undo_0 w mc s_X2_takeBack M Kn Kx L st σ → M 0 L st σ) → M 0 (ab_pd 1 (ab_xl As)) [] σ) : ab_Met l yX9_undo (Cond.code yX9_undo cX9_undo 1 (some .int)) 6 mc w σ As Kn Kx := by
  refine ab_enter (by decide) hl hI hlen (by decide) ?_
  intro p e R s m args below meth c C hno hr
  exact h _ (sd_aload_n C (i := 0) dX9_undo_0 rfl (sd_gr C (ci := 9) (k := 4) (r := (RX9, TX9, 7)) rfl (by decide) rfl wd_296 dX9_undo_1 (sd_gf C (ci := 2) (k := 0) (r := (RX2, TX2, 3)) rfl (by decide) rfl wd_266 dX9_undo_4 (sd_if_ne C dX9_undo_7 (tgt := 21) (by decide) (sd_aload_n C (i := 0) dX9_undo_21 rfl (sd_gr C (ci := 9) (k := 4) (r := (RX9, TX9, 7)) rfl (by decide) rfl wd_296 dX9_undo_22 (sd_aload_n C (i := 0) dX9_undo_25 rfl (sd_gr C (ci := 9) (k := 1) (r := (RX9, TX9, 7)) rfl (by decide) rfl wd_293 dX9_undo_26 (sd_cV C ok_X2_takeBack (ci := 2) (row := (RX2, TX2, 3)) rfl rfl ⟨by decide, by decide, wd_999, wd_9, by decide +kernel⟩ wd_996 wd_997 wd_998 dX9_undo_29 (sd_aload_n C (i := 0) dX9_undo_32 rfl (sd_gr C (ci := 9) (k := 4) (r := (RX9, TX9, 7)) rfl (by decide) rfl wd_296 dX9_undo_33 (sd_gf C (ci := 2) (k := 0) (r := (RX2, TX2, 3)) rfl (by decide) rfl wd_266 dX9_undo_36 (sd_ir C hr dX9_undo_39))))))))) (sd_thW C hno (text := "no state is remembered") (by decide) tw_61_65 wd_351 wd_18 (by decide +kernel) (by decide) dX9_undo_10 dX9_undo_13 dX9_undo_14 dX9_undo_17 dX9_undo_20)))))
theorem dX9_landing_0 : decode cX9_landing 0 = .ok (.aload_n 0, 1) := by decide +kernel
theorem dX9_landing_1 : decode cX9_landing 1 = .ok (.iload_n 1, 1) := by decide +kernel
theorem dX9_landing_2 : decode cX9_landing 2 = .ok (.invokevirtual 182, 3) := by decide +kernel
theorem dX9_landing_5 : decode cX9_landing 5 = .ok (.iload_n 2, 1) := by decide +kernel
theorem dX9_landing_6 : decode cX9_landing 6 = .ok (.iconst 0, 1) := by decide +kernel
theorem dX9_landing_7 : decode cX9_landing 7 = .ok (.iconst 3, 1) := by decide +kernel
theorem dX9_landing_8 : decode cX9_landing 8 = .ok (.invokestatic 46, 3) := by decide +kernel
theorem dX9_landing_11 : decode cX9_landing 11 = .ok (.invokestatic 217, 3) := by decide +kernel
theorem dX9_landing_14 : decode cX9_landing 14 = .ok (.aload_n 0, 1) := by decide +kernel
theorem dX9_landing_15 : decode cX9_landing 15 = .ok (.getfield 19, 3) := by decide +kernel
theorem dX9_landing_18 : decode cX9_landing 18 = .ok (.iload_n 1, 1) := by decide +kernel
theorem dX9_landing_19 : decode cX9_landing 19 = .ok (.iload_n 2, 1) := by decide +kernel
theorem dX9_landing_20 : decode cX9_landing 20 = .ok (.invokevirtual 312, 3) := by decide +kernel
theorem dX9_landing_23 : decode cX9_landing 23 = .ok (.ireturn, 1) := by decide +kernel
def bX9_landing_0 (w : ab_W) (mc : Nat) (s_X9_needStation : ab_S) (s_X9_within : ab_S) (s_X9_need : ab_S) (s_X3_landingPlace : ab_S) (x_X9_needStation : ab_SX) (x_X9_need : ab_SX) (M : Nat → ab_P) (Kn : Option Value → ab_H → Prop) (Kx : String → ab_H → Prop) : ab_P := ab_ald 0 (ab_ild 1 (ab_cVX w mc 2 9 s_X9_needStation x_X9_needStation Kx (ab_ild 2 (ab_ci (nI 0) (ab_ci (nI 3) (ab_cN w 3 s_X9_within (ab_cSX w mc 1 s_X9_need x_X9_need Kx (ab_ald 0 (ab_gr w 9 40 (ab_ild 1 (ab_ild 2 (ab_cV w 3 3 s_X3_landingPlace (ab_ir Kn)))))))))))))
set_option maxRecDepth 20000 in
set_option maxHeartbeats 2000000 in
theorem vc_X9_landing {l : Launch} (hl : l.stackTraces = false) {w : ab_W} (hI : ab_Inj w) {mc : Nat} {σ : ab_H} {As : List Value} {Kn : Option Value → ab_H → Prop} {Kx : String → ab_H → Prop} {s_X9_needStation : ab_S} (ok_X9_needStation : ab_OkN l yX9_needStation (Cond.code yX9_needStation cX9_needStation 2 none) 6 s_X9_needStation) {s_X9_within : ab_S} (ok_X9_within : ab_OkN l yX9_within (Cond.code yX9_within cX9_within 3 (some .boolean)) 1 s_X9_within) {s_X9_need : ab_S} (ok_X9_need : ab_OkN l yX9_need (Cond.code yX9_need cX9_need 1 none) 6 s_X9_need) {s_X3_landingPlace : ab_S} (ok_X3_landingPlace : ab_OkN l yX3_landingPlace (Cond.code yX3_landingPlace cX3_landingPlace 4 (some .int)) 2 s_X3_landingPlace) {x_X9_needStation : ab_SX} (okx_X9_needStation : ab_OkX l yX9_needStation (Cond.code yX9_needStation cX9_needStation 2 none) 6 x_X9_needStation) {x_X9_need : ab_SX} (okx_X9_need : ab_OkX l yX9_need (Cond.code yX9_need cX9_need 1 none) 6 x_X9_need) (hlen : (ab_xl As).length ≤ 3) (h : ∀ M : Nat → ab_P, (∀ L st σ, bX9_landing_0 w mc s_X9_needStation s_X9_within s_X9_need s_X3_landingPlace x_X9_needStation x_X9_need M Kn Kx L st σ → M 0 L st σ) → M 0 (ab_pd 3 (ab_xl As)) [] σ) : ab_Met l yX9_landing (Cond.code yX9_landing cX9_landing 3 (some .int)) 7 mc w σ As Kn Kx := by
  refine ab_enter (by decide) hl hI hlen (by decide) ?_
  intro p e R s m args below meth c C hno hr
  exact h _ (sd_aload_n C (i := 0) dX9_landing_0 rfl (sd_iload_n C (i := 1) dX9_landing_1 rfl (sd_cVX C hno ok_X9_needStation okx_X9_needStation (ci := 9) (row := (RX9, TX9, 7)) rfl rfl ⟨by decide, by decide, wd_713, wd_1, by decide +kernel⟩ wd_710 wd_712 ws_10 dX9_landing_2 (sd_iload_n C (i := 2) dX9_landing_5 rfl (sd_iconst C (x := nI 0) dX9_landing_6 (by decide +kernel) (sd_iconst C (x := nI 3) dX9_landing_7 (by decide +kernel) (sd_cS C ok_X9_within ⟨by decide, by decide, wd_477, wd_1, by decide +kernel⟩ wd_618 wd_476 dX9_landing_8 (sd_cSX C hno ok_X9_need okx_X9_need ⟨by decide, by decide, wd_694, wd_1, by decide +kernel⟩ wd_692 wd_693 dX9_landing_11 (sd_aload_n C (i := 0) dX9_landing_14 rfl (sd_gr C (ci := 9) (k := 1) (r := (RX9, TX9, 7)) rfl (by decide) rfl wd_293 dX9_landing_15 (sd_iload_n C (i := 1) dX9_landing_18 rfl (sd_iload_n C (i := 2) dX9_landing_19 rfl (sd_cV C ok_X3_landingPlace (ci := 3) (row := (RX3, TX3, 13)) rfl rfl ⟨by decide, by decide, wd_584, wd_3, by decide +kernel⟩ wd_887 wd_582 wd_583 dX9_landing_20 (sd_ir C hr dX9_landing_23))))))))))))))
theorem dX9_finds_0 : decode cX9_finds 0 = .ok (.iload_n 1, 1) := by decide +kernel
theorem dX9_finds_1 : decode cX9_finds 1 = .ok (.iconst 0, 1) := by decide +kernel
theorem dX9_finds_2 : decode cX9_finds 2 = .ok (.bipush 99, 2) := by decide +kernel
theorem dX9_finds_4 : decode cX9_finds 4 = .ok (.invokestatic 46, 3) := by decide +kernel
theorem dX9_finds_7 : decode cX9_finds 7 = .ok (.invokestatic 217, 3) := by decide +kernel
theorem dX9_finds_10 : decode cX9_finds 10 = .ok (.aload_n 0, 1) := by decide +kernel
theorem dX9_finds_11 : decode cX9_finds 11 = .ok (.getfield 19, 3) := by decide +kernel
theorem dX9_finds_14 : decode cX9_finds 14 = .ok (.getfield 131, 3) := by decide +kernel
theorem dX9_finds_17 : decode cX9_finds 17 = .ok (.iload_n 1, 1) := by decide +kernel
theorem dX9_finds_18 : decode cX9_finds 18 = .ok (.invokevirtual 315, 3) := by decide +kernel
theorem dX9_finds_21 : decode cX9_finds 21 = .ok (.ireturn, 1) := by decide +kernel
def bX9_finds_0 (w : ab_W) (mc : Nat) (s_X9_within : ab_S) (s_X9_need : ab_S) (s_X0_whoFindsAt : ab_S) (x_X9_need : ab_SX) (M : Nat → ab_P) (Kn : Option Value → ab_H → Prop) (Kx : String → ab_H → Prop) : ab_P := ab_ild 1 (ab_ci (nI 0) (ab_ci (nI 99) (ab_cN w 3 s_X9_within (ab_cSX w mc 1 s_X9_need x_X9_need Kx (ab_ald 0 (ab_gr w 9 40 (ab_gr w 3 9 (ab_ild 1 (ab_cV w 2 0 s_X0_whoFindsAt (ab_ir Kn))))))))))
set_option maxRecDepth 20000 in
set_option maxHeartbeats 2000000 in
theorem vc_X9_finds {l : Launch} (hl : l.stackTraces = false) {w : ab_W} (hI : ab_Inj w) {mc : Nat} {σ : ab_H} {As : List Value} {Kn : Option Value → ab_H → Prop} {Kx : String → ab_H → Prop} {s_X9_within : ab_S} (ok_X9_within : ab_OkN l yX9_within (Cond.code yX9_within cX9_within 3 (some .boolean)) 1 s_X9_within) {s_X9_need : ab_S} (ok_X9_need : ab_OkN l yX9_need (Cond.code yX9_need cX9_need 1 none) 6 s_X9_need) {s_X0_whoFindsAt : ab_S} (ok_X0_whoFindsAt : ab_OkN l yX0_whoFindsAt (Cond.code yX0_whoFindsAt cX0_whoFindsAt 6 (some .int)) 2 s_X0_whoFindsAt) {x_X9_need : ab_SX} (okx_X9_need : ab_OkX l yX9_need (Cond.code yX9_need cX9_need 1 none) 6 x_X9_need) (hlen : (ab_xl As).length ≤ 2) (h : ∀ M : Nat → ab_P, (∀ L st σ, bX9_finds_0 w mc s_X9_within s_X9_need s_X0_whoFindsAt x_X9_need M Kn Kx L st σ → M 0 L st σ) → M 0 (ab_pd 2 (ab_xl As)) [] σ) : ab_Met l yX9_finds (Cond.code yX9_finds cX9_finds 2 (some .int)) 7 mc w σ As Kn Kx := by
  refine ab_enter (by decide) hl hI hlen (by decide) ?_
  intro p e R s m args below meth c C hno hr
  exact h _ (sd_iload_n C (i := 1) dX9_finds_0 rfl (sd_iconst C (x := nI 0) dX9_finds_1 (by decide +kernel) (sd_bipush C (x := nI 99) dX9_finds_2 (by decide +kernel) (sd_cS C ok_X9_within ⟨by decide, by decide, wd_477, wd_1, by decide +kernel⟩ wd_618 wd_476 dX9_finds_4 (sd_cSX C hno ok_X9_need okx_X9_need ⟨by decide, by decide, wd_694, wd_1, by decide +kernel⟩ wd_692 wd_693 dX9_finds_7 (sd_aload_n C (i := 0) dX9_finds_10 rfl (sd_gr C (ci := 9) (k := 1) (r := (RX9, TX9, 7)) rfl (by decide) rfl wd_293 dX9_finds_11 (sd_gr C (ci := 3) (k := 1) (r := (RX3, TX3, 13)) rfl (by decide) rfl wd_206 dX9_finds_14 (sd_iload_n C (i := 1) dX9_finds_17 rfl (sd_cV C ok_X0_whoFindsAt (ci := 0) (row := (RX0, TX0, 5)) rfl rfl ⟨by decide, by decide, wd_588, wd_5, by decide +kernel⟩ wd_895 wd_586 wd_587 dX9_finds_18 (sd_ir C hr dX9_finds_21)))))))))))
theorem dX9_coming_0 : decode cX9_coming 0 = .ok (.iload_n 1, 1) := by decide +kernel
theorem dX9_coming_1 : decode cX9_coming 1 = .ok (.iconst 1, 1) := by decide +kernel
theorem dX9_coming_2 : decode cX9_coming 2 = .ok (.bipush 60, 2) := by decide +kernel
theorem dX9_coming_4 : decode cX9_coming 4 = .ok (.invokestatic 46, 3) := by decide +kernel
theorem dX9_coming_7 : decode cX9_coming 7 = .ok (.ifCond .eq 16, 3) := by decide +kernel
theorem dX9_coming_10 : decode cX9_coming 10 = .ok (.iload_n 2, 1) := by decide +kernel
theorem dX9_coming_11 : decode cX9_coming 11 = .ok (.iconst 0, 1) := by decide +kernel
theorem dX9_coming_12 : decode cX9_coming 12 = .ok (.iconst 3, 1) := by decide +kernel
theorem dX9_coming_13 : decode cX9_coming 13 = .ok (.invokestatic 46, 3) := by decide +kernel
theorem dX9_coming_16 : decode cX9_coming 16 = .ok (.ifCond .eq 7, 3) := by decide +kernel
theorem dX9_coming_19 : decode cX9_coming 19 = .ok (.iconst 1, 1) := by decide +kernel
theorem dX9_coming_20 : decode cX9_coming 20 = .ok (.goto 4, 3) := by decide +kernel
theorem dX9_coming_23 : decode cX9_coming 23 = .ok (.iconst 0, 1) := by decide +kernel
theorem dX9_coming_24 : decode cX9_coming 24 = .ok (.invokestatic 217, 3) := by decide +kernel
theorem dX9_coming_27 : decode cX9_coming 27 = .ok (.aload_n 0, 1) := by decide +kernel
theorem dX9_coming_28 : decode cX9_coming 28 = .ok (.getfield 26, 3) := by decide +kernel
theorem dX9_coming_31 : decode cX9_coming 31 = .ok (.aload_n 0, 1) := by decide +kernel
theorem dX9_coming_32 : decode cX9_coming 32 = .ok (.getfield 19, 3) := by decide +kernel
theorem dX9_coming_35 : decode cX9_coming 35 = .ok (.invokevirtual 76, 3) := by decide +kernel
theorem dX9_coming_38 : decode cX9_coming 38 = .ok (.aload_n 0, 1) := by decide +kernel
theorem dX9_coming_39 : decode cX9_coming 39 = .ok (.getfield 26, 3) := by decide +kernel
theorem dX9_coming_42 : decode cX9_coming 42 = .ok (.iload_n 1, 1) := by decide +kernel
theorem dX9_coming_43 : decode cX9_coming 43 = .ok (.bipush 60, 2) := by decide +kernel
theorem dX9_coming_45 : decode cX9_coming 45 = .ok (.invokevirtual 119, 3) := by decide +kernel
theorem dX9_coming_48 : decode cX9_coming 48 = .ok (.pop, 1) := by decide +kernel
theorem dX9_coming_49 : decode cX9_coming 49 = .ok (.iload_n 2, 1) := by decide +kernel
theorem dX9_coming_50 : decode cX9_coming 50 = .ok (.tableswitch 80 0 2 #[26, 42, 64], 26) := by decide +kernel
theorem dX9_coming_76 : decode cX9_coming 76 = .ok (.aload_n 0, 1) := by decide +kernel
theorem dX9_coming_77 : decode cX9_coming 77 = .ok (.getfield 26, 3) := by decide +kernel
theorem dX9_coming_80 : decode cX9_coming 80 = .ok (.getfield 144, 3) := by decide +kernel
theorem dX9_coming_83 : decode cX9_coming 83 = .ok (.aload_n 0, 1) := by decide +kernel
theorem dX9_coming_84 : decode cX9_coming 84 = .ok (.getfield 19, 3) := by decide +kernel
theorem dX9_coming_87 : decode cX9_coming 87 = .ok (.getfield 144, 3) := by decide +kernel
theorem dX9_coming_90 : decode cX9_coming 90 = .ok (.isub, 1) := by decide +kernel
theorem dX9_coming_91 : decode cX9_coming 91 = .ok (.ireturn, 1) := by decide +kernel
theorem dX9_coming_92 : decode cX9_coming 92 = .ok (.aload_n 0, 1) := by decide +kernel
theorem dX9_coming_93 : decode cX9_coming 93 = .ok (.getfield 26, 3) := by decide +kernel
theorem dX9_coming_96 : decode cX9_coming 96 = .ok (.getfield 147, 3) := by decide +kernel
theorem dX9_coming_99 : decode cX9_coming 99 = .ok (.getfield 151, 3) := by decide +kernel
theorem dX9_coming_102 : decode cX9_coming 102 = .ok (.aload_n 0, 1) := by decide +kernel
theorem dX9_coming_103 : decode cX9_coming 103 = .ok (.getfield 19, 3) := by decide +kernel
theorem dX9_coming_106 : decode cX9_coming 106 = .ok (.getfield 147, 3) := by decide +kernel
theorem dX9_coming_109 : decode cX9_coming 109 = .ok (.getfield 151, 3) := by decide +kernel
theorem dX9_coming_112 : decode cX9_coming 112 = .ok (.isub, 1) := by decide +kernel
theorem dX9_coming_113 : decode cX9_coming 113 = .ok (.ireturn, 1) := by decide +kernel
theorem dX9_coming_114 : decode cX9_coming 114 = .ok (.aload_n 0, 1) := by decide +kernel
theorem dX9_coming_115 : decode cX9_coming 115 = .ok (.getfield 26, 3) := by decide +kernel
theorem dX9_coming_118 : decode cX9_coming 118 = .ok (.getfield 141, 3) := by decide +kernel
theorem dX9_coming_121 : decode cX9_coming 121 = .ok (.aload_n 0, 1) := by decide +kernel
theorem dX9_coming_122 : decode cX9_coming 122 = .ok (.getfield 19, 3) := by decide +kernel
theorem dX9_coming_125 : decode cX9_coming 125 = .ok (.getfield 141, 3) := by decide +kernel
theorem dX9_coming_128 : decode cX9_coming 128 = .ok (.isub, 1) := by decide +kernel
theorem dX9_coming_129 : decode cX9_coming 129 = .ok (.ireturn, 1) := by decide +kernel
theorem dX9_coming_130 : decode cX9_coming 130 = .ok (.aload_n 0, 1) := by decide +kernel
theorem dX9_coming_131 : decode cX9_coming 131 = .ok (.getfield 26, 3) := by decide +kernel
theorem dX9_coming_134 : decode cX9_coming 134 = .ok (.getfield 122, 3) := by decide +kernel
theorem dX9_coming_137 : decode cX9_coming 137 = .ok (.invokevirtual 177, 3) := by decide +kernel
theorem dX9_coming_140 : decode cX9_coming 140 = .ok (.ireturn, 1) := by decide +kernel
def bX9_coming_0 (w : ab_W) (mc : Nat) (s_X9_within : ab_S) (s_X9_need : ab_S) (s_X3_copyFrom : ab_S) (s_X3_tryWatches : ab_S) (s_X7_sondesOfAll : ab_S) (x_X9_need : ab_SX) (M : Nat → ab_P) (Kn : Option Value → ab_H → Prop) (Kx : String → ab_H → Prop) : ab_P := ab_ild 1 (ab_ci (nI 1) (ab_ci (nI 60) (ab_cN w 3 s_X9_within (ab_if1 (fun x => x = 0) (M 23) (ab_ild 2 (ab_ci (nI 0) (ab_ci (nI 3) (ab_cN w 3 s_X9_within (ab_if1 (fun x => x = 0) (M 23) (ab_ci (nI 1) (M 24)))))))))))
def bX9_coming_23 (w : ab_W) (mc : Nat) (s_X9_within : ab_S) (s_X9_need : ab_S) (s_X3_copyFrom : ab_S) (s_X3_tryWatches : ab_S) (s_X7_sondesOfAll : ab_S) (x_X9_need : ab_SX) (M : Nat → ab_P) (Kn : Option Value → ab_H → Prop) (Kx : String → ab_H → Prop) : ab_P := ab_ci (nI 0) (M 24)
def bX9_coming_24 (w : ab_W) (mc : Nat) (s_X9_within : ab_S) (s_X9_need : ab_S) (s_X3_copyFrom : ab_S) (s_X3_tryWatches : ab_S) (s_X7_sondesOfAll : ab_S) (x_X9_need : ab_SX) (M : Nat → ab_P) (Kn : Option Value → ab_H → Prop) (Kx : String → ab_H → Prop) : ab_P := ab_cSX w mc 1 s_X9_need x_X9_need Kx (ab_ald 0 (ab_gr w 9 120 (ab_ald 0 (ab_gr w 9 40 (ab_cV w 2 3 s_X3_copyFrom (ab_ald 0 (ab_gr w 9 120 (ab_ild 1 (ab_ci (nI 60) (ab_cV w 3 3 s_X3_tryWatches (ab_pop (ab_ild 2 (ab_sw [(nI 0, ab_ald 0 (ab_gr w 9 120 (ab_gf w 3 9 (ab_ald 0 (ab_gr w 9 40 (ab_gf w 3 9 (ab_b2 (fun x y => x - y) (ab_ir Kn)))))))), (nI 1, ab_ald 0 (ab_gr w 9 120 (ab_gr w 3 23 (ab_gf w 1 0 (ab_ald 0 (ab_gr w 9 40 (ab_gr w 3 23 (ab_gf w 1 0 (ab_b2 (fun x y => x - y) (ab_ir Kn)))))))))), (nI 2, ab_ald 0 (ab_gr w 9 120 (ab_gf w 3 8 (ab_ald 0 (ab_gr w 9 40 (ab_gf w 3 8 (ab_b2 (fun x y => x - y) (ab_ir Kn))))))))] (ab_ald 0 (ab_gr w 9 120 (ab_gr w 3 1 (ab_cV w 1 7 s_X7_sondesOfAll (ab_ir Kn))))))))))))))))))
set_option maxRecDepth 20000 in
set_option maxHeartbeats 2000000 in
theorem vc_X9_coming {l : Launch} (hl : l.stackTraces = false) {w : ab_W} (hI : ab_Inj w) {mc : Nat} {σ : ab_H} {As : List Value} {Kn : Option Value → ab_H → Prop} {Kx : String → ab_H → Prop} {s_X9_within : ab_S} (ok_X9_within : ab_OkN l yX9_within (Cond.code yX9_within cX9_within 3 (some .boolean)) 1 s_X9_within) {s_X9_need : ab_S} (ok_X9_need : ab_OkN l yX9_need (Cond.code yX9_need cX9_need 1 none) 6 s_X9_need) {s_X3_copyFrom : ab_S} (ok_X3_copyFrom : ab_OkN l yX3_copyFrom (Cond.code yX3_copyFrom cX3_copyFrom 2 none) 4 s_X3_copyFrom) {s_X3_tryWatches : ab_S} (ok_X3_tryWatches : ab_OkN l yX3_tryWatches (Cond.code yX3_tryWatches cX3_tryWatches 4 (some .boolean)) 5 s_X3_tryWatches) {s_X7_sondesOfAll : ab_S} (ok_X7_sondesOfAll : ab_OkN l yX7_sondesOfAll (Cond.code yX7_sondesOfAll cX7_sondesOfAll 3 (some .int)) 3 s_X7_sondesOfAll) {x_X9_need : ab_SX} (okx_X9_need : ab_OkX l yX9_need (Cond.code yX9_need cX9_need 1 none) 6 x_X9_need) (hlen : (ab_xl As).length ≤ 3) (h : ∀ M : Nat → ab_P, (∀ L st σ, bX9_coming_0 w mc s_X9_within s_X9_need s_X3_copyFrom s_X3_tryWatches s_X7_sondesOfAll x_X9_need M Kn Kx L st σ → M 0 L st σ) → (∀ L st σ, bX9_coming_23 w mc s_X9_within s_X9_need s_X3_copyFrom s_X3_tryWatches s_X7_sondesOfAll x_X9_need M Kn Kx L st σ → M 23 L st σ) → (∀ L st σ, bX9_coming_24 w mc s_X9_within s_X9_need s_X3_copyFrom s_X3_tryWatches s_X7_sondesOfAll x_X9_need M Kn Kx L st σ → M 24 L st σ) → M 0 (ab_pd 3 (ab_xl As)) [] σ) : ab_Met l yX9_coming (Cond.code yX9_coming cX9_coming 3 (some .int)) 7 mc w σ As Kn Kx := by
  refine ab_enter (by decide) hl hI hlen (by decide) ?_
  intro p e R s m args below meth c C hno hr
  exact h _ (sd_iload_n C (i := 1) dX9_coming_0 rfl (sd_iconst C (x := nI 1) dX9_coming_1 (by decide +kernel) (sd_bipush C (x := nI 60) dX9_coming_2 (by decide +kernel) (sd_cS C ok_X9_within ⟨by decide, by decide, wd_477, wd_1, by decide +kernel⟩ wd_618 wd_476 dX9_coming_4 (sd_if_eq C dX9_coming_7 (tgt := 23) (by decide) (fun _ _ _ h => h) (sd_iload_n C (i := 2) dX9_coming_10 rfl (sd_iconst C (x := nI 0) dX9_coming_11 (by decide +kernel) (sd_iconst C (x := nI 3) dX9_coming_12 (by decide +kernel) (sd_cS C ok_X9_within ⟨by decide, by decide, wd_477, wd_1, by decide +kernel⟩ wd_618 wd_476 dX9_coming_13 (sd_if_eq C dX9_coming_16 (tgt := 23) (by decide) (fun _ _ _ h => h) (sd_iconst C (x := nI 1) dX9_coming_19 (by decide +kernel) (sd_goto C dX9_coming_20 (tgt := 24) (by decide) (fun _ _ _ h => h)))))))))))))
    (sd_iconst C (x := nI 0) dX9_coming_23 (by decide +kernel) (fun _ _ _ h => h))
    (sd_cSX C hno ok_X9_need okx_X9_need ⟨by decide, by decide, wd_694, wd_1, by decide +kernel⟩ wd_692 wd_693 dX9_coming_24 (sd_aload_n C (i := 0) dX9_coming_27 rfl (sd_gr C (ci := 9) (k := 3) (r := (RX9, TX9, 7)) rfl (by decide) rfl wd_295 dX9_coming_28 (sd_aload_n C (i := 0) dX9_coming_31 rfl (sd_gr C (ci := 9) (k := 1) (r := (RX9, TX9, 7)) rfl (by decide) rfl wd_293 dX9_coming_32 (sd_cV C ok_X3_copyFrom (ci := 3) (row := (RX3, TX3, 13)) rfl rfl ⟨by decide, by decide, wd_422, wd_3, by decide +kernel⟩ wd_419 wd_420 wd_421 dX9_coming_35 (sd_aload_n C (i := 0) dX9_coming_38 rfl (sd_gr C (ci := 9) (k := 3) (r := (RX9, TX9, 7)) rfl (by decide) rfl wd_295 dX9_coming_39 (sd_iload_n C (i := 1) dX9_coming_42 rfl (sd_bipush C (x := nI 60) dX9_coming_43 (by decide +kernel) (sd_cV C ok_X3_tryWatches (ci := 3) (row := (RX3, TX3, 13)) rfl rfl ⟨by decide, by decide, wd_534, wd_3, by decide +kernel⟩ wd_531 wd_532 wd_533 dX9_coming_45 (sd_pop C dX9_coming_48 (sd_iload_n C (i := 2) dX9_coming_49 rfl (sd_table C (td := 130) dX9_coming_50 3 (by decide +kernel : ([nI 0, nI 1, nI 2] : List Int32) = _) (by decide) (List.forall_mem_cons.mpr ⟨⟨26, 76, (by decide +kernel : ¬ (nI 0 : Int32).toInt < 0), (by decide +kernel : ¬ (2 : Int) < (nI 0 : Int32).toInt), (by decide +kernel : (#[26, 42, 64] : Array Int)[((nI 0 : Int32).toInt - 0).toNat]? = some 26), (by decide), (sd_aload_n C (i := 0) dX9_coming_76 rfl (sd_gr C (ci := 9) (k := 3) (r := (RX9, TX9, 7)) rfl (by decide) rfl wd_295 dX9_coming_77 (sd_gf C (ci := 3) (k := 9) (r := (RX3, TX3, 13)) rfl (by decide) rfl wd_222 dX9_coming_80 (sd_aload_n C (i := 0) dX9_coming_83 rfl (sd_gr C (ci := 9) (k := 1) (r := (RX9, TX9, 7)) rfl (by decide) rfl wd_293 dX9_coming_84 (sd_gf C (ci := 3) (k := 9) (r := (RX3, TX3, 13)) rfl (by decide) rfl wd_222 dX9_coming_87 (sd_isub C dX9_coming_90 (sd_ir C hr dX9_coming_91))))))))⟩, (List.forall_mem_cons.mpr ⟨⟨42, 92, (by decide +kernel : ¬ (nI 1 : Int32).toInt < 0), (by decide +kernel : ¬ (2 : Int) < (nI 1 : Int32).toInt), (by decide +kernel : (#[26, 42, 64] : Array Int)[((nI 1 : Int32).toInt - 0).toNat]? = some 42), (by decide), (sd_aload_n C (i := 0) dX9_coming_92 rfl (sd_gr C (ci := 9) (k := 3) (r := (RX9, TX9, 7)) rfl (by decide) rfl wd_295 dX9_coming_93 (sd_gr C (ci := 3) (k := 4) (r := (RX3, TX3, 13)) rfl (by decide) rfl wd_212 dX9_coming_96 (sd_gf C (ci := 1) (k := 0) (r := (RX1, TX1, 5)) rfl (by decide) rfl wd_187 dX9_coming_99 (sd_aload_n C (i := 0) dX9_coming_102 rfl (sd_gr C (ci := 9) (k := 1) (r := (RX9, TX9, 7)) rfl (by decide) rfl wd_293 dX9_coming_103 (sd_gr C (ci := 3) (k := 4) (r := (RX3, TX3, 13)) rfl (by decide) rfl wd_212 dX9_coming_106 (sd_gf C (ci := 1) (k := 0) (r := (RX1, TX1, 5)) rfl (by decide) rfl wd_187 dX9_coming_109 (sd_isub C dX9_coming_112 (sd_ir C hr dX9_coming_113))))))))))⟩, (List.forall_mem_cons.mpr ⟨⟨64, 114, (by decide +kernel : ¬ (nI 2 : Int32).toInt < 0), (by decide +kernel : ¬ (2 : Int) < (nI 2 : Int32).toInt), (by decide +kernel : (#[26, 42, 64] : Array Int)[((nI 2 : Int32).toInt - 0).toNat]? = some 64), (by decide), (sd_aload_n C (i := 0) dX9_coming_114 rfl (sd_gr C (ci := 9) (k := 3) (r := (RX9, TX9, 7)) rfl (by decide) rfl wd_295 dX9_coming_115 (sd_gf C (ci := 3) (k := 8) (r := (RX3, TX3, 13)) rfl (by decide) rfl wd_220 dX9_coming_118 (sd_aload_n C (i := 0) dX9_coming_121 rfl (sd_gr C (ci := 9) (k := 1) (r := (RX9, TX9, 7)) rfl (by decide) rfl wd_293 dX9_coming_122 (sd_gf C (ci := 3) (k := 8) (r := (RX3, TX3, 13)) rfl (by decide) rfl wd_220 dX9_coming_125 (sd_isub C dX9_coming_128 (sd_ir C hr dX9_coming_129))))))))⟩, (fun _ h => absurd h List.not_mem_nil)⟩)⟩)⟩) (by decide) (sd_aload_n C (i := 0) dX9_coming_130 rfl (sd_gr C (ci := 9) (k := 3) (r := (RX9, TX9, 7)) rfl (by decide) rfl wd_295 dX9_coming_131 (sd_gr C (ci := 3) (k := 0) (r := (RX3, TX3, 13)) rfl (by decide) rfl wd_204 dX9_coming_134 (sd_cV C ok_X7_sondesOfAll (ci := 7) (row := (RX7, TX7, 8)) rfl rfl ⟨by decide, by decide, wd_663, wd_4, by decide +kernel⟩ wd_660 wd_661 wd_662 dX9_coming_137 (sd_ir C hr dX9_coming_140)))))))))))))))))))
theorem dX9_firstGap_0 : decode cX9_firstGap 0 = .ok (.aload_n 0, 1) := by decide +kernel
theorem dX9_firstGap_1 : decode cX9_firstGap 1 = .ok (.getfield 26, 3) := by decide +kernel
theorem dX9_firstGap_4 : decode cX9_firstGap 4 = .ok (.aload_n 0, 1) := by decide +kernel
theorem dX9_firstGap_5 : decode cX9_firstGap 5 = .ok (.getfield 19, 3) := by decide +kernel
theorem dX9_firstGap_8 : decode cX9_firstGap 8 = .ok (.invokevirtual 76, 3) := by decide +kernel
theorem dX9_firstGap_11 : decode cX9_firstGap 11 = .ok (.iconst 0, 1) := by decide +kernel
theorem dX9_firstGap_12 : decode cX9_firstGap 12 = .ok (.istore_n 1, 1) := by decide +kernel
theorem dX9_firstGap_13 : decode cX9_firstGap 13 = .ok (.iload_n 1, 1) := by decide +kernel
theorem dX9_firstGap_14 : decode cX9_firstGap 14 = .ok (.bipush 60, 2) := by decide +kernel
theorem dX9_firstGap_16 : decode cX9_firstGap 16 = .ok (.if_icmp .ge 52, 3) := by decide +kernel
theorem dX9_firstGap_19 : decode cX9_firstGap 19 = .ok (.aload_n 0, 1) := by decide +kernel
theorem dX9_firstGap_20 : decode cX9_firstGap 20 = .ok (.getfield 26, 3) := by decide +kernel
theorem dX9_firstGap_23 : decode cX9_firstGap 23 = .ok (.iconst 1, 1) := by decide +kernel
theorem dX9_firstGap_24 : decode cX9_firstGap 24 = .ok (.iconst 1, 1) := by decide +kernel
theorem dX9_firstGap_25 : decode cX9_firstGap 25 = .ok (.invokevirtual 119, 3) := by decide +kernel
theorem dX9_firstGap_28 : decode cX9_firstGap 28 = .ok (.pop, 1) := by decide +kernel
theorem dX9_firstGap_29 : decode cX9_firstGap 29 = .ok (.aload_n 0, 1) := by decide +kernel
theorem dX9_firstGap_30 : decode cX9_firstGap 30 = .ok (.getfield 26, 3) := by decide +kernel
theorem dX9_firstGap_33 : decode cX9_firstGap 33 = .ok (.getfield 147, 3) := by decide +kernel
theorem dX9_firstGap_36 : decode cX9_firstGap 36 = .ok (.getfield 151, 3) := by decide +kernel
theorem dX9_firstGap_39 : decode cX9_firstGap 39 = .ok (.aload_n 0, 1) := by decide +kernel
theorem dX9_firstGap_40 : decode cX9_firstGap 40 = .ok (.getfield 19, 3) := by decide +kernel
theorem dX9_firstGap_43 : decode cX9_firstGap 43 = .ok (.getfield 147, 3) := by decide +kernel
theorem dX9_firstGap_46 : decode cX9_firstGap 46 = .ok (.getfield 151, 3) := by decide +kernel
theorem dX9_firstGap_49 : decode cX9_firstGap 49 = .ok (.if_icmp .le 13, 3) := by decide +kernel
theorem dX9_firstGap_52 : decode cX9_firstGap 52 = .ok (.aload_n 0, 1) := by decide +kernel
theorem dX9_firstGap_53 : decode cX9_firstGap 53 = .ok (.getfield 19, 3) := by decide +kernel
theorem dX9_firstGap_56 : decode cX9_firstGap 56 = .ok (.getfield 138, 3) := by decide +kernel
theorem dX9_firstGap_59 : decode cX9_firstGap 59 = .ok (.iload_n 1, 1) := by decide +kernel
theorem dX9_firstGap_60 : decode cX9_firstGap 60 = .ok (.iadd, 1) := by decide +kernel
theorem dX9_firstGap_61 : decode cX9_firstGap 61 = .ok (.ireturn, 1) := by decide +kernel
theorem dX9_firstGap_62 : decode cX9_firstGap 62 = .ok (.iinc 1 1, 3) := by decide +kernel
theorem dX9_firstGap_65 : decode cX9_firstGap 65 = .ok (.goto (-52), 3) := by decide +kernel
theorem dX9_firstGap_68 : decode cX9_firstGap 68 = .ok (.iconst (-1), 1) := by decide +kernel
theorem dX9_firstGap_69 : decode cX9_firstGap 69 = .ok (.ireturn, 1) := by decide +kernel
def bX9_firstGap_0 (w : ab_W) (s_X3_copyFrom : ab_S) (s_X3_tryWatches : ab_S) (M : Nat → ab_P) (Kn : Option Value → ab_H → Prop) : ab_P := ab_ald 0 (ab_gr w 9 120 (ab_ald 0 (ab_gr w 9 40 (ab_cV w 2 3 s_X3_copyFrom (ab_ci (nI 0) (ab_ist 1 (M 13)))))))
def bX9_firstGap_13 (w : ab_W) (s_X3_copyFrom : ab_S) (s_X3_tryWatches : ab_S) (M : Nat → ab_P) (Kn : Option Value → ab_H → Prop) : ab_P := ab_ild 1 (ab_ci (nI 60) (ab_if2 (fun x y => y ≤ x) (ab_ci (-1) (ab_ir Kn)) (ab_ald 0 (ab_gr w 9 120 (ab_ci (nI 1) (ab_ci (nI 1) (ab_cV w 3 3 s_X3_tryWatches (ab_pop (ab_ald 0 (ab_gr w 9 120 (ab_gr w 3 23 (ab_gf w 1 0 (ab_ald 0 (ab_gr w 9 40 (ab_gr w 3 23 (ab_gf w 1 0 (ab_if2 (fun x y => x ≤ y) (ab_inc 1 (nI 1) (M 13)) (ab_ald 0 (ab_gr w 9 40 (ab_gf w 3 7 (ab_ild 1 (ab_b2 (fun x y => x + y) (ab_ir Kn)))))))))))))))))))))))
set_option maxRecDepth 20000 in
set_option maxHeartbeats 2000000 in
theorem vc_X9_firstGap {l : Launch} (hl : l.stackTraces = false) {w : ab_W} (hI : ab_Inj w) {mc : Nat} {σ : ab_H} {As : List Value} {Kn : Option Value → ab_H → Prop} {Kx : String → ab_H → Prop} {s_X3_copyFrom : ab_S} (ok_X3_copyFrom : ab_OkN l yX3_copyFrom (Cond.code yX3_copyFrom cX3_copyFrom 2 none) 4 s_X3_copyFrom) {s_X3_tryWatches : ab_S} (ok_X3_tryWatches : ab_OkN l yX3_tryWatches (Cond.code yX3_tryWatches cX3_tryWatches 4 (some .boolean)) 5 s_X3_tryWatches) (hlen : (ab_xl As).length ≤ 2) (h : ∀ M : Nat → ab_P, (∀ L st σ, bX9_firstGap_0 w s_X3_copyFrom s_X3_tryWatches M Kn L st σ → M 0 L st σ) → (∀ L st σ, bX9_firstGap_13 w s_X3_copyFrom s_X3_tryWatches M Kn L st σ → M 13 L st σ) → M 0 (ab_pd 2 (ab_xl As)) [] σ) : ab_Met l yX9_firstGap (Cond.code yX9_firstGap cX9_firstGap 2 (some .int)) 6 mc w σ As Kn Kx := by
  refine ab_enter (by decide) hl hI hlen (by decide) ?_
  intro p e R s m args below meth c C hno hr
  exact h _ (sd_aload_n C (i := 0) dX9_firstGap_0 rfl (sd_gr C (ci := 9) (k := 3) (r := (RX9, TX9, 7)) rfl (by decide) rfl wd_295 dX9_firstGap_1 (sd_aload_n C (i := 0) dX9_firstGap_4 rfl (sd_gr C (ci := 9) (k := 1) (r := (RX9, TX9, 7)) rfl (by decide) rfl wd_293 dX9_firstGap_5 (sd_cV C ok_X3_copyFrom (ci := 3) (row := (RX3, TX3, 13)) rfl rfl ⟨by decide, by decide, wd_422, wd_3, by decide +kernel⟩ wd_419 wd_420 wd_421 dX9_firstGap_8 (sd_iconst C (x := nI 0) dX9_firstGap_11 (by decide +kernel) (sd_istore_n C (i := 1) dX9_firstGap_12 rfl (by decide) (fun _ _ _ h => h))))))))
    (sd_iload_n C (i := 1) dX9_firstGap_13 rfl (sd_bipush C (x := nI 60) dX9_firstGap_14 (by decide +kernel) (sd_icmp_ge C dX9_firstGap_16 (tgt := 68) (by decide) (sd_iconst C (x := -1) dX9_firstGap_68 (by decide +kernel) (sd_ir C hr dX9_firstGap_69)) (sd_aload_n C (i := 0) dX9_firstGap_19 rfl (sd_gr C (ci := 9) (k := 3) (r := (RX9, TX9, 7)) rfl (by decide) rfl wd_295 dX9_firstGap_20 (sd_iconst C (x := nI 1) dX9_firstGap_23 (by decide +kernel) (sd_iconst C (x := nI 1) dX9_firstGap_24 (by decide +kernel) (sd_cV C ok_X3_tryWatches (ci := 3) (row := (RX3, TX3, 13)) rfl rfl ⟨by decide, by decide, wd_534, wd_3, by decide +kernel⟩ wd_531 wd_532 wd_533 dX9_firstGap_25 (sd_pop C dX9_firstGap_28 (sd_aload_n C (i := 0) dX9_firstGap_29 rfl (sd_gr C (ci := 9) (k := 3) (r := (RX9, TX9, 7)) rfl (by decide) rfl wd_295 dX9_firstGap_30 (sd_gr C (ci := 3) (k := 4) (r := (RX3, TX3, 13)) rfl (by decide) rfl wd_212 dX9_firstGap_33 (sd_gf C (ci := 1) (k := 0) (r := (RX1, TX1, 5)) rfl (by decide) rfl wd_187 dX9_firstGap_36 (sd_aload_n C (i := 0) dX9_firstGap_39 rfl (sd_gr C (ci := 9) (k := 1) (r := (RX9, TX9, 7)) rfl (by decide) rfl wd_293 dX9_firstGap_40 (sd_gr C (ci := 3) (k := 4) (r := (RX3, TX3, 13)) rfl (by decide) rfl wd_212 dX9_firstGap_43 (sd_gf C (ci := 1) (k := 0) (r := (RX1, TX1, 5)) rfl (by decide) rfl wd_187 dX9_firstGap_46 (sd_icmp_le C dX9_firstGap_49 (tgt := 62) (by decide) (sd_iinc C (x := nI 1) dX9_firstGap_62 (by decide +kernel) (by decide) (sd_goto C dX9_firstGap_65 (tgt := 13) (by decide) (fun _ _ _ h => h))) (sd_aload_n C (i := 0) dX9_firstGap_52 rfl (sd_gr C (ci := 9) (k := 1) (r := (RX9, TX9, 7)) rfl (by decide) rfl wd_293 dX9_firstGap_53 (sd_gf C (ci := 3) (k := 7) (r := (RX3, TX3, 13)) rfl (by decide) rfl wd_218 dX9_firstGap_56 (sd_iload_n C (i := 1) dX9_firstGap_59 rfl (sd_iadd C dX9_firstGap_60 (sd_ir C hr dX9_firstGap_61))))))))))))))))))))))))
theorem dX9_lacks_0 : decode cX9_lacks 0 = .ok (.aload_n 0, 1) := by decide +kernel
theorem dX9_lacks_1 : decode cX9_lacks 1 = .ok (.iload_n 1, 1) := by decide +kernel
theorem dX9_lacks_2 : decode cX9_lacks 2 = .ok (.invokevirtual 182, 3) := by decide +kernel
theorem dX9_lacks_5 : decode cX9_lacks 5 = .ok (.iload_n 2, 1) := by decide +kernel
theorem dX9_lacks_6 : decode cX9_lacks 6 = .ok (.iconst 1, 1) := by decide +kernel
theorem dX9_lacks_7 : decode cX9_lacks 7 = .ok (.bipush 60, 2) := by decide +kernel
theorem dX9_lacks_9 : decode cX9_lacks 9 = .ok (.invokestatic 46, 3) := by decide +kernel
theorem dX9_lacks_12 : decode cX9_lacks 12 = .ok (.invokestatic 217, 3) := by decide +kernel
theorem dX9_lacks_15 : decode cX9_lacks 15 = .ok (.sipush 300, 3) := by decide +kernel
theorem dX9_lacks_18 : decode cX9_lacks 18 = .ok (.istore_n 3, 1) := by decide +kernel
theorem dX9_lacks_19 : decode cX9_lacks 19 = .ok (.iconst 0, 1) := by decide +kernel
theorem dX9_lacks_20 : decode cX9_lacks 20 = .ok (.istore 4, 2) := by decide +kernel
theorem dX9_lacks_22 : decode cX9_lacks 22 = .ok (.aload_n 0, 1) := by decide +kernel
theorem dX9_lacks_23 : decode cX9_lacks 23 = .ok (.getfield 26, 3) := by decide +kernel
theorem dX9_lacks_26 : decode cX9_lacks 26 = .ok (.aload_n 0, 1) := by decide +kernel
theorem dX9_lacks_27 : decode cX9_lacks 27 = .ok (.getfield 19, 3) := by decide +kernel
theorem dX9_lacks_30 : decode cX9_lacks 30 = .ok (.invokevirtual 76, 3) := by decide +kernel
theorem dX9_lacks_33 : decode cX9_lacks 33 = .ok (.aload_n 0, 1) := by decide +kernel
theorem dX9_lacks_34 : decode cX9_lacks 34 = .ok (.getfield 26, 3) := by decide +kernel
theorem dX9_lacks_37 : decode cX9_lacks 37 = .ok (.getfield 122, 3) := by decide +kernel
theorem dX9_lacks_40 : decode cX9_lacks 40 = .ok (.iload_n 1, 1) := by decide +kernel
theorem dX9_lacks_41 : decode cX9_lacks 41 = .ok (.iload_n 3, 1) := by decide +kernel
theorem dX9_lacks_42 : decode cX9_lacks 42 = .ok (.iconst 0, 1) := by decide +kernel
theorem dX9_lacks_43 : decode cX9_lacks 43 = .ok (.invokevirtual 318, 3) := by decide +kernel
theorem dX9_lacks_46 : decode cX9_lacks 46 = .ok (.iconst 0, 1) := by decide +kernel
theorem dX9_lacks_47 : decode cX9_lacks 47 = .ok (.istore 5, 2) := by decide +kernel
theorem dX9_lacks_49 : decode cX9_lacks 49 = .ok (.iload 5, 2) := by decide +kernel
theorem dX9_lacks_51 : decode cX9_lacks 51 = .ok (.iload_n 2, 1) := by decide +kernel
theorem dX9_lacks_52 : decode cX9_lacks 52 = .ok (.if_icmp .ge 72, 3) := by decide +kernel
theorem dX9_lacks_55 : decode cX9_lacks 55 = .ok (.aload_n 0, 1) := by decide +kernel
theorem dX9_lacks_56 : decode cX9_lacks 56 = .ok (.getfield 26, 3) := by decide +kernel
theorem dX9_lacks_59 : decode cX9_lacks 59 = .ok (.invokevirtual 211, 3) := by decide +kernel
theorem dX9_lacks_62 : decode cX9_lacks 62 = .ok (.aload_n 0, 1) := by decide +kernel
theorem dX9_lacks_63 : decode cX9_lacks 63 = .ok (.getfield 26, 3) := by decide +kernel
theorem dX9_lacks_66 : decode cX9_lacks 66 = .ok (.iload_n 1, 1) := by decide +kernel
theorem dX9_lacks_67 : decode cX9_lacks 67 = .ok (.invokevirtual 214, 3) := by decide +kernel
theorem dX9_lacks_70 : decode cX9_lacks 70 = .ok (.ifCond .eq 41, 3) := by decide +kernel
theorem dX9_lacks_73 : decode cX9_lacks 73 = .ok (.aload_n 0, 1) := by decide +kernel
theorem dX9_lacks_74 : decode cX9_lacks 74 = .ok (.getfield 26, 3) := by decide +kernel
theorem dX9_lacks_77 : decode cX9_lacks 77 = .ok (.getfield 122, 3) := by decide +kernel
theorem dX9_lacks_80 : decode cX9_lacks 80 = .ok (.getfield 195, 3) := by decide +kernel
theorem dX9_lacks_83 : decode cX9_lacks 83 = .ok (.iload_n 1, 1) := by decide +kernel
theorem dX9_lacks_84 : decode cX9_lacks 84 = .ok (.iaload, 1) := by decide +kernel
theorem dX9_lacks_85 : decode cX9_lacks 85 = .ok (.iload_n 3, 1) := by decide +kernel
theorem dX9_lacks_86 : decode cX9_lacks 86 = .ok (.isub, 1) := by decide +kernel
theorem dX9_lacks_87 : decode cX9_lacks 87 = .ok (.istore 6, 2) := by decide +kernel
theorem dX9_lacks_89 : decode cX9_lacks 89 = .ok (.iload 4, 2) := by decide +kernel
theorem dX9_lacks_91 : decode cX9_lacks 91 = .ok (.aload_n 0, 1) := by decide +kernel
theorem dX9_lacks_92 : decode cX9_lacks 92 = .ok (.getfield 26, 3) := by decide +kernel
theorem dX9_lacks_95 : decode cX9_lacks 95 = .ok (.getfield 122, 3) := by decide +kernel
theorem dX9_lacks_98 : decode cX9_lacks 98 = .ok (.getfield 192, 3) := by decide +kernel
theorem dX9_lacks_101 : decode cX9_lacks 101 = .ok (.iload_n 1, 1) := by decide +kernel
theorem dX9_lacks_102 : decode cX9_lacks 102 = .ok (.iaload, 1) := by decide +kernel
theorem dX9_lacks_103 : decode cX9_lacks 103 = .ok (.iload 6, 2) := by decide +kernel
theorem dX9_lacks_105 : decode cX9_lacks 105 = .ok (.isub, 1) := by decide +kernel
theorem dX9_lacks_106 : decode cX9_lacks 106 = .ok (.invokestatic 322, 3) := by decide +kernel
theorem dX9_lacks_109 : decode cX9_lacks 109 = .ok (.istore 4, 2) := by decide +kernel
theorem dX9_lacks_111 : decode cX9_lacks 111 = .ok (.aload_n 0, 1) := by decide +kernel
theorem dX9_lacks_112 : decode cX9_lacks 112 = .ok (.getfield 26, 3) := by decide +kernel
theorem dX9_lacks_115 : decode cX9_lacks 115 = .ok (.invokevirtual 327, 3) := by decide +kernel
theorem dX9_lacks_118 : decode cX9_lacks 118 = .ok (.iinc 5 1, 3) := by decide +kernel
theorem dX9_lacks_121 : decode cX9_lacks 121 = .ok (.goto (-72), 3) := by decide +kernel
theorem dX9_lacks_124 : decode cX9_lacks 124 = .ok (.iload 4, 2) := by decide +kernel
theorem dX9_lacks_126 : decode cX9_lacks 126 = .ok (.ireturn, 1) := by decide +kernel
def bX9_lacks_0 (w : ab_W) (mc : Nat) (s_X9_needStation : ab_S) (s_X9_within : ab_S) (s_X9_need : ab_S) (s_X3_copyFrom : ab_S) (s_X7_receive : ab_S) (s_X3_takeWhatArrives : ab_S) (s_X3_planOf : ab_S) (s_X3_releaseAndEndWatch : ab_S) (x_X9_needStation : ab_SX) (x_X9_need : ab_SX) (M : Nat → ab_P) (Kn : Option Value → ab_H → Prop) (Kx : String → ab_H → Prop) : ab_P := ab_ald 0 (ab_ild 1 (ab_cVX w mc 2 9 s_X9_needStation x_X9_needStation Kx (ab_ild 2 (ab_ci (nI 1) (ab_ci (nI 60) (ab_cN w 3 s_X9_within (ab_cSX w mc 1 s_X9_need x_X9_need Kx (ab_ci (nI 300) (ab_ist 3 (ab_ci (nI 0) (ab_ist 4 (ab_ald 0 (ab_gr w 9 120 (ab_ald 0 (ab_gr w 9 40 (ab_cV w 2 3 s_X3_copyFrom (ab_ald 0 (ab_gr w 9 120 (ab_gr w 3 1 (ab_ild 1 (ab_ild 3 (ab_ci (nI 0) (ab_cV w 4 7 s_X7_receive (ab_ci (nI 0) (ab_ist 5 (M 49))))))))))))))))))))))))))
def bX9_lacks_49 (w : ab_W) (mc : Nat) (s_X9_needStation : ab_S) (s_X9_within : ab_S) (s_X9_need : ab_S) (s_X3_copyFrom : ab_S) (s_X7_receive : ab_S) (s_X3_takeWhatArrives : ab_S) (s_X3_planOf : ab_S) (s_X3_releaseAndEndWatch : ab_S) (x_X9_needStation : ab_SX) (x_X9_need : ab_SX) (M : Nat → ab_P) (Kn : Option Value → ab_H → Prop) (Kx : String → ab_H → Prop) : ab_P := ab_ild 5 (ab_ild 2 (ab_if2 (fun x y => y ≤ x) (ab_ild 4 (ab_ir Kn)) (ab_ald 0 (ab_gr w 9 120 (ab_cV w 1 3 s_X3_takeWhatArrives (ab_ald 0 (ab_gr w 9 120 (ab_ild 1 (ab_cV w 2 3 s_X3_planOf (ab_if1 (fun x => x = 0) (M 111) (ab_ald 0 (ab_gr w 9 120 (ab_gr w 3 1 (ab_gr w 7 4 (ab_ild 1 (ab_ia w 11 (ab_ild 3 (ab_b2 (fun x y => x - y) (ab_ist 6 (ab_ild 4 (ab_ald 0 (ab_gr w 9 120 (ab_gr w 3 1 (ab_gr w 7 3 (ab_ild 1 (ab_ia w 11 (ab_ild 6 (ab_b2 (fun x y => x - y) (ab_mth2 (fun x y => if x < y then y else x) (ab_ist 4 (M 111)))))))))))))))))))))))))))))))
def bX9_lacks_111 (w : ab_W) (mc : Nat) (s_X9_needStation : ab_S) (s_X9_within : ab_S) (s_X9_need : ab_S) (s_X3_copyFrom : ab_S) (s_X7_receive : ab_S) (s_X3_takeWhatArrives : ab_S) (s_X3_planOf : ab_S) (s_X3_releaseAndEndWatch : ab_S) (x_X9_needStation : ab_SX) (x_X9_need : ab_SX) (M : Nat → ab_P) (Kn : Option Value → ab_H → Prop) (Kx : String → ab_H → Prop) : ab_P := ab_ald 0 (ab_gr w 9 120 (ab_cV w 1 3 s_X3_releaseAndEndWatch (ab_inc 5 (nI 1) (M 49))))
set_option maxRecDepth 20000 in
set_option maxHeartbeats 2000000 in
theorem vc_X9_lacks {l : Launch} (hl : l.stackTraces = false) {w : ab_W} (hI : ab_Inj w) {mc : Nat} {σ : ab_H} {As : List Value} {Kn : Option Value → ab_H → Prop} {Kx : String → ab_H → Prop} {s_X9_needStation : ab_S} (ok_X9_needStation : ab_OkN l yX9_needStation (Cond.code yX9_needStation cX9_needStation 2 none) 6 s_X9_needStation) {s_X9_within : ab_S} (ok_X9_within : ab_OkN l yX9_within (Cond.code yX9_within cX9_within 3 (some .boolean)) 1 s_X9_within) {s_X9_need : ab_S} (ok_X9_need : ab_OkN l yX9_need (Cond.code yX9_need cX9_need 1 none) 6 s_X9_need) {s_X3_copyFrom : ab_S} (ok_X3_copyFrom : ab_OkN l yX3_copyFrom (Cond.code yX3_copyFrom cX3_copyFrom 2 none) 4 s_X3_copyFrom) {s_X7_receive : ab_S} (ok_X7_receive : ab_OkN l yX7_receive (Cond.code yX7_receive cX7_receive 4 none) 2 s_X7_receive) {s_X3_takeWhatArrives : ab_S} (ok_X3_takeWhatArrives : ab_OkN l yX3_takeWhatArrives (Cond.code yX3_takeWhatArrives cX3_takeWhatArrives 2 none) 4 s_X3_takeWhatArrives) {s_X3_planOf : ab_S} (ok_X3_planOf : ab_OkN l yX3_planOf (Cond.code yX3_planOf cX3_planOf 2 (some .int)) 3 s_X3_planOf) {s_X3_releaseAndEndWatch : ab_S} (ok_X3_releaseAndEndWatch : ab_OkN l yX3_releaseAndEndWatch (Cond.code yX3_releaseAndEndWatch cX3_releaseAndEndWatch 3 none) 4 s_X3_releaseAndEndWatch) {x_X9_needStation : ab_SX} (okx_X9_needStation : ab_OkX l yX9_needStation (Cond.code yX9_needStation cX9_needStation 2 none) 6 x_X9_needStation) {x_X9_need : ab_SX} (okx_X9_need : ab_OkX l yX9_need (Cond.code yX9_need cX9_need 1 none) 6 x_X9_need) (hlen : (ab_xl As).length ≤ 7) (h : ∀ M : Nat → ab_P, (∀ L st σ, bX9_lacks_0 w mc s_X9_needStation s_X9_within s_X9_need s_X3_copyFrom s_X7_receive s_X3_takeWhatArrives s_X3_planOf s_X3_releaseAndEndWatch x_X9_needStation x_X9_need M Kn Kx L st σ → M 0 L st σ) → (∀ L st σ, bX9_lacks_49 w mc s_X9_needStation s_X9_within s_X9_need s_X3_copyFrom s_X7_receive s_X3_takeWhatArrives s_X3_planOf s_X3_releaseAndEndWatch x_X9_needStation x_X9_need M Kn Kx L st σ → M 49 L st σ) → (∀ L st σ, bX9_lacks_111 w mc s_X9_needStation s_X9_within s_X9_need s_X3_copyFrom s_X7_receive s_X3_takeWhatArrives s_X3_planOf s_X3_releaseAndEndWatch x_X9_needStation x_X9_need M Kn Kx L st σ → M 111 L st σ) → M 0 (ab_pd 7 (ab_xl As)) [] σ) : ab_Met l yX9_lacks (Cond.code yX9_lacks cX9_lacks 7 (some .int)) 7 mc w σ As Kn Kx := by
  refine ab_enter (by decide) hl hI hlen (by decide) ?_
  intro p e R s m args below meth c C hno hr
  exact h _ (sd_aload_n C (i := 0) dX9_lacks_0 rfl (sd_iload_n C (i := 1) dX9_lacks_1 rfl (sd_cVX C hno ok_X9_needStation okx_X9_needStation (ci := 9) (row := (RX9, TX9, 7)) rfl rfl ⟨by decide, by decide, wd_713, wd_1, by decide +kernel⟩ wd_710 wd_712 ws_10 dX9_lacks_2 (sd_iload_n C (i := 2) dX9_lacks_5 rfl (sd_iconst C (x := nI 1) dX9_lacks_6 (by decide +kernel) (sd_bipush C (x := nI 60) dX9_lacks_7 (by decide +kernel) (sd_cS C ok_X9_within ⟨by decide, by decide, wd_477, wd_1, by decide +kernel⟩ wd_618 wd_476 dX9_lacks_9 (sd_cSX C hno ok_X9_need okx_X9_need ⟨by decide, by decide, wd_694, wd_1, by decide +kernel⟩ wd_692 wd_693 dX9_lacks_12 (sd_sipush C (x := nI 300) dX9_lacks_15 (by decide +kernel) (sd_istore_n C (i := 3) dX9_lacks_18 rfl (by decide) (sd_iconst C (x := nI 0) dX9_lacks_19 (by decide +kernel) (sd_istore C dX9_lacks_20 (by decide) (sd_aload_n C (i := 0) dX9_lacks_22 rfl (sd_gr C (ci := 9) (k := 3) (r := (RX9, TX9, 7)) rfl (by decide) rfl wd_295 dX9_lacks_23 (sd_aload_n C (i := 0) dX9_lacks_26 rfl (sd_gr C (ci := 9) (k := 1) (r := (RX9, TX9, 7)) rfl (by decide) rfl wd_293 dX9_lacks_27 (sd_cV C ok_X3_copyFrom (ci := 3) (row := (RX3, TX3, 13)) rfl rfl ⟨by decide, by decide, wd_422, wd_3, by decide +kernel⟩ wd_419 wd_420 wd_421 dX9_lacks_30 (sd_aload_n C (i := 0) dX9_lacks_33 rfl (sd_gr C (ci := 9) (k := 3) (r := (RX9, TX9, 7)) rfl (by decide) rfl wd_295 dX9_lacks_34 (sd_gr C (ci := 3) (k := 0) (r := (RX3, TX3, 13)) rfl (by decide) rfl wd_204 dX9_lacks_37 (sd_iload_n C (i := 1) dX9_lacks_40 rfl (sd_iload_n C (i := 3) dX9_lacks_41 rfl (sd_iconst C (x := nI 0) dX9_lacks_42 (by decide +kernel) (sd_cV C ok_X7_receive (ci := 7) (row := (RX7, TX7, 8)) rfl rfl ⟨by decide, by decide, wd_485, wd_4, by decide +kernel⟩ wd_910 wd_483 wd_484 dX9_lacks_43 (sd_iconst C (x := nI 0) dX9_lacks_46 (by decide +kernel) (sd_istore C dX9_lacks_47 (by decide) (fun _ _ _ h => h)))))))))))))))))))))))))))
    (sd_iload C dX9_lacks_49 (sd_iload_n C (i := 2) dX9_lacks_51 rfl (sd_icmp_ge C dX9_lacks_52 (tgt := 124) (by decide) (sd_iload C dX9_lacks_124 (sd_ir C hr dX9_lacks_126)) (sd_aload_n C (i := 0) dX9_lacks_55 rfl (sd_gr C (ci := 9) (k := 3) (r := (RX9, TX9, 7)) rfl (by decide) rfl wd_295 dX9_lacks_56 (sd_cV C ok_X3_takeWhatArrives (ci := 3) (row := (RX3, TX3, 13)) rfl rfl ⟨by decide, by decide, wd_538, wd_3, by decide +kernel⟩ wd_721 wd_536 wd_537 dX9_lacks_59 (sd_aload_n C (i := 0) dX9_lacks_62 rfl (sd_gr C (ci := 9) (k := 3) (r := (RX9, TX9, 7)) rfl (by decide) rfl wd_295 dX9_lacks_63 (sd_iload_n C (i := 1) dX9_lacks_66 rfl (sd_cV C ok_X3_planOf (ci := 3) (row := (RX3, TX3, 13)) rfl rfl ⟨by decide, by decide, wd_564, wd_3, by decide +kernel⟩ wd_722 wd_562 wd_563 dX9_lacks_67 (sd_if_eq C dX9_lacks_70 (tgt := 111) (by decide) (fun _ _ _ h => h) (sd_aload_n C (i := 0) dX9_lacks_73 rfl (sd_gr C (ci := 9) (k := 3) (r := (RX9, TX9, 7)) rfl (by decide) rfl wd_295 dX9_lacks_74 (sd_gr C (ci := 3) (k := 0) (r := (RX3, TX3, 13)) rfl (by decide) rfl wd_204 dX9_lacks_77 (sd_gr C (ci := 7) (k := 4) (r := (RX7, TX7, 8)) rfl (by decide) rfl wd_79 dX9_lacks_80 (sd_iload_n C (i := 1) dX9_lacks_83 rfl (sd_ia C dX9_lacks_84 (sd_iload_n C (i := 3) dX9_lacks_85 rfl (sd_isub C dX9_lacks_86 (sd_istore C dX9_lacks_87 (by decide) (sd_iload C dX9_lacks_89 (sd_aload_n C (i := 0) dX9_lacks_91 rfl (sd_gr C (ci := 9) (k := 3) (r := (RX9, TX9, 7)) rfl (by decide) rfl wd_295 dX9_lacks_92 (sd_gr C (ci := 3) (k := 0) (r := (RX3, TX3, 13)) rfl (by decide) rfl wd_204 dX9_lacks_95 (sd_gr C (ci := 7) (k := 3) (r := (RX7, TX7, 8)) rfl (by decide) rfl wd_76 dX9_lacks_98 (sd_iload_n C (i := 1) dX9_lacks_101 rfl (sd_ia C dX9_lacks_102 (sd_iload C dX9_lacks_103 (sd_isub C dX9_lacks_105 (sd_mmax C wd_911 wd_912 wd_16 wd_913 dX9_lacks_106 (sd_istore C dX9_lacks_109 (by decide) (fun _ _ _ h => h))))))))))))))))))))))))))))))))
    (sd_aload_n C (i := 0) dX9_lacks_111 rfl (sd_gr C (ci := 9) (k := 3) (r := (RX9, TX9, 7)) rfl (by decide) rfl wd_295 dX9_lacks_112 (sd_cV C ok_X3_releaseAndEndWatch (ci := 3) (row := (RX3, TX3, 13)) rfl rfl ⟨by decide, by decide, wd_560, wd_3, by decide +kernel⟩ wd_914 wd_558 wd_559 dX9_lacks_115 (sd_iinc C (x := nI 1) dX9_lacks_118 (by decide +kernel) (by decide) (sd_goto C dX9_lacks_121 (tgt := 49) (by decide) (fun _ _ _ h => h))))))
theorem dX9_ifDelivered_0 : decode cX9_ifDelivered 0 = .ok (.aload_n 0, 1) := by decide +kernel
theorem dX9_ifDelivered_1 : decode cX9_ifDelivered 1 = .ok (.getfield 19, 3) := by decide +kernel
theorem dX9_ifDelivered_4 : decode cX9_ifDelivered 4 = .ok (.iload_n 1, 1) := by decide +kernel
theorem dX9_ifDelivered_5 : decode cX9_ifDelivered 5 = .ok (.iload_n 2, 1) := by decide +kernel
theorem dX9_ifDelivered_6 : decode cX9_ifDelivered 6 = .ok (.iload_n 3, 1) := by decide +kernel
theorem dX9_ifDelivered_7 : decode cX9_ifDelivered 7 = .ok (.invokevirtual 279, 3) := by decide +kernel
theorem dX9_ifDelivered_10 : decode cX9_ifDelivered 10 = .ok (.istore 5, 2) := by decide +kernel
theorem dX9_ifDelivered_12 : decode cX9_ifDelivered 12 = .ok (.iload 5, 2) := by decide +kernel
theorem dX9_ifDelivered_14 : decode cX9_ifDelivered 14 = .ok (.iconst 1, 1) := by decide +kernel
theorem dX9_ifDelivered_15 : decode cX9_ifDelivered 15 = .ok (.if_icmp .eq 17, 3) := by decide +kernel
theorem dX9_ifDelivered_18 : decode cX9_ifDelivered 18 = .ok (.iload 4, 2) := by decide +kernel
theorem dX9_ifDelivered_20 : decode cX9_ifDelivered 20 = .ok (.iconst 1, 1) := by decide +kernel
theorem dX9_ifDelivered_21 : decode cX9_ifDelivered 21 = .ok (.bipush 60, 2) := by decide +kernel
theorem dX9_ifDelivered_23 : decode cX9_ifDelivered 23 = .ok (.invokestatic 46, 3) := by decide +kernel
theorem dX9_ifDelivered_26 : decode cX9_ifDelivered 26 = .ok (.ifCond .ne 6, 3) := by decide +kernel
theorem dX9_ifDelivered_29 : decode cX9_ifDelivered 29 = .ok (.iconst 2, 1) := by decide +kernel
theorem dX9_ifDelivered_30 : decode cX9_ifDelivered 30 = .ok (.istore 5, 2) := by decide +kernel
theorem dX9_ifDelivered_32 : decode cX9_ifDelivered 32 = .ok (.iload 5, 2) := by decide +kernel
theorem dX9_ifDelivered_34 : decode cX9_ifDelivered 34 = .ok (.invokestatic 306, 3) := by decide +kernel
theorem dX9_ifDelivered_37 : decode cX9_ifDelivered 37 = .ok (.aload_n 0, 1) := by decide +kernel
theorem dX9_ifDelivered_38 : decode cX9_ifDelivered 38 = .ok (.getfield 26, 3) := by decide +kernel
theorem dX9_ifDelivered_41 : decode cX9_ifDelivered 41 = .ok (.aload_n 0, 1) := by decide +kernel
theorem dX9_ifDelivered_42 : decode cX9_ifDelivered 42 = .ok (.getfield 19, 3) := by decide +kernel
theorem dX9_ifDelivered_45 : decode cX9_ifDelivered 45 = .ok (.invokevirtual 76, 3) := by decide +kernel
theorem dX9_ifDelivered_48 : decode cX9_ifDelivered 48 = .ok (.aload_n 0, 1) := by decide +kernel
theorem dX9_ifDelivered_49 : decode cX9_ifDelivered 49 = .ok (.getfield 26, 3) := by decide +kernel
theorem dX9_ifDelivered_52 : decode cX9_ifDelivered 52 = .ok (.iload_n 1, 1) := by decide +kernel
theorem dX9_ifDelivered_53 : decode cX9_ifDelivered 53 = .ok (.iload_n 2, 1) := by decide +kernel
theorem dX9_ifDelivered_54 : decode cX9_ifDelivered 54 = .ok (.iload_n 3, 1) := by decide +kernel
theorem dX9_ifDelivered_55 : decode cX9_ifDelivered 55 = .ok (.invokevirtual 116, 3) := by decide +kernel
theorem dX9_ifDelivered_58 : decode cX9_ifDelivered 58 = .ok (.pop, 1) := by decide +kernel
theorem dX9_ifDelivered_59 : decode cX9_ifDelivered 59 = .ok (.aload_n 0, 1) := by decide +kernel
theorem dX9_ifDelivered_60 : decode cX9_ifDelivered 60 = .ok (.getfield 26, 3) := by decide +kernel
theorem dX9_ifDelivered_63 : decode cX9_ifDelivered 63 = .ok (.iload 4, 2) := by decide +kernel
theorem dX9_ifDelivered_65 : decode cX9_ifDelivered 65 = .ok (.bipush 60, 2) := by decide +kernel
theorem dX9_ifDelivered_67 : decode cX9_ifDelivered 67 = .ok (.invokevirtual 119, 3) := by decide +kernel
theorem dX9_ifDelivered_70 : decode cX9_ifDelivered 70 = .ok (.pop, 1) := by decide +kernel
theorem dX9_ifDelivered_71 : decode cX9_ifDelivered 71 = .ok (.aload_n 0, 1) := by decide +kernel
theorem dX9_ifDelivered_72 : decode cX9_ifDelivered 72 = .ok (.getfield 26, 3) := by decide +kernel
theorem dX9_ifDelivered_75 : decode cX9_ifDelivered 75 = .ok (.getfield 147, 3) := by decide +kernel
theorem dX9_ifDelivered_78 : decode cX9_ifDelivered 78 = .ok (.getfield 151, 3) := by decide +kernel
theorem dX9_ifDelivered_81 : decode cX9_ifDelivered 81 = .ok (.aload_n 0, 1) := by decide +kernel
theorem dX9_ifDelivered_82 : decode cX9_ifDelivered 82 = .ok (.getfield 19, 3) := by decide +kernel
theorem dX9_ifDelivered_85 : decode cX9_ifDelivered 85 = .ok (.getfield 147, 3) := by decide +kernel
theorem dX9_ifDelivered_88 : decode cX9_ifDelivered 88 = .ok (.getfield 151, 3) := by decide +kernel
theorem dX9_ifDelivered_91 : decode cX9_ifDelivered 91 = .ok (.isub, 1) := by decide +kernel
theorem dX9_ifDelivered_92 : decode cX9_ifDelivered 92 = .ok (.ireturn, 1) := by decide +kernel
def bX9_ifDelivered_0 (w : ab_W) (mc : Nat) (s_X3_orderRefusal : ab_S) (s_X9_within : ab_S) (s_X9_throwFor : ab_S) (s_X3_copyFrom : ab_S) (s_X3_tryOrder : ab_S) (s_X3_tryWatches : ab_S) (x_X9_throwFor : ab_SX) (M : Nat → ab_P) (Kn : Option Value → ab_H → Prop) (Kx : String → ab_H → Prop) : ab_P := ab_ald 0 (ab_gr w 9 40 (ab_ild 1 (ab_ild 2 (ab_ild 3 (ab_cV w 4 3 s_X3_orderRefusal (ab_ist 5 (ab_ild 5 (ab_ci (nI 1) (ab_if2 (fun x y => x = y) (M 32) (ab_ild 4 (ab_ci (nI 1) (ab_ci (nI 60) (ab_cN w 3 s_X9_within (ab_if1 (fun x => ¬ x = 0) (M 32) (ab_ci (nI 2) (ab_ist 5 (M 32)))))))))))))))))
def bX9_ifDelivered_32 (w : ab_W) (mc : Nat) (s_X3_orderRefusal : ab_S) (s_X9_within : ab_S) (s_X9_throwFor : ab_S) (s_X3_copyFrom : ab_S) (s_X3_tryOrder : ab_S) (s_X3_tryWatches : ab_S) (x_X9_throwFor : ab_SX) (M : Nat → ab_P) (Kn : Option Value → ab_H → Prop) (Kx : String → ab_H → Prop) : ab_P := ab_ild 5 (ab_cSX w mc 1 s_X9_throwFor x_X9_throwFor Kx (ab_ald 0 (ab_gr w 9 120 (ab_ald 0 (ab_gr w 9 40 (ab_cV w 2 3 s_X3_copyFrom (ab_ald 0 (ab_gr w 9 120 (ab_ild 1 (ab_ild 2 (ab_ild 3 (ab_cV w 4 3 s_X3_tryOrder (ab_pop (ab_ald 0 (ab_gr w 9 120 (ab_ild 4 (ab_ci (nI 60) (ab_cV w 3 3 s_X3_tryWatches (ab_pop (ab_ald 0 (ab_gr w 9 120 (ab_gr w 3 23 (ab_gf w 1 0 (ab_ald 0 (ab_gr w 9 40 (ab_gr w 3 23 (ab_gf w 1 0 (ab_b2 (fun x y => x - y) (ab_ir Kn)))))))))))))))))))))))))))))
set_option maxRecDepth 20000 in
set_option maxHeartbeats 2000000 in
theorem vc_X9_ifDelivered {l : Launch} (hl : l.stackTraces = false) {w : ab_W} (hI : ab_Inj w) {mc : Nat} {σ : ab_H} {As : List Value} {Kn : Option Value → ab_H → Prop} {Kx : String → ab_H → Prop} {s_X3_orderRefusal : ab_S} (ok_X3_orderRefusal : ab_OkN l yX3_orderRefusal (Cond.code yX3_orderRefusal cX3_orderRefusal 5 (some .int)) 2 s_X3_orderRefusal) {s_X9_within : ab_S} (ok_X9_within : ab_OkN l yX9_within (Cond.code yX9_within cX9_within 3 (some .boolean)) 1 s_X9_within) {s_X9_throwFor : ab_S} (ok_X9_throwFor : ab_OkN l yX9_throwFor (Cond.code yX9_throwFor cX9_throwFor 1 none) 6 s_X9_throwFor) {s_X3_copyFrom : ab_S} (ok_X3_copyFrom : ab_OkN l yX3_copyFrom (Cond.code yX3_copyFrom cX3_copyFrom 2 none) 4 s_X3_copyFrom) {s_X3_tryOrder : ab_S} (ok_X3_tryOrder : ab_OkN l yX3_tryOrder (Cond.code yX3_tryOrder cX3_tryOrder 4 (some .boolean)) 3 s_X3_tryOrder) {s_X3_tryWatches : ab_S} (ok_X3_tryWatches : ab_OkN l yX3_tryWatches (Cond.code yX3_tryWatches cX3_tryWatches 4 (some .boolean)) 5 s_X3_tryWatches) {x_X9_throwFor : ab_SX} (okx_X9_throwFor : ab_OkX l yX9_throwFor (Cond.code yX9_throwFor cX9_throwFor 1 none) 6 x_X9_throwFor) (hlen : (ab_xl As).length ≤ 6) (h : ∀ M : Nat → ab_P, (∀ L st σ, bX9_ifDelivered_0 w mc s_X3_orderRefusal s_X9_within s_X9_throwFor s_X3_copyFrom s_X3_tryOrder s_X3_tryWatches x_X9_throwFor M Kn Kx L st σ → M 0 L st σ) → (∀ L st σ, bX9_ifDelivered_32 w mc s_X3_orderRefusal s_X9_within s_X9_throwFor s_X3_copyFrom s_X3_tryOrder s_X3_tryWatches x_X9_throwFor M Kn Kx L st σ → M 32 L st σ) → M 0 (ab_pd 6 (ab_xl As)) [] σ) : ab_Met l yX9_ifDelivered (Cond.code yX9_ifDelivered cX9_ifDelivered 6 (some .int)) 7 mc w σ As Kn Kx := by
  refine ab_enter (by decide) hl hI hlen (by decide) ?_
  intro p e R s m args below meth c C hno hr
  exact h _ (sd_aload_n C (i := 0) dX9_ifDelivered_0 rfl (sd_gr C (ci := 9) (k := 1) (r := (RX9, TX9, 7)) rfl (by decide) rfl wd_293 dX9_ifDelivered_1 (sd_iload_n C (i := 1) dX9_ifDelivered_4 rfl (sd_iload_n C (i := 2) dX9_ifDelivered_5 rfl (sd_iload_n C (i := 3) dX9_ifDelivered_6 rfl (sd_cV C ok_X3_orderRefusal (ci := 3) (row := (RX3, TX3, 13)) rfl rfl ⟨by decide, by decide, wd_517, wd_3, by decide +kernel⟩ wd_834 wd_515 wd_516 dX9_ifDelivered_7 (sd_istore C dX9_ifDelivered_10 (by decide) (sd_iload C dX9_ifDelivered_12 (sd_iconst C (x := nI 1) dX9_ifDelivered_14 (by decide +kernel) (sd_icmp_eq C dX9_ifDelivered_15 (tgt := 32) (by decide) (fun _ _ _ h => h) (sd_iload C dX9_ifDelivered_18 (sd_iconst C (x := nI 1) dX9_ifDelivered_20 (by decide +kernel) (sd_bipush C (x := nI 60) dX9_ifDelivered_21 (by decide +kernel) (sd_cS C ok_X9_within ⟨by decide, by decide, wd_477, wd_1, by decide +kernel⟩ wd_618 wd_476 dX9_ifDelivered_23 (sd_if_ne C dX9_ifDelivered_26 (tgt := 32) (by decide) (fun _ _ _ h => h) (sd_iconst C (x := nI 2) dX9_ifDelivered_29 (by decide +kernel) (sd_istore C dX9_ifDelivered_30 (by decide) (fun _ _ _ h => h))))))))))))))))))
    (sd_iload C dX9_ifDelivered_32 (sd_cSX C hno ok_X9_throwFor okx_X9_throwFor ⟨by decide, by decide, wd_788, wd_1, by decide +kernel⟩ wd_786 wd_787 dX9_ifDelivered_34 (sd_aload_n C (i := 0) dX9_ifDelivered_37 rfl (sd_gr C (ci := 9) (k := 3) (r := (RX9, TX9, 7)) rfl (by decide) rfl wd_295 dX9_ifDelivered_38 (sd_aload_n C (i := 0) dX9_ifDelivered_41 rfl (sd_gr C (ci := 9) (k := 1) (r := (RX9, TX9, 7)) rfl (by decide) rfl wd_293 dX9_ifDelivered_42 (sd_cV C ok_X3_copyFrom (ci := 3) (row := (RX3, TX3, 13)) rfl rfl ⟨by decide, by decide, wd_422, wd_3, by decide +kernel⟩ wd_419 wd_420 wd_421 dX9_ifDelivered_45 (sd_aload_n C (i := 0) dX9_ifDelivered_48 rfl (sd_gr C (ci := 9) (k := 3) (r := (RX9, TX9, 7)) rfl (by decide) rfl wd_295 dX9_ifDelivered_49 (sd_iload_n C (i := 1) dX9_ifDelivered_52 rfl (sd_iload_n C (i := 2) dX9_ifDelivered_53 rfl (sd_iload_n C (i := 3) dX9_ifDelivered_54 rfl (sd_cV C ok_X3_tryOrder (ci := 3) (row := (RX3, TX3, 13)) rfl rfl ⟨by decide, by decide, wd_513, wd_3, by decide +kernel⟩ wd_510 wd_511 wd_512 dX9_ifDelivered_55 (sd_pop C dX9_ifDelivered_58 (sd_aload_n C (i := 0) dX9_ifDelivered_59 rfl (sd_gr C (ci := 9) (k := 3) (r := (RX9, TX9, 7)) rfl (by decide) rfl wd_295 dX9_ifDelivered_60 (sd_iload C dX9_ifDelivered_63 (sd_bipush C (x := nI 60) dX9_ifDelivered_65 (by decide +kernel) (sd_cV C ok_X3_tryWatches (ci := 3) (row := (RX3, TX3, 13)) rfl rfl ⟨by decide, by decide, wd_534, wd_3, by decide +kernel⟩ wd_531 wd_532 wd_533 dX9_ifDelivered_67 (sd_pop C dX9_ifDelivered_70 (sd_aload_n C (i := 0) dX9_ifDelivered_71 rfl (sd_gr C (ci := 9) (k := 3) (r := (RX9, TX9, 7)) rfl (by decide) rfl wd_295 dX9_ifDelivered_72 (sd_gr C (ci := 3) (k := 4) (r := (RX3, TX3, 13)) rfl (by decide) rfl wd_212 dX9_ifDelivered_75 (sd_gf C (ci := 1) (k := 0) (r := (RX1, TX1, 5)) rfl (by decide) rfl wd_187 dX9_ifDelivered_78 (sd_aload_n C (i := 0) dX9_ifDelivered_81 rfl (sd_gr C (ci := 9) (k := 1) (r := (RX9, TX9, 7)) rfl (by decide) rfl wd_293 dX9_ifDelivered_82 (sd_gr C (ci := 3) (k := 4) (r := (RX3, TX3, 13)) rfl (by decide) rfl wd_212 dX9_ifDelivered_85 (sd_gf C (ci := 1) (k := 0) (r := (RX1, TX1, 5)) rfl (by decide) rfl wd_187 dX9_ifDelivered_88 (sd_isub C dX9_ifDelivered_91 (sd_ir C hr dX9_ifDelivered_92))))))))))))))))))))))))))))))
theorem dX9_longestScript_0 : decode cX9_longestScript 0 = .ok (.iload_n 0, 1) := by decide +kernel
theorem dX9_longestScript_1 : decode cX9_longestScript 1 = .ok (.lookupswitch 35 #[(1, 27), (2, 31)], 27) := by decide +kernel
theorem dX9_longestScript_28 : decode cX9_longestScript 28 = .ok (.ldc2_w 341, 3) := by decide +kernel
theorem dX9_longestScript_31 : decode cX9_longestScript 31 = .ok (.lreturn, 1) := by decide +kernel
theorem dX9_longestScript_32 : decode cX9_longestScript 32 = .ok (.ldc2_w 343, 3) := by decide +kernel
theorem dX9_longestScript_35 : decode cX9_longestScript 35 = .ok (.lreturn, 1) := by decide +kernel
theorem dX9_longestScript_36 : decode cX9_longestScript 36 = .ok (.ldc2_w 345, 3) := by decide +kernel
theorem dX9_longestScript_39 : decode cX9_longestScript 39 = .ok (.lreturn, 1) := by decide +kernel
def bX9_longestScript_0 (w : ab_W) (M : Nat → ab_P) (Kn : Option Value → ab_H → Prop) : ab_P := ab_ild 0 (ab_sw [(nI 1, ab_cl (99999) (ab_lr Kn)), (nI 2, ab_cl (9999999999) (ab_lr Kn))] (ab_cl (999999999999999) (ab_lr Kn)))
set_option maxRecDepth 20000 in
set_option maxHeartbeats 2000000 in
theorem vc_X9_longestScript {l : Launch} (hl : l.stackTraces = false) {w : ab_W} (hI : ab_Inj w) {mc : Nat} {σ : ab_H} {As : List Value} {Kn : Option Value → ab_H → Prop} {Kx : String → ab_H → Prop} (hlen : (ab_xl As).length ≤ 1) (h : ∀ M : Nat → ab_P, (∀ L st σ, bX9_longestScript_0 w M Kn L st σ → M 0 L st σ) → M 0 (ab_pd 1 (ab_xl As)) [] σ) : ab_Met l yX9_longestScript (Cond.code yX9_longestScript cX9_longestScript 1 (some .long)) 1 mc w σ As Kn Kx := by
  refine ab_enter (by decide) hl hI hlen (by decide) ?_
  intro p e R s m args below meth c C hno hr
  exact h _ (sd_iload_n C (i := 0) dX9_longestScript_0 rfl (sd_lookup C (td := 36) dX9_longestScript_1 (by decide +kernel) (by decide +kernel : _ = ([nI 1, nI 2] : List Int32).map (fun q => q.toInt)) (List.forall_mem_cons.mpr ⟨⟨27, 28, (by decide +kernel : Op.lookupswitch.offset (#[(1, 27), (2, 31)] : Array (Int × Int)).toList 35 (nI 1 : Int32).toInt = 27), (by decide), (sd_ldc2 C (x := 99999) dX9_longestScript_28 wd_933 (sd_lr C hr dX9_longestScript_31))⟩, (List.forall_mem_cons.mpr ⟨⟨31, 32, (by decide +kernel : Op.lookupswitch.offset (#[(1, 27), (2, 31)] : Array (Int × Int)).toList 35 (nI 2 : Int32).toInt = 31), (by decide), (sd_ldc2 C (x := 9999999999) dX9_longestScript_32 wd_934 (sd_lr C hr dX9_longestScript_35))⟩, (fun _ h => absurd h List.not_mem_nil)⟩)⟩) (by decide) (sd_ldc2 C (x := 999999999999999) dX9_longestScript_36 wd_935 (sd_lr C hr dX9_longestScript_39))))
theorem dX9_scriptGroup_0 : decode cX9_scriptGroup 0 = .ok (.iload_n 2, 1) := by decide +kernel
theorem dX9_scriptGroup_1 : decode cX9_scriptGroup 1 = .ok (.lookupswitch 45 #[(0, 27), (1, 34)], 27) := by decide +kernel
theorem dX9_scriptGroup_28 : decode cX9_scriptGroup 28 = .ok (.lload_n 0, 1) := by decide +kernel
theorem dX9_scriptGroup_29 : decode cX9_scriptGroup 29 = .ok (.ldc2_w 347, 3) := by decide +kernel
theorem dX9_scriptGroup_32 : decode cX9_scriptGroup 32 = .ok (.lrem, 1) := by decide +kernel
theorem dX9_scriptGroup_33 : decode cX9_scriptGroup 33 = .ok (.l2i, 1) := by decide +kernel
theorem dX9_scriptGroup_34 : decode cX9_scriptGroup 34 = .ok (.ireturn, 1) := by decide +kernel
theorem dX9_scriptGroup_35 : decode cX9_scriptGroup 35 = .ok (.lload_n 0, 1) := by decide +kernel
theorem dX9_scriptGroup_36 : decode cX9_scriptGroup 36 = .ok (.ldc2_w 347, 3) := by decide +kernel
theorem dX9_scriptGroup_39 : decode cX9_scriptGroup 39 = .ok (.ldiv, 1) := by decide +kernel
theorem dX9_scriptGroup_40 : decode cX9_scriptGroup 40 = .ok (.ldc2_w 347, 3) := by decide +kernel
theorem dX9_scriptGroup_43 : decode cX9_scriptGroup 43 = .ok (.lrem, 1) := by decide +kernel
theorem dX9_scriptGroup_44 : decode cX9_scriptGroup 44 = .ok (.l2i, 1) := by decide +kernel
theorem dX9_scriptGroup_45 : decode cX9_scriptGroup 45 = .ok (.ireturn, 1) := by decide +kernel
theorem dX9_scriptGroup_46 : decode cX9_scriptGroup 46 = .ok (.lload_n 0, 1) := by decide +kernel
theorem dX9_scriptGroup_47 : decode cX9_scriptGroup 47 = .ok (.ldc2_w 349, 3) := by decide +kernel
theorem dX9_scriptGroup_50 : decode cX9_scriptGroup 50 = .ok (.ldiv, 1) := by decide +kernel
theorem dX9_scriptGroup_51 : decode cX9_scriptGroup 51 = .ok (.ldc2_w 347, 3) := by decide +kernel
theorem dX9_scriptGroup_54 : decode cX9_scriptGroup 54 = .ok (.lrem, 1) := by decide +kernel
theorem dX9_scriptGroup_55 : decode cX9_scriptGroup 55 = .ok (.l2i, 1) := by decide +kernel
theorem dX9_scriptGroup_56 : decode cX9_scriptGroup 56 = .ok (.ireturn, 1) := by decide +kernel
def bX9_scriptGroup_0 (w : ab_W) (M : Nat → ab_P) (Kn : Option Value → ab_H → Prop) : ab_P := ab_ild 2 (ab_sw [(nI 0, ab_lld 0 (ab_cl (100000) (ab_ld2 (fun x y => x - x / y * y) (ab_l2i (ab_ir Kn))))), (nI 1, ab_lld 0 (ab_cl (100000) (ab_ld2 (fun x y => x / y) (ab_cl (100000) (ab_ld2 (fun x y => x - x / y * y) (ab_l2i (ab_ir Kn)))))))] (ab_lld 0 (ab_cl (10000000000) (ab_ld2 (fun x y => x / y) (ab_cl (100000) (ab_ld2 (fun x y => x - x / y * y) (ab_l2i (ab_ir Kn))))))))
set_option maxRecDepth 20000 in
set_option maxHeartbeats 2000000 in
theorem vc_X9_scriptGroup {l : Launch} (hl : l.stackTraces = false) {w : ab_W} (hI : ab_Inj w) {mc : Nat} {σ : ab_H} {As : List Value} {Kn : Option Value → ab_H → Prop} {Kx : String → ab_H → Prop} (hlen : (ab_xl As).length ≤ 3) (h : ∀ M : Nat → ab_P, (∀ L st σ, bX9_scriptGroup_0 w M Kn L st σ → M 0 L st σ) → M 0 (ab_pd 3 (ab_xl As)) [] σ) : ab_Met l yX9_scriptGroup (Cond.code yX9_scriptGroup cX9_scriptGroup 3 (some .int)) 1 mc w σ As Kn Kx := by
  refine ab_enter (by decide) hl hI hlen (by decide) ?_
  intro p e R s m args below meth c C hno hr
  exact h _ (sd_iload_n C (i := 2) dX9_scriptGroup_0 rfl (sd_lookup C (td := 46) dX9_scriptGroup_1 (by decide +kernel) (by decide +kernel : _ = ([nI 0, nI 1] : List Int32).map (fun q => q.toInt)) (List.forall_mem_cons.mpr ⟨⟨27, 28, (by decide +kernel : Op.lookupswitch.offset (#[(0, 27), (1, 34)] : Array (Int × Int)).toList 45 (nI 0 : Int32).toInt = 27), (by decide), (sd_lload_n C (i := 0) dX9_scriptGroup_28 rfl (sd_ldc2 C (x := 100000) dX9_scriptGroup_29 wd_939 (sd_lrem C dX9_scriptGroup_32 (sd_l2i C dX9_scriptGroup_33 (sd_ir C hr dX9_scriptGroup_34)))))⟩, (List.forall_mem_cons.mpr ⟨⟨34, 35, (by decide +kernel : Op.lookupswitch.offset (#[(0, 27), (1, 34)] : Array (Int × Int)).toList 45 (nI 1 : Int32).toInt = 34), (by decide), (sd_lload_n C (i := 0) dX9_scriptGroup_35 rfl (sd_ldc2 C (x := 100000) dX9_scriptGroup_36 wd_939 (sd_ldiv C dX9_scriptGroup_39 (sd_ldc2 C (x := 100000) dX9_scriptGroup_40 wd_939 (sd_lrem C dX9_scriptGroup_43 (sd_l2i C dX9_scriptGroup_44 (sd_ir C hr dX9_scriptGroup_45)))))))⟩, (fun _ h => absurd h List.not_mem_nil)⟩)⟩) (by decide) (sd_lload_n C (i := 0) dX9_scriptGroup_46 rfl (sd_ldc2 C (x := 10000000000) dX9_scriptGroup_47 wd_940 (sd_ldiv C dX9_scriptGroup_50 (sd_ldc2 C (x := 100000) dX9_scriptGroup_51 wd_939 (sd_lrem C dX9_scriptGroup_54 (sd_l2i C dX9_scriptGroup_55 (sd_ir C hr dX9_scriptGroup_56)))))))))
theorem dX9_doScriptCommand_0 : decode cX9_doScriptCommand 0 = .ok (.iload_n 1, 1) := by decide +kernel
theorem dX9_doScriptCommand_1 : decode cX9_doScriptCommand 1 = .ok (.sipush 1000, 3) := by decide +kernel
theorem dX9_doScriptCommand_4 : decode cX9_doScriptCommand 4 = .ok (.idiv, 1) := by decide +kernel
theorem dX9_doScriptCommand_5 : decode cX9_doScriptCommand 5 = .ok (.bipush 10, 2) := by decide +kernel
theorem dX9_doScriptCommand_7 : decode cX9_doScriptCommand 7 = .ok (.irem, 1) := by decide +kernel
theorem dX9_doScriptCommand_8 : decode cX9_doScriptCommand 8 = .ok (.istore_n 2, 1) := by decide +kernel
theorem dX9_doScriptCommand_9 : decode cX9_doScriptCommand 9 = .ok (.iload_n 1, 1) := by decide +kernel
theorem dX9_doScriptCommand_10 : decode cX9_doScriptCommand 10 = .ok (.bipush 10, 2) := by decide +kernel
theorem dX9_doScriptCommand_12 : decode cX9_doScriptCommand 12 = .ok (.idiv, 1) := by decide +kernel
theorem dX9_doScriptCommand_13 : decode cX9_doScriptCommand 13 = .ok (.bipush 100, 2) := by decide +kernel
theorem dX9_doScriptCommand_15 : decode cX9_doScriptCommand 15 = .ok (.irem, 1) := by decide +kernel
theorem dX9_doScriptCommand_16 : decode cX9_doScriptCommand 16 = .ok (.istore_n 3, 1) := by decide +kernel
theorem dX9_doScriptCommand_17 : decode cX9_doScriptCommand 17 = .ok (.iload_n 1, 1) := by decide +kernel
theorem dX9_doScriptCommand_18 : decode cX9_doScriptCommand 18 = .ok (.bipush 10, 2) := by decide +kernel
theorem dX9_doScriptCommand_20 : decode cX9_doScriptCommand 20 = .ok (.irem, 1) := by decide +kernel
theorem dX9_doScriptCommand_21 : decode cX9_doScriptCommand 21 = .ok (.istore 4, 2) := by decide +kernel
theorem dX9_doScriptCommand_23 : decode cX9_doScriptCommand 23 = .ok (.iload_n 1, 1) := by decide +kernel
theorem dX9_doScriptCommand_24 : decode cX9_doScriptCommand 24 = .ok (.sipush 10000, 3) := by decide +kernel
theorem dX9_doScriptCommand_27 : decode cX9_doScriptCommand 27 = .ok (.idiv, 1) := by decide +kernel
theorem dX9_doScriptCommand_28 : decode cX9_doScriptCommand 28 = .ok (.tableswitch 300 1 9 #[52, 64, 97, 109, 135, 158, 190, 231, 271], 52) := by decide +kernel
theorem dX9_doScriptCommand_80 : decode cX9_doScriptCommand 80 = .ok (.aload_n 0, 1) := by decide +kernel
theorem dX9_doScriptCommand_81 : decode cX9_doScriptCommand 81 = .ok (.getfield 26, 3) := by decide +kernel
theorem dX9_doScriptCommand_84 : decode cX9_doScriptCommand 84 = .ok (.iload_n 2, 1) := by decide +kernel
theorem dX9_doScriptCommand_85 : decode cX9_doScriptCommand 85 = .ok (.iload_n 3, 1) := by decide +kernel
theorem dX9_doScriptCommand_86 : decode cX9_doScriptCommand 86 = .ok (.iload 4, 2) := by decide +kernel
theorem dX9_doScriptCommand_88 : decode cX9_doScriptCommand 88 = .ok (.invokevirtual 116, 3) := by decide +kernel
theorem dX9_doScriptCommand_91 : decode cX9_doScriptCommand 91 = .ok (.ireturn, 1) := by decide +kernel
theorem dX9_doScriptCommand_92 : decode cX9_doScriptCommand 92 = .ok (.iload_n 3, 1) := by decide +kernel
theorem dX9_doScriptCommand_93 : decode cX9_doScriptCommand 93 = .ok (.bipush 10, 2) := by decide +kernel
theorem dX9_doScriptCommand_95 : decode cX9_doScriptCommand 95 = .ok (.irem, 1) := by decide +kernel
theorem dX9_doScriptCommand_96 : decode cX9_doScriptCommand 96 = .ok (.ifCond .ne 27, 3) := by decide +kernel
theorem dX9_doScriptCommand_99 : decode cX9_doScriptCommand 99 = .ok (.iload 4, 2) := by decide +kernel
theorem dX9_doScriptCommand_101 : decode cX9_doScriptCommand 101 = .ok (.ifCond .ne 22, 3) := by decide +kernel
theorem dX9_doScriptCommand_104 : decode cX9_doScriptCommand 104 = .ok (.aload_n 0, 1) := by decide +kernel
theorem dX9_doScriptCommand_105 : decode cX9_doScriptCommand 105 = .ok (.getfield 26, 3) := by decide +kernel
theorem dX9_doScriptCommand_108 : decode cX9_doScriptCommand 108 = .ok (.iload_n 2, 1) := by decide +kernel
theorem dX9_doScriptCommand_109 : decode cX9_doScriptCommand 109 = .ok (.iload_n 3, 1) := by decide +kernel
theorem dX9_doScriptCommand_110 : decode cX9_doScriptCommand 110 = .ok (.bipush 10, 2) := by decide +kernel
theorem dX9_doScriptCommand_112 : decode cX9_doScriptCommand 112 = .ok (.idiv, 1) := by decide +kernel
theorem dX9_doScriptCommand_113 : decode cX9_doScriptCommand 113 = .ok (.invokevirtual 291, 3) := by decide +kernel
theorem dX9_doScriptCommand_116 : decode cX9_doScriptCommand 116 = .ok (.ifCond .eq 7, 3) := by decide +kernel
theorem dX9_doScriptCommand_119 : decode cX9_doScriptCommand 119 = .ok (.iconst 1, 1) := by decide +kernel
theorem dX9_doScriptCommand_120 : decode cX9_doScriptCommand 120 = .ok (.goto 4, 3) := by decide +kernel
theorem dX9_doScriptCommand_123 : decode cX9_doScriptCommand 123 = .ok (.iconst 0, 1) := by decide +kernel
theorem dX9_doScriptCommand_124 : decode cX9_doScriptCommand 124 = .ok (.ireturn, 1) := by decide +kernel
theorem dX9_doScriptCommand_125 : decode cX9_doScriptCommand 125 = .ok (.aload_n 0, 1) := by decide +kernel
theorem dX9_doScriptCommand_126 : decode cX9_doScriptCommand 126 = .ok (.getfield 26, 3) := by decide +kernel
theorem dX9_doScriptCommand_129 : decode cX9_doScriptCommand 129 = .ok (.iload_n 2, 1) := by decide +kernel
theorem dX9_doScriptCommand_130 : decode cX9_doScriptCommand 130 = .ok (.iload_n 3, 1) := by decide +kernel
theorem dX9_doScriptCommand_131 : decode cX9_doScriptCommand 131 = .ok (.iload 4, 2) := by decide +kernel
theorem dX9_doScriptCommand_133 : decode cX9_doScriptCommand 133 = .ok (.invokevirtual 276, 3) := by decide +kernel
theorem dX9_doScriptCommand_136 : decode cX9_doScriptCommand 136 = .ok (.ireturn, 1) := by decide +kernel
theorem dX9_doScriptCommand_137 : decode cX9_doScriptCommand 137 = .ok (.iload 4, 2) := by decide +kernel
theorem dX9_doScriptCommand_139 : decode cX9_doScriptCommand 139 = .ok (.ifCond .ne 22, 3) := by decide +kernel
theorem dX9_doScriptCommand_142 : decode cX9_doScriptCommand 142 = .ok (.aload_n 0, 1) := by decide +kernel
theorem dX9_doScriptCommand_143 : decode cX9_doScriptCommand 143 = .ok (.getfield 26, 3) := by decide +kernel
theorem dX9_doScriptCommand_146 : decode cX9_doScriptCommand 146 = .ok (.iload_n 2, 1) := by decide +kernel
theorem dX9_doScriptCommand_147 : decode cX9_doScriptCommand 147 = .ok (.iload_n 3, 1) := by decide +kernel
theorem dX9_doScriptCommand_148 : decode cX9_doScriptCommand 148 = .ok (.bipush 20, 2) := by decide +kernel
theorem dX9_doScriptCommand_150 : decode cX9_doScriptCommand 150 = .ok (.isub, 1) := by decide +kernel
theorem dX9_doScriptCommand_151 : decode cX9_doScriptCommand 151 = .ok (.invokevirtual 112, 3) := by decide +kernel
theorem dX9_doScriptCommand_154 : decode cX9_doScriptCommand 154 = .ok (.ifCond .eq 7, 3) := by decide +kernel
theorem dX9_doScriptCommand_157 : decode cX9_doScriptCommand 157 = .ok (.iconst 1, 1) := by decide +kernel
theorem dX9_doScriptCommand_158 : decode cX9_doScriptCommand 158 = .ok (.goto 4, 3) := by decide +kernel
theorem dX9_doScriptCommand_161 : decode cX9_doScriptCommand 161 = .ok (.iconst 0, 1) := by decide +kernel
theorem dX9_doScriptCommand_162 : decode cX9_doScriptCommand 162 = .ok (.ireturn, 1) := by decide +kernel
theorem dX9_doScriptCommand_163 : decode cX9_doScriptCommand 163 = .ok (.iload 4, 2) := by decide +kernel
theorem dX9_doScriptCommand_165 : decode cX9_doScriptCommand 165 = .ok (.ifCond .ne 19, 3) := by decide +kernel
theorem dX9_doScriptCommand_168 : decode cX9_doScriptCommand 168 = .ok (.aload_n 0, 1) := by decide +kernel
theorem dX9_doScriptCommand_169 : decode cX9_doScriptCommand 169 = .ok (.getfield 26, 3) := by decide +kernel
theorem dX9_doScriptCommand_172 : decode cX9_doScriptCommand 172 = .ok (.iload_n 2, 1) := by decide +kernel
theorem dX9_doScriptCommand_173 : decode cX9_doScriptCommand 173 = .ok (.iload_n 3, 1) := by decide +kernel
theorem dX9_doScriptCommand_174 : decode cX9_doScriptCommand 174 = .ok (.invokevirtual 297, 3) := by decide +kernel
theorem dX9_doScriptCommand_177 : decode cX9_doScriptCommand 177 = .ok (.ifCond .eq 7, 3) := by decide +kernel
theorem dX9_doScriptCommand_180 : decode cX9_doScriptCommand 180 = .ok (.iconst 1, 1) := by decide +kernel
theorem dX9_doScriptCommand_181 : decode cX9_doScriptCommand 181 = .ok (.goto 4, 3) := by decide +kernel
theorem dX9_doScriptCommand_184 : decode cX9_doScriptCommand 184 = .ok (.iconst 0, 1) := by decide +kernel
theorem dX9_doScriptCommand_185 : decode cX9_doScriptCommand 185 = .ok (.ireturn, 1) := by decide +kernel
theorem dX9_doScriptCommand_186 : decode cX9_doScriptCommand 186 = .ok (.iload_n 1, 1) := by decide +kernel
theorem dX9_doScriptCommand_187 : decode cX9_doScriptCommand 187 = .ok (.bipush 100, 2) := by decide +kernel
theorem dX9_doScriptCommand_189 : decode cX9_doScriptCommand 189 = .ok (.idiv, 1) := by decide +kernel
theorem dX9_doScriptCommand_190 : decode cX9_doScriptCommand 190 = .ok (.bipush 100, 2) := by decide +kernel
theorem dX9_doScriptCommand_192 : decode cX9_doScriptCommand 192 = .ok (.irem, 1) := by decide +kernel
theorem dX9_doScriptCommand_193 : decode cX9_doScriptCommand 193 = .ok (.ifCond .ne 23, 3) := by decide +kernel
theorem dX9_doScriptCommand_196 : decode cX9_doScriptCommand 196 = .ok (.aload_n 0, 1) := by decide +kernel
theorem dX9_doScriptCommand_197 : decode cX9_doScriptCommand 197 = .ok (.getfield 26, 3) := by decide +kernel
theorem dX9_doScriptCommand_200 : decode cX9_doScriptCommand 200 = .ok (.iload_n 1, 1) := by decide +kernel
theorem dX9_doScriptCommand_201 : decode cX9_doScriptCommand 201 = .ok (.bipush 100, 2) := by decide +kernel
theorem dX9_doScriptCommand_203 : decode cX9_doScriptCommand 203 = .ok (.irem, 1) := by decide +kernel
theorem dX9_doScriptCommand_204 : decode cX9_doScriptCommand 204 = .ok (.bipush 40, 2) := by decide +kernel
theorem dX9_doScriptCommand_206 : decode cX9_doScriptCommand 206 = .ok (.invokevirtual 119, 3) := by decide +kernel
theorem dX9_doScriptCommand_209 : decode cX9_doScriptCommand 209 = .ok (.ifCond .eq 7, 3) := by decide +kernel
theorem dX9_doScriptCommand_212 : decode cX9_doScriptCommand 212 = .ok (.iconst 1, 1) := by decide +kernel
theorem dX9_doScriptCommand_213 : decode cX9_doScriptCommand 213 = .ok (.goto 4, 3) := by decide +kernel
theorem dX9_doScriptCommand_216 : decode cX9_doScriptCommand 216 = .ok (.iconst 0, 1) := by decide +kernel
theorem dX9_doScriptCommand_217 : decode cX9_doScriptCommand 217 = .ok (.ireturn, 1) := by decide +kernel
theorem dX9_doScriptCommand_218 : decode cX9_doScriptCommand 218 = .ok (.iload 4, 2) := by decide +kernel
theorem dX9_doScriptCommand_220 : decode cX9_doScriptCommand 220 = .ok (.ifCond .ne 37, 3) := by decide +kernel
theorem dX9_doScriptCommand_223 : decode cX9_doScriptCommand 223 = .ok (.aload_n 0, 1) := by decide +kernel
theorem dX9_doScriptCommand_224 : decode cX9_doScriptCommand 224 = .ok (.getfield 26, 3) := by decide +kernel
theorem dX9_doScriptCommand_227 : decode cX9_doScriptCommand 227 = .ok (.getfield 122, 3) := by decide +kernel
theorem dX9_doScriptCommand_230 : decode cX9_doScriptCommand 230 = .ok (.iload_n 2, 1) := by decide +kernel
theorem dX9_doScriptCommand_231 : decode cX9_doScriptCommand 231 = .ok (.invokevirtual 351, 3) := by decide +kernel
theorem dX9_doScriptCommand_234 : decode cX9_doScriptCommand 234 = .ok (.ifCond .eq 23, 3) := by decide +kernel
theorem dX9_doScriptCommand_237 : decode cX9_doScriptCommand 237 = .ok (.aload_n 0, 1) := by decide +kernel
theorem dX9_doScriptCommand_238 : decode cX9_doScriptCommand 238 = .ok (.getfield 26, 3) := by decide +kernel
theorem dX9_doScriptCommand_241 : decode cX9_doScriptCommand 241 = .ok (.getfield 122, 3) := by decide +kernel
theorem dX9_doScriptCommand_244 : decode cX9_doScriptCommand 244 = .ok (.getfield 195, 3) := by decide +kernel
theorem dX9_doScriptCommand_247 : decode cX9_doScriptCommand 247 = .ok (.iload_n 2, 1) := by decide +kernel
theorem dX9_doScriptCommand_248 : decode cX9_doScriptCommand 248 = .ok (.iaload, 1) := by decide +kernel
theorem dX9_doScriptCommand_249 : decode cX9_doScriptCommand 249 = .ok (.iload_n 3, 1) := by decide +kernel
theorem dX9_doScriptCommand_250 : decode cX9_doScriptCommand 250 = .ok (.if_icmp .lt 7, 3) := by decide +kernel
theorem dX9_doScriptCommand_253 : decode cX9_doScriptCommand 253 = .ok (.iconst 1, 1) := by decide +kernel
theorem dX9_doScriptCommand_254 : decode cX9_doScriptCommand 254 = .ok (.goto 4, 3) := by decide +kernel
theorem dX9_doScriptCommand_257 : decode cX9_doScriptCommand 257 = .ok (.iconst 0, 1) := by decide +kernel
theorem dX9_doScriptCommand_258 : decode cX9_doScriptCommand 258 = .ok (.ireturn, 1) := by decide +kernel
theorem dX9_doScriptCommand_259 : decode cX9_doScriptCommand 259 = .ok (.iload 4, 2) := by decide +kernel
theorem dX9_doScriptCommand_261 : decode cX9_doScriptCommand 261 = .ok (.ifCond .ne 36, 3) := by decide +kernel
theorem dX9_doScriptCommand_264 : decode cX9_doScriptCommand 264 = .ok (.aload_n 0, 1) := by decide +kernel
theorem dX9_doScriptCommand_265 : decode cX9_doScriptCommand 265 = .ok (.getfield 26, 3) := by decide +kernel
theorem dX9_doScriptCommand_268 : decode cX9_doScriptCommand 268 = .ok (.getfield 122, 3) := by decide +kernel
theorem dX9_doScriptCommand_271 : decode cX9_doScriptCommand 271 = .ok (.iload_n 2, 1) := by decide +kernel
theorem dX9_doScriptCommand_272 : decode cX9_doScriptCommand 272 = .ok (.invokevirtual 351, 3) := by decide +kernel
theorem dX9_doScriptCommand_275 : decode cX9_doScriptCommand 275 = .ok (.ifCond .eq 22, 3) := by decide +kernel
theorem dX9_doScriptCommand_278 : decode cX9_doScriptCommand 278 = .ok (.aload_n 0, 1) := by decide +kernel
theorem dX9_doScriptCommand_279 : decode cX9_doScriptCommand 279 = .ok (.getfield 26, 3) := by decide +kernel
theorem dX9_doScriptCommand_282 : decode cX9_doScriptCommand 282 = .ok (.getfield 122, 3) := by decide +kernel
theorem dX9_doScriptCommand_285 : decode cX9_doScriptCommand 285 = .ok (.iload_n 2, 1) := by decide +kernel
theorem dX9_doScriptCommand_286 : decode cX9_doScriptCommand 286 = .ok (.invokevirtual 198, 3) := by decide +kernel
theorem dX9_doScriptCommand_289 : decode cX9_doScriptCommand 289 = .ok (.iload_n 3, 1) := by decide +kernel
theorem dX9_doScriptCommand_290 : decode cX9_doScriptCommand 290 = .ok (.if_icmp .lt 7, 3) := by decide +kernel
theorem dX9_doScriptCommand_293 : decode cX9_doScriptCommand 293 = .ok (.iconst 1, 1) := by decide +kernel
theorem dX9_doScriptCommand_294 : decode cX9_doScriptCommand 294 = .ok (.goto 4, 3) := by decide +kernel
theorem dX9_doScriptCommand_297 : decode cX9_doScriptCommand 297 = .ok (.iconst 0, 1) := by decide +kernel
theorem dX9_doScriptCommand_298 : decode cX9_doScriptCommand 298 = .ok (.ireturn, 1) := by decide +kernel
theorem dX9_doScriptCommand_299 : decode cX9_doScriptCommand 299 = .ok (.iload_n 2, 1) := by decide +kernel
theorem dX9_doScriptCommand_300 : decode cX9_doScriptCommand 300 = .ok (.ifCond .ne 26, 3) := by decide +kernel
theorem dX9_doScriptCommand_303 : decode cX9_doScriptCommand 303 = .ok (.iload 4, 2) := by decide +kernel
theorem dX9_doScriptCommand_305 : decode cX9_doScriptCommand 305 = .ok (.ifCond .ne 21, 3) := by decide +kernel
theorem dX9_doScriptCommand_308 : decode cX9_doScriptCommand 308 = .ok (.aload_n 0, 1) := by decide +kernel
theorem dX9_doScriptCommand_309 : decode cX9_doScriptCommand 309 = .ok (.getfield 26, 3) := by decide +kernel
theorem dX9_doScriptCommand_312 : decode cX9_doScriptCommand 312 = .ok (.getfield 147, 3) := by decide +kernel
theorem dX9_doScriptCommand_315 : decode cX9_doScriptCommand 315 = .ok (.getfield 151, 3) := by decide +kernel
theorem dX9_doScriptCommand_318 : decode cX9_doScriptCommand 318 = .ok (.iload_n 3, 1) := by decide +kernel
theorem dX9_doScriptCommand_319 : decode cX9_doScriptCommand 319 = .ok (.if_icmp .gt 7, 3) := by decide +kernel
theorem dX9_doScriptCommand_322 : decode cX9_doScriptCommand 322 = .ok (.iconst 1, 1) := by decide +kernel
theorem dX9_doScriptCommand_323 : decode cX9_doScriptCommand 323 = .ok (.goto 4, 3) := by decide +kernel
theorem dX9_doScriptCommand_326 : decode cX9_doScriptCommand 326 = .ok (.iconst 0, 1) := by decide +kernel
theorem dX9_doScriptCommand_327 : decode cX9_doScriptCommand 327 = .ok (.ireturn, 1) := by decide +kernel
theorem dX9_doScriptCommand_328 : decode cX9_doScriptCommand 328 = .ok (.iconst 0, 1) := by decide +kernel
theorem dX9_doScriptCommand_329 : decode cX9_doScriptCommand 329 = .ok (.ireturn, 1) := by decide +kernel
def bX9_doScriptCommand_0 (w : ab_W) (s_X3_tryOrder : ab_S) (s_X3_tryTransfer : ab_S) (s_X3_tryChange : ab_S) (s_X3_tryWind : ab_S) (s_X3_trySetting : ab_S) (s_X3_tryWatches : ab_S) (s_X7_has : ab_S) (s_X7_sondesOf : ab_S) (M : Nat → ab_P) (Kn : Option Value → ab_H → Prop) : ab_P := ab_ild 1 (ab_ci (nI 1000) (ab_d2 (fun x y => x / y) (ab_ci (nI 10) (ab_d2 (fun x y => x - x / y * y) (ab_ist 2 (ab_ild 1 (ab_ci (nI 10) (ab_d2 (fun x y => x / y) (ab_ci (nI 100) (ab_d2 (fun x y => x - x / y * y) (ab_ist 3 (ab_ild 1 (ab_ci (nI 10) (ab_d2 (fun x y => x - x / y * y) (ab_ist 4 (ab_ild 1 (ab_ci (nI 10000) (ab_d2 (fun x y => x / y) (ab_sw [(nI 1, ab_ald 0 (ab_gr w 9 120 (ab_ild 2 (ab_ild 3 (ab_ild 4 (ab_cV w 4 3 s_X3_tryOrder (ab_zr Kn))))))), (nI 2, ab_ild 3 (ab_ci (nI 10) (ab_d2 (fun x y => x - x / y * y) (ab_if1 (fun x => ¬ x = 0) (M 123) (ab_ild 4 (ab_if1 (fun x => ¬ x = 0) (M 123) (ab_ald 0 (ab_gr w 9 120 (ab_ild 2 (ab_ild 3 (ab_ci (nI 10) (ab_d2 (fun x y => x / y) (ab_cV w 3 3 s_X3_tryTransfer (ab_if1 (fun x => x = 0) (M 123) (ab_ci (nI 1) (M 124)))))))))))))))), (nI 3, ab_ald 0 (ab_gr w 9 120 (ab_ild 2 (ab_ild 3 (ab_ild 4 (ab_cV w 4 3 s_X3_tryChange (ab_zr Kn))))))), (nI 4, ab_ild 4 (ab_if1 (fun x => ¬ x = 0) (M 161) (ab_ald 0 (ab_gr w 9 120 (ab_ild 2 (ab_ild 3 (ab_ci (nI 20) (ab_b2 (fun x y => x - y) (ab_cV w 3 3 s_X3_tryWind (ab_if1 (fun x => x = 0) (M 161) (ab_ci (nI 1) (M 162)))))))))))), (nI 5, ab_ild 4 (ab_if1 (fun x => ¬ x = 0) (M 184) (ab_ald 0 (ab_gr w 9 120 (ab_ild 2 (ab_ild 3 (ab_cV w 3 3 s_X3_trySetting (ab_if1 (fun x => x = 0) (M 184) (ab_ci (nI 1) (M 185)))))))))), (nI 6, ab_ild 1 (ab_ci (nI 100) (ab_d2 (fun x y => x / y) (ab_ci (nI 100) (ab_d2 (fun x y => x - x / y * y) (ab_if1 (fun x => ¬ x = 0) (M 216) (ab_ald 0 (ab_gr w 9 120 (ab_ild 1 (ab_ci (nI 100) (ab_d2 (fun x y => x - x / y * y) (ab_ci (nI 40) (ab_cV w 3 3 s_X3_tryWatches (ab_if1 (fun x => x = 0) (M 216) (ab_ci (nI 1) (M 217)))))))))))))))), (nI 7, ab_ild 4 (ab_if1 (fun x => ¬ x = 0) (M 257) (ab_ald 0 (ab_gr w 9 120 (ab_gr w 3 1 (ab_ild 2 (ab_cV w 2 7 s_X7_has (ab_if1 (fun x => x = 0) (M 257) (ab_ald 0 (ab_gr w 9 120 (ab_gr w 3 1 (ab_gr w 7 4 (ab_ild 2 (ab_ia w 11 (ab_ild 3 (ab_if2 (fun x y => x < y) (M 257) (ab_ci (nI 1) (M 258)))))))))))))))))), (nI 8, ab_ild 4 (ab_if1 (fun x => ¬ x = 0) (M 297) (ab_ald 0 (ab_gr w 9 120 (ab_gr w 3 1 (ab_ild 2 (ab_cV w 2 7 s_X7_has (ab_if1 (fun x => x = 0) (M 297) (ab_ald 0 (ab_gr w 9 120 (ab_gr w 3 1 (ab_ild 2 (ab_cV w 2 7 s_X7_sondesOf (ab_ild 3 (ab_if2 (fun x y => x < y) (M 297) (ab_ci (nI 1) (M 298))))))))))))))))), (nI 9, ab_ild 2 (ab_if1 (fun x => ¬ x = 0) (M 326) (ab_ild 4 (ab_if1 (fun x => ¬ x = 0) (M 326) (ab_ald 0 (ab_gr w 9 120 (ab_gr w 3 23 (ab_gf w 1 0 (ab_ild 3 (ab_if2 (fun x y => y < x) (M 326) (ab_ci (nI 1) (M 327))))))))))))] (ab_ci (nI 0) (ab_zr Kn)))))))))))))))))))))
def bX9_doScriptCommand_123 (w : ab_W) (s_X3_tryOrder : ab_S) (s_X3_tryTransfer : ab_S) (s_X3_tryChange : ab_S) (s_X3_tryWind : ab_S) (s_X3_trySetting : ab_S) (s_X3_tryWatches : ab_S) (s_X7_has : ab_S) (s_X7_sondesOf : ab_S) (M : Nat → ab_P) (Kn : Option Value → ab_H → Prop) : ab_P := ab_ci (nI 0) (M 124)
def bX9_doScriptCommand_124 (w : ab_W) (s_X3_tryOrder : ab_S) (s_X3_tryTransfer : ab_S) (s_X3_tryChange : ab_S) (s_X3_tryWind : ab_S) (s_X3_trySetting : ab_S) (s_X3_tryWatches : ab_S) (s_X7_has : ab_S) (s_X7_sondesOf : ab_S) (M : Nat → ab_P) (Kn : Option Value → ab_H → Prop) : ab_P := ab_zr Kn
def bX9_doScriptCommand_161 (w : ab_W) (s_X3_tryOrder : ab_S) (s_X3_tryTransfer : ab_S) (s_X3_tryChange : ab_S) (s_X3_tryWind : ab_S) (s_X3_trySetting : ab_S) (s_X3_tryWatches : ab_S) (s_X7_has : ab_S) (s_X7_sondesOf : ab_S) (M : Nat → ab_P) (Kn : Option Value → ab_H → Prop) : ab_P := ab_ci (nI 0) (M 162)
def bX9_doScriptCommand_162 (w : ab_W) (s_X3_tryOrder : ab_S) (s_X3_tryTransfer : ab_S) (s_X3_tryChange : ab_S) (s_X3_tryWind : ab_S) (s_X3_trySetting : ab_S) (s_X3_tryWatches : ab_S) (s_X7_has : ab_S) (s_X7_sondesOf : ab_S) (M : Nat → ab_P) (Kn : Option Value → ab_H → Prop) : ab_P := ab_zr Kn
def bX9_doScriptCommand_184 (w : ab_W) (s_X3_tryOrder : ab_S) (s_X3_tryTransfer : ab_S) (s_X3_tryChange : ab_S) (s_X3_tryWind : ab_S) (s_X3_trySetting : ab_S) (s_X3_tryWatches : ab_S) (s_X7_has : ab_S) (s_X7_sondesOf : ab_S) (M : Nat → ab_P) (Kn : Option Value → ab_H → Prop) : ab_P := ab_ci (nI 0) (M 185)
def bX9_doScriptCommand_185 (w : ab_W) (s_X3_tryOrder : ab_S) (s_X3_tryTransfer : ab_S) (s_X3_tryChange : ab_S) (s_X3_tryWind : ab_S) (s_X3_trySetting : ab_S) (s_X3_tryWatches : ab_S) (s_X7_has : ab_S) (s_X7_sondesOf : ab_S) (M : Nat → ab_P) (Kn : Option Value → ab_H → Prop) : ab_P := ab_zr Kn
def bX9_doScriptCommand_216 (w : ab_W) (s_X3_tryOrder : ab_S) (s_X3_tryTransfer : ab_S) (s_X3_tryChange : ab_S) (s_X3_tryWind : ab_S) (s_X3_trySetting : ab_S) (s_X3_tryWatches : ab_S) (s_X7_has : ab_S) (s_X7_sondesOf : ab_S) (M : Nat → ab_P) (Kn : Option Value → ab_H → Prop) : ab_P := ab_ci (nI 0) (M 217)
def bX9_doScriptCommand_217 (w : ab_W) (s_X3_tryOrder : ab_S) (s_X3_tryTransfer : ab_S) (s_X3_tryChange : ab_S) (s_X3_tryWind : ab_S) (s_X3_trySetting : ab_S) (s_X3_tryWatches : ab_S) (s_X7_has : ab_S) (s_X7_sondesOf : ab_S) (M : Nat → ab_P) (Kn : Option Value → ab_H → Prop) : ab_P := ab_zr Kn
def bX9_doScriptCommand_257 (w : ab_W) (s_X3_tryOrder : ab_S) (s_X3_tryTransfer : ab_S) (s_X3_tryChange : ab_S) (s_X3_tryWind : ab_S) (s_X3_trySetting : ab_S) (s_X3_tryWatches : ab_S) (s_X7_has : ab_S) (s_X7_sondesOf : ab_S) (M : Nat → ab_P) (Kn : Option Value → ab_H → Prop) : ab_P := ab_ci (nI 0) (M 258)
def bX9_doScriptCommand_258 (w : ab_W) (s_X3_tryOrder : ab_S) (s_X3_tryTransfer : ab_S) (s_X3_tryChange : ab_S) (s_X3_tryWind : ab_S) (s_X3_trySetting : ab_S) (s_X3_tryWatches : ab_S) (s_X7_has : ab_S) (s_X7_sondesOf : ab_S) (M : Nat → ab_P) (Kn : Option Value → ab_H → Prop) : ab_P := ab_zr Kn
def bX9_doScriptCommand_297 (w : ab_W) (s_X3_tryOrder : ab_S) (s_X3_tryTransfer : ab_S) (s_X3_tryChange : ab_S) (s_X3_tryWind : ab_S) (s_X3_trySetting : ab_S) (s_X3_tryWatches : ab_S) (s_X7_has : ab_S) (s_X7_sondesOf : ab_S) (M : Nat → ab_P) (Kn : Option Value → ab_H → Prop) : ab_P := ab_ci (nI 0) (M 298)
def bX9_doScriptCommand_298 (w : ab_W) (s_X3_tryOrder : ab_S) (s_X3_tryTransfer : ab_S) (s_X3_tryChange : ab_S) (s_X3_tryWind : ab_S) (s_X3_trySetting : ab_S) (s_X3_tryWatches : ab_S) (s_X7_has : ab_S) (s_X7_sondesOf : ab_S) (M : Nat → ab_P) (Kn : Option Value → ab_H → Prop) : ab_P := ab_zr Kn
def bX9_doScriptCommand_326 (w : ab_W) (s_X3_tryOrder : ab_S) (s_X3_tryTransfer : ab_S) (s_X3_tryChange : ab_S) (s_X3_tryWind : ab_S) (s_X3_trySetting : ab_S) (s_X3_tryWatches : ab_S) (s_X7_has : ab_S) (s_X7_sondesOf : ab_S) (M : Nat → ab_P) (Kn : Option Value → ab_H → Prop) : ab_P := ab_ci (nI 0) (M 327)
def bX9_doScriptCommand_327 (w : ab_W) (s_X3_tryOrder : ab_S) (s_X3_tryTransfer : ab_S) (s_X3_tryChange : ab_S) (s_X3_tryWind : ab_S) (s_X3_trySetting : ab_S) (s_X3_tryWatches : ab_S) (s_X7_has : ab_S) (s_X7_sondesOf : ab_S) (M : Nat → ab_P) (Kn : Option Value → ab_H → Prop) : ab_P := ab_zr Kn
set_option maxRecDepth 20000 in
set_option maxHeartbeats 2000000 in
theorem vc_X9_doScriptCommand {l : Launch} (hl : l.stackTraces = false) {w : ab_W} (hI : ab_Inj w) {mc : Nat} {σ : ab_H} {As : List Value} {Kn : Option Value → ab_H → Prop} {Kx : String → ab_H → Prop} {s_X3_tryOrder : ab_S} (ok_X3_tryOrder : ab_OkN l yX3_tryOrder (Cond.code yX3_tryOrder cX3_tryOrder 4 (some .boolean)) 3 s_X3_tryOrder) {s_X3_tryTransfer : ab_S} (ok_X3_tryTransfer : ab_OkN l yX3_tryTransfer (Cond.code yX3_tryTransfer cX3_tryTransfer 4 (some .boolean)) 4 s_X3_tryTransfer) {s_X3_tryChange : ab_S} (ok_X3_tryChange : ab_OkN l yX3_tryChange (Cond.code yX3_tryChange cX3_tryChange 4 (some .boolean)) 3 s_X3_tryChange) {s_X3_tryWind : ab_S} (ok_X3_tryWind : ab_OkN l yX3_tryWind (Cond.code yX3_tryWind cX3_tryWind 3 (some .boolean)) 3 s_X3_tryWind) {s_X3_trySetting : ab_S} (ok_X3_trySetting : ab_OkN l yX3_trySetting (Cond.code yX3_trySetting cX3_trySetting 3 (some .boolean)) 3 s_X3_trySetting) {s_X3_tryWatches : ab_S} (ok_X3_tryWatches : ab_OkN l yX3_tryWatches (Cond.code yX3_tryWatches cX3_tryWatches 4 (some .boolean)) 5 s_X3_tryWatches) {s_X7_has : ab_S} (ok_X7_has : ab_OkN l yX7_has (Cond.code yX7_has cX7_has 2 (some .boolean)) 1 s_X7_has) {s_X7_sondesOf : ab_S} (ok_X7_sondesOf : ab_OkN l yX7_sondesOf (Cond.code yX7_sondesOf cX7_sondesOf 4 (some .int)) 2 s_X7_sondesOf) (hlen : (ab_xl As).length ≤ 5) (h : ∀ M : Nat → ab_P, (∀ L st σ, bX9_doScriptCommand_0 w s_X3_tryOrder s_X3_tryTransfer s_X3_tryChange s_X3_tryWind s_X3_trySetting s_X3_tryWatches s_X7_has s_X7_sondesOf M Kn L st σ → M 0 L st σ) → (∀ L st σ, bX9_doScriptCommand_123 w s_X3_tryOrder s_X3_tryTransfer s_X3_tryChange s_X3_tryWind s_X3_trySetting s_X3_tryWatches s_X7_has s_X7_sondesOf M Kn L st σ → M 123 L st σ) → (∀ L st σ, bX9_doScriptCommand_124 w s_X3_tryOrder s_X3_tryTransfer s_X3_tryChange s_X3_tryWind s_X3_trySetting s_X3_tryWatches s_X7_has s_X7_sondesOf M Kn L st σ → M 124 L st σ) → (∀ L st σ, bX9_doScriptCommand_161 w s_X3_tryOrder s_X3_tryTransfer s_X3_tryChange s_X3_tryWind s_X3_trySetting s_X3_tryWatches s_X7_has s_X7_sondesOf M Kn L st σ → M 161 L st σ) → (∀ L st σ, bX9_doScriptCommand_162 w s_X3_tryOrder s_X3_tryTransfer s_X3_tryChange s_X3_tryWind s_X3_trySetting s_X3_tryWatches s_X7_has s_X7_sondesOf M Kn L st σ → M 162 L st σ) → (∀ L st σ, bX9_doScriptCommand_184 w s_X3_tryOrder s_X3_tryTransfer s_X3_tryChange s_X3_tryWind s_X3_trySetting s_X3_tryWatches s_X7_has s_X7_sondesOf M Kn L st σ → M 184 L st σ) → (∀ L st σ, bX9_doScriptCommand_185 w s_X3_tryOrder s_X3_tryTransfer s_X3_tryChange s_X3_tryWind s_X3_trySetting s_X3_tryWatches s_X7_has s_X7_sondesOf M Kn L st σ → M 185 L st σ) → (∀ L st σ, bX9_doScriptCommand_216 w s_X3_tryOrder s_X3_tryTransfer s_X3_tryChange s_X3_tryWind s_X3_trySetting s_X3_tryWatches s_X7_has s_X7_sondesOf M Kn L st σ → M 216 L st σ) → (∀ L st σ, bX9_doScriptCommand_217 w s_X3_tryOrder s_X3_tryTransfer s_X3_tryChange s_X3_tryWind s_X3_trySetting s_X3_tryWatches s_X7_has s_X7_sondesOf M Kn L st σ → M 217 L st σ) → (∀ L st σ, bX9_doScriptCommand_257 w s_X3_tryOrder s_X3_tryTransfer s_X3_tryChange s_X3_tryWind s_X3_trySetting s_X3_tryWatches s_X7_has s_X7_sondesOf M Kn L st σ → M 257 L st σ) → (∀ L st σ, bX9_doScriptCommand_258 w s_X3_tryOrder s_X3_tryTransfer s_X3_tryChange s_X3_tryWind s_X3_trySetting s_X3_tryWatches s_X7_has s_X7_sondesOf M Kn L st σ → M 258 L st σ) → (∀ L st σ, bX9_doScriptCommand_297 w s_X3_tryOrder s_X3_tryTransfer s_X3_tryChange s_X3_tryWind s_X3_trySetting s_X3_tryWatches s_X7_has s_X7_sondesOf M Kn L st σ → M 297 L st σ) → (∀ L st σ, bX9_doScriptCommand_298 w s_X3_tryOrder s_X3_tryTransfer s_X3_tryChange s_X3_tryWind s_X3_trySetting s_X3_tryWatches s_X7_has s_X7_sondesOf M Kn L st σ → M 298 L st σ) → (∀ L st σ, bX9_doScriptCommand_326 w s_X3_tryOrder s_X3_tryTransfer s_X3_tryChange s_X3_tryWind s_X3_trySetting s_X3_tryWatches s_X7_has s_X7_sondesOf M Kn L st σ → M 326 L st σ) → (∀ L st σ, bX9_doScriptCommand_327 w s_X3_tryOrder s_X3_tryTransfer s_X3_tryChange s_X3_tryWind s_X3_trySetting s_X3_tryWatches s_X7_has s_X7_sondesOf M Kn L st σ → M 327 L st σ) → M 0 (ab_pd 5 (ab_xl As)) [] σ) : ab_Met l yX9_doScriptCommand (Cond.code yX9_doScriptCommand cX9_doScriptCommand 5 (some .boolean)) 6 mc w σ As Kn Kx := by
  refine ab_enter (by decide) hl hI hlen (by decide) ?_
  intro p e R s m args below meth c C hno hr
  exact h _ (sd_iload_n C (i := 1) dX9_doScriptCommand_0 rfl (sd_sipush C (x := nI 1000) dX9_doScriptCommand_1 (by decide +kernel) (sd_idiv C dX9_doScriptCommand_4 (sd_bipush C (x := nI 10) dX9_doScriptCommand_5 (by decide +kernel) (sd_irem C dX9_doScriptCommand_7 (sd_istore_n C (i := 2) dX9_doScriptCommand_8 rfl (by decide) (sd_iload_n C (i := 1) dX9_doScriptCommand_9 rfl (sd_bipush C (x := nI 10) dX9_doScriptCommand_10 (by decide +kernel) (sd_idiv C dX9_doScriptCommand_12 (sd_bipush C (x := nI 100) dX9_doScriptCommand_13 (by decide +kernel) (sd_irem C dX9_doScriptCommand_15 (sd_istore_n C (i := 3) dX9_doScriptCommand_16 rfl (by decide) (sd_iload_n C (i := 1) dX9_doScriptCommand_17 rfl (sd_bipush C (x := nI 10) dX9_doScriptCommand_18 (by decide +kernel) (sd_irem C dX9_doScriptCommand_20 (sd_istore C dX9_doScriptCommand_21 (by decide) (sd_iload_n C (i := 1) dX9_doScriptCommand_23 rfl (sd_sipush C (x := nI 10000) dX9_doScriptCommand_24 (by decide +kernel) (sd_idiv C dX9_doScriptCommand_27 (sd_table C (td := 328) dX9_doScriptCommand_28 9 (by decide +kernel : ([nI 1, nI 2, nI 3, nI 4, nI 5, nI 6, nI 7, nI 8, nI 9] : List Int32) = _) (by decide) (List.forall_mem_cons.mpr ⟨⟨52, 80, (by decide +kernel : ¬ (nI 1 : Int32).toInt < 1), (by decide +kernel : ¬ (9 : Int) < (nI 1 : Int32).toInt), (by decide +kernel : (#[52, 64, 97, 109, 135, 158, 190, 231, 271] : Array Int)[((nI 1 : Int32).toInt - 1).toNat]? = some 52), (by decide), (sd_aload_n C (i := 0) dX9_doScriptCommand_80 rfl (sd_gr C (ci := 9) (k := 3) (r := (RX9, TX9, 7)) rfl (by decide) rfl wd_295 dX9_doScriptCommand_81 (sd_iload_n C (i := 2) dX9_doScriptCommand_84 rfl (sd_iload_n C (i := 3) dX9_doScriptCommand_85 rfl (sd_iload C dX9_doScriptCommand_86 (sd_cV C ok_X3_tryOrder (ci := 3) (row := (RX3, TX3, 13)) rfl rfl ⟨by decide, by decide, wd_513, wd_3, by decide +kernel⟩ wd_510 wd_511 wd_512 dX9_doScriptCommand_88 (sd_zr C hr dX9_doScriptCommand_91)))))))⟩, (List.forall_mem_cons.mpr ⟨⟨64, 92, (by decide +kernel : ¬ (nI 2 : Int32).toInt < 1), (by decide +kernel : ¬ (9 : Int) < (nI 2 : Int32).toInt), (by decide +kernel : (#[52, 64, 97, 109, 135, 158, 190, 231, 271] : Array Int)[((nI 2 : Int32).toInt - 1).toNat]? = some 64), (by decide), (sd_iload_n C (i := 3) dX9_doScriptCommand_92 rfl (sd_bipush C (x := nI 10) dX9_doScriptCommand_93 (by decide +kernel) (sd_irem C dX9_doScriptCommand_95 (sd_if_ne C dX9_doScriptCommand_96 (tgt := 123) (by decide) (fun _ _ _ h => h) (sd_iload C dX9_doScriptCommand_99 (sd_if_ne C dX9_doScriptCommand_101 (tgt := 123) (by decide) (fun _ _ _ h => h) (sd_aload_n C (i := 0) dX9_doScriptCommand_104 rfl (sd_gr C (ci := 9) (k := 3) (r := (RX9, TX9, 7)) rfl (by decide) rfl wd_295 dX9_doScriptCommand_105 (sd_iload_n C (i := 2) dX9_doScriptCommand_108 rfl (sd_iload_n C (i := 3) dX9_doScriptCommand_109 rfl (sd_bipush C (x := nI 10) dX9_doScriptCommand_110 (by decide +kernel) (sd_idiv C dX9_doScriptCommand_112 (sd_cV C ok_X3_tryTransfer (ci := 3) (row := (RX3, TX3, 13)) rfl rfl ⟨by decide, by decide, wd_851, wd_3, by decide +kernel⟩ wd_848 wd_849 wd_850 dX9_doScriptCommand_113 (sd_if_eq C dX9_doScriptCommand_116 (tgt := 123) (by decide) (fun _ _ _ h => h) (sd_iconst C (x := nI 1) dX9_doScriptCommand_119 (by decide +kernel) (sd_goto C dX9_doScriptCommand_120 (tgt := 124) (by decide) (fun _ _ _ h => h)))))))))))))))))⟩, (List.forall_mem_cons.mpr ⟨⟨97, 125, (by decide +kernel : ¬ (nI 3 : Int32).toInt < 1), (by decide +kernel : ¬ (9 : Int) < (nI 3 : Int32).toInt), (by decide +kernel : (#[52, 64, 97, 109, 135, 158, 190, 231, 271] : Array Int)[((nI 3 : Int32).toInt - 1).toNat]? = some 97), (by decide), (sd_aload_n C (i := 0) dX9_doScriptCommand_125 rfl (sd_gr C (ci := 9) (k := 3) (r := (RX9, TX9, 7)) rfl (by decide) rfl wd_295 dX9_doScriptCommand_126 (sd_iload_n C (i := 2) dX9_doScriptCommand_129 rfl (sd_iload_n C (i := 3) dX9_doScriptCommand_130 rfl (sd_iload C dX9_doScriptCommand_131 (sd_cV C ok_X3_tryChange (ci := 3) (row := (RX3, TX3, 13)) rfl rfl ⟨by decide, by decide, wd_825, wd_3, by decide +kernel⟩ wd_822 wd_823 wd_824 dX9_doScriptCommand_133 (sd_zr C hr dX9_doScriptCommand_136)))))))⟩, (List.forall_mem_cons.mpr ⟨⟨109, 137, (by decide +kernel : ¬ (nI 4 : Int32).toInt < 1), (by decide +kernel : ¬ (9 : Int) < (nI 4 : Int32).toInt), (by decide +kernel : (#[52, 64, 97, 109, 135, 158, 190, 231, 271] : Array Int)[((nI 4 : Int32).toInt - 1).toNat]? = some 109), (by decide), (sd_iload C dX9_doScriptCommand_137 (sd_if_ne C dX9_doScriptCommand_139 (tgt := 161) (by decide) (fun _ _ _ h => h) (sd_aload_n C (i := 0) dX9_doScriptCommand_142 rfl (sd_gr C (ci := 9) (k := 3) (r := (RX9, TX9, 7)) rfl (by decide) rfl wd_295 dX9_doScriptCommand_143 (sd_iload_n C (i := 2) dX9_doScriptCommand_146 rfl (sd_iload_n C (i := 3) dX9_doScriptCommand_147 rfl (sd_bipush C (x := nI 20) dX9_doScriptCommand_148 (by decide +kernel) (sd_isub C dX9_doScriptCommand_150 (sd_cV C ok_X3_tryWind (ci := 3) (row := (RX3, TX3, 13)) rfl rfl ⟨by decide, by decide, wd_505, wd_3, by decide +kernel⟩ wd_502 wd_503 wd_504 dX9_doScriptCommand_151 (sd_if_eq C dX9_doScriptCommand_154 (tgt := 161) (by decide) (fun _ _ _ h => h) (sd_iconst C (x := nI 1) dX9_doScriptCommand_157 (by decide +kernel) (sd_goto C dX9_doScriptCommand_158 (tgt := 162) (by decide) (fun _ _ _ h => h)))))))))))))⟩, (List.forall_mem_cons.mpr ⟨⟨135, 163, (by decide +kernel : ¬ (nI 5 : Int32).toInt < 1), (by decide +kernel : ¬ (9 : Int) < (nI 5 : Int32).toInt), (by decide +kernel : (#[52, 64, 97, 109, 135, 158, 190, 231, 271] : Array Int)[((nI 5 : Int32).toInt - 1).toNat]? = some 135), (by decide), (sd_iload C dX9_doScriptCommand_163 (sd_if_ne C dX9_doScriptCommand_165 (tgt := 184) (by decide) (fun _ _ _ h => h) (sd_aload_n C (i := 0) dX9_doScriptCommand_168 rfl (sd_gr C (ci := 9) (k := 3) (r := (RX9, TX9, 7)) rfl (by decide) rfl wd_295 dX9_doScriptCommand_169 (sd_iload_n C (i := 2) dX9_doScriptCommand_172 rfl (sd_iload_n C (i := 3) dX9_doScriptCommand_173 rfl (sd_cV C ok_X3_trySetting (ci := 3) (row := (RX3, TX3, 13)) rfl rfl ⟨by decide, by decide, wd_878, wd_3, by decide +kernel⟩ wd_875 wd_876 wd_877 dX9_doScriptCommand_174 (sd_if_eq C dX9_doScriptCommand_177 (tgt := 184) (by decide) (fun _ _ _ h => h) (sd_iconst C (x := nI 1) dX9_doScriptCommand_180 (by decide +kernel) (sd_goto C dX9_doScriptCommand_181 (tgt := 185) (by decide) (fun _ _ _ h => h)))))))))))⟩, (List.forall_mem_cons.mpr ⟨⟨158, 186, (by decide +kernel : ¬ (nI 6 : Int32).toInt < 1), (by decide +kernel : ¬ (9 : Int) < (nI 6 : Int32).toInt), (by decide +kernel : (#[52, 64, 97, 109, 135, 158, 190, 231, 271] : Array Int)[((nI 6 : Int32).toInt - 1).toNat]? = some 158), (by decide), (sd_iload_n C (i := 1) dX9_doScriptCommand_186 rfl (sd_bipush C (x := nI 100) dX9_doScriptCommand_187 (by decide +kernel) (sd_idiv C dX9_doScriptCommand_189 (sd_bipush C (x := nI 100) dX9_doScriptCommand_190 (by decide +kernel) (sd_irem C dX9_doScriptCommand_192 (sd_if_ne C dX9_doScriptCommand_193 (tgt := 216) (by decide) (fun _ _ _ h => h) (sd_aload_n C (i := 0) dX9_doScriptCommand_196 rfl (sd_gr C (ci := 9) (k := 3) (r := (RX9, TX9, 7)) rfl (by decide) rfl wd_295 dX9_doScriptCommand_197 (sd_iload_n C (i := 1) dX9_doScriptCommand_200 rfl (sd_bipush C (x := nI 100) dX9_doScriptCommand_201 (by decide +kernel) (sd_irem C dX9_doScriptCommand_203 (sd_bipush C (x := nI 40) dX9_doScriptCommand_204 (by decide +kernel) (sd_cV C ok_X3_tryWatches (ci := 3) (row := (RX3, TX3, 13)) rfl rfl ⟨by decide, by decide, wd_534, wd_3, by decide +kernel⟩ wd_531 wd_532 wd_533 dX9_doScriptCommand_206 (sd_if_eq C dX9_doScriptCommand_209 (tgt := 216) (by decide) (fun _ _ _ h => h) (sd_iconst C (x := nI 1) dX9_doScriptCommand_212 (by decide +kernel) (sd_goto C dX9_doScriptCommand_213 (tgt := 217) (by decide) (fun _ _ _ h => h)))))))))))))))))⟩, (List.forall_mem_cons.mpr ⟨⟨190, 218, (by decide +kernel : ¬ (nI 7 : Int32).toInt < 1), (by decide +kernel : ¬ (9 : Int) < (nI 7 : Int32).toInt), (by decide +kernel : (#[52, 64, 97, 109, 135, 158, 190, 231, 271] : Array Int)[((nI 7 : Int32).toInt - 1).toNat]? = some 190), (by decide), (sd_iload C dX9_doScriptCommand_218 (sd_if_ne C dX9_doScriptCommand_220 (tgt := 257) (by decide) (fun _ _ _ h => h) (sd_aload_n C (i := 0) dX9_doScriptCommand_223 rfl (sd_gr C (ci := 9) (k := 3) (r := (RX9, TX9, 7)) rfl (by decide) rfl wd_295 dX9_doScriptCommand_224 (sd_gr C (ci := 3) (k := 0) (r := (RX3, TX3, 13)) rfl (by decide) rfl wd_204 dX9_doScriptCommand_227 (sd_iload_n C (i := 2) dX9_doScriptCommand_230 rfl (sd_cV C ok_X7_has (ci := 7) (row := (RX7, TX7, 8)) rfl rfl ⟨by decide, by decide, wd_489, wd_4, by decide +kernel⟩ wd_714 wd_487 wd_488 dX9_doScriptCommand_231 (sd_if_eq C dX9_doScriptCommand_234 (tgt := 257) (by decide) (fun _ _ _ h => h) (sd_aload_n C (i := 0) dX9_doScriptCommand_237 rfl (sd_gr C (ci := 9) (k := 3) (r := (RX9, TX9, 7)) rfl (by decide) rfl wd_295 dX9_doScriptCommand_238 (sd_gr C (ci := 3) (k := 0) (r := (RX3, TX3, 13)) rfl (by decide) rfl wd_204 dX9_doScriptCommand_241 (sd_gr C (ci := 7) (k := 4) (r := (RX7, TX7, 8)) rfl (by decide) rfl wd_79 dX9_doScriptCommand_244 (sd_iload_n C (i := 2) dX9_doScriptCommand_247 rfl (sd_ia C dX9_doScriptCommand_248 (sd_iload_n C (i := 3) dX9_doScriptCommand_249 rfl (sd_icmp_lt C dX9_doScriptCommand_250 (tgt := 257) (by decide) (fun _ _ _ h => h) (sd_iconst C (x := nI 1) dX9_doScriptCommand_253 (by decide +kernel) (sd_goto C dX9_doScriptCommand_254 (tgt := 258) (by decide) (fun _ _ _ h => h)))))))))))))))))))⟩, (List.forall_mem_cons.mpr ⟨⟨231, 259, (by decide +kernel : ¬ (nI 8 : Int32).toInt < 1), (by decide +kernel : ¬ (9 : Int) < (nI 8 : Int32).toInt), (by decide +kernel : (#[52, 64, 97, 109, 135, 158, 190, 231, 271] : Array Int)[((nI 8 : Int32).toInt - 1).toNat]? = some 231), (by decide), (sd_iload C dX9_doScriptCommand_259 (sd_if_ne C dX9_doScriptCommand_261 (tgt := 297) (by decide) (fun _ _ _ h => h) (sd_aload_n C (i := 0) dX9_doScriptCommand_264 rfl (sd_gr C (ci := 9) (k := 3) (r := (RX9, TX9, 7)) rfl (by decide) rfl wd_295 dX9_doScriptCommand_265 (sd_gr C (ci := 3) (k := 0) (r := (RX3, TX3, 13)) rfl (by decide) rfl wd_204 dX9_doScriptCommand_268 (sd_iload_n C (i := 2) dX9_doScriptCommand_271 rfl (sd_cV C ok_X7_has (ci := 7) (row := (RX7, TX7, 8)) rfl rfl ⟨by decide, by decide, wd_489, wd_4, by decide +kernel⟩ wd_714 wd_487 wd_488 dX9_doScriptCommand_272 (sd_if_eq C dX9_doScriptCommand_275 (tgt := 297) (by decide) (fun _ _ _ h => h) (sd_aload_n C (i := 0) dX9_doScriptCommand_278 rfl (sd_gr C (ci := 9) (k := 3) (r := (RX9, TX9, 7)) rfl (by decide) rfl wd_295 dX9_doScriptCommand_279 (sd_gr C (ci := 3) (k := 0) (r := (RX3, TX3, 13)) rfl (by decide) rfl wd_204 dX9_doScriptCommand_282 (sd_iload_n C (i := 2) dX9_doScriptCommand_285 rfl (sd_cV C ok_X7_sondesOf (ci := 7) (row := (RX7, TX7, 8)) rfl rfl ⟨by decide, by decide, wd_667, wd_4, by decide +kernel⟩ wd_716 wd_665 wd_666 dX9_doScriptCommand_286 (sd_iload_n C (i := 3) dX9_doScriptCommand_289 rfl (sd_icmp_lt C dX9_doScriptCommand_290 (tgt := 297) (by decide) (fun _ _ _ h => h) (sd_iconst C (x := nI 1) dX9_doScriptCommand_293 (by decide +kernel) (sd_goto C dX9_doScriptCommand_294 (tgt := 298) (by decide) (fun _ _ _ h => h))))))))))))))))))⟩, (List.forall_mem_cons.mpr ⟨⟨271, 299, (by decide +kernel : ¬ (nI 9 : Int32).toInt < 1), (by decide +kernel : ¬ (9 : Int) < (nI 9 : Int32).toInt), (by decide +kernel : (#[52, 64, 97, 109, 135, 158, 190, 231, 271] : Array Int)[((nI 9 : Int32).toInt - 1).toNat]? = some 271), (by decide), (sd_iload_n C (i := 2) dX9_doScriptCommand_299 rfl (sd_if_ne C dX9_doScriptCommand_300 (tgt := 326) (by decide) (fun _ _ _ h => h) (sd_iload C dX9_doScriptCommand_303 (sd_if_ne C dX9_doScriptCommand_305 (tgt := 326) (by decide) (fun _ _ _ h => h) (sd_aload_n C (i := 0) dX9_doScriptCommand_308 rfl (sd_gr C (ci := 9) (k := 3) (r := (RX9, TX9, 7)) rfl (by decide) rfl wd_295 dX9_doScriptCommand_309 (sd_gr C (ci := 3) (k := 4) (r := (RX3, TX3, 13)) rfl (by decide) rfl wd_212 dX9_doScriptCommand_312 (sd_gf C (ci := 1) (k := 0) (r := (RX1, TX1, 5)) rfl (by decide) rfl wd_187 dX9_doScriptCommand_315 (sd_iload_n C (i := 3) dX9_doScriptCommand_318 rfl (sd_icmp_gt C dX9_doScriptCommand_319 (tgt := 326) (by decide) (fun _ _ _ h => h) (sd_iconst C (x := nI 1) dX9_doScriptCommand_322 (by decide +kernel) (sd_goto C dX9_doScriptCommand_323 (tgt := 327) (by decide) (fun _ _ _ h => h)))))))))))))⟩, (fun _ h => absurd h List.not_mem_nil)⟩)⟩)⟩)⟩)⟩)⟩)⟩)⟩)⟩) (by decide) (sd_iconst C (x := nI 0) dX9_doScriptCommand_328 (by decide +kernel) (sd_zr C hr dX9_doScriptCommand_329))))))))))))))))))))))
    (sd_iconst C (x := nI 0) dX9_doScriptCommand_123 (by decide +kernel) (fun _ _ _ h => h))
    (sd_zr C hr dX9_doScriptCommand_124)
    (sd_iconst C (x := nI 0) dX9_doScriptCommand_161 (by decide +kernel) (fun _ _ _ h => h))
    (sd_zr C hr dX9_doScriptCommand_162)
    (sd_iconst C (x := nI 0) dX9_doScriptCommand_184 (by decide +kernel) (fun _ _ _ h => h))
    (sd_zr C hr dX9_doScriptCommand_185)
    (sd_iconst C (x := nI 0) dX9_doScriptCommand_216 (by decide +kernel) (fun _ _ _ h => h))
    (sd_zr C hr dX9_doScriptCommand_217)
    (sd_iconst C (x := nI 0) dX9_doScriptCommand_257 (by decide +kernel) (fun _ _ _ h => h))
    (sd_zr C hr dX9_doScriptCommand_258)
    (sd_iconst C (x := nI 0) dX9_doScriptCommand_297 (by decide +kernel) (fun _ _ _ h => h))
    (sd_zr C hr dX9_doScriptCommand_298)
    (sd_iconst C (x := nI 0) dX9_doScriptCommand_326 (by decide +kernel) (fun _ _ _ h => h))
    (sd_zr C hr dX9_doScriptCommand_327)
theorem dX9_runScript_0 : decode cX9_runScript 0 = .ok (.iload_n 1, 1) := by decide +kernel
theorem dX9_runScript_1 : decode cX9_runScript 1 = .ok (.iconst 1, 1) := by decide +kernel
theorem dX9_runScript_2 : decode cX9_runScript 2 = .ok (.iconst 3, 1) := by decide +kernel
theorem dX9_runScript_3 : decode cX9_runScript 3 = .ok (.invokestatic 46, 3) := by decide +kernel
theorem dX9_runScript_6 : decode cX9_runScript 6 = .ok (.invokestatic 217, 3) := by decide +kernel
theorem dX9_runScript_9 : decode cX9_runScript 9 = .ok (.lload_n 2, 1) := by decide +kernel
theorem dX9_runScript_10 : decode cX9_runScript 10 = .ok (.lconst 0, 1) := by decide +kernel
theorem dX9_runScript_11 : decode cX9_runScript 11 = .ok (.lcmp, 1) := by decide +kernel
theorem dX9_runScript_12 : decode cX9_runScript 12 = .ok (.ifCond .lt 16, 3) := by decide +kernel
theorem dX9_runScript_15 : decode cX9_runScript 15 = .ok (.lload_n 2, 1) := by decide +kernel
theorem dX9_runScript_16 : decode cX9_runScript 16 = .ok (.iload_n 1, 1) := by decide +kernel
theorem dX9_runScript_17 : decode cX9_runScript 17 = .ok (.invokestatic 330, 3) := by decide +kernel
theorem dX9_runScript_20 : decode cX9_runScript 20 = .ok (.lcmp, 1) := by decide +kernel
theorem dX9_runScript_21 : decode cX9_runScript 21 = .ok (.ifCond .gt 7, 3) := by decide +kernel
theorem dX9_runScript_24 : decode cX9_runScript 24 = .ok (.iconst 1, 1) := by decide +kernel
theorem dX9_runScript_25 : decode cX9_runScript 25 = .ok (.goto 4, 3) := by decide +kernel
theorem dX9_runScript_28 : decode cX9_runScript 28 = .ok (.iconst 0, 1) := by decide +kernel
theorem dX9_runScript_29 : decode cX9_runScript 29 = .ok (.invokestatic 217, 3) := by decide +kernel
theorem dX9_runScript_32 : decode cX9_runScript 32 = .ok (.aload_n 0, 1) := by decide +kernel
theorem dX9_runScript_33 : decode cX9_runScript 33 = .ok (.getfield 26, 3) := by decide +kernel
theorem dX9_runScript_36 : decode cX9_runScript 36 = .ok (.aload_n 0, 1) := by decide +kernel
theorem dX9_runScript_37 : decode cX9_runScript 37 = .ok (.getfield 19, 3) := by decide +kernel
theorem dX9_runScript_40 : decode cX9_runScript 40 = .ok (.invokevirtual 76, 3) := by decide +kernel
theorem dX9_runScript_43 : decode cX9_runScript 43 = .ok (.iconst 0, 1) := by decide +kernel
theorem dX9_runScript_44 : decode cX9_runScript 44 = .ok (.istore 4, 2) := by decide +kernel
theorem dX9_runScript_46 : decode cX9_runScript 46 = .ok (.iload 4, 2) := by decide +kernel
theorem dX9_runScript_48 : decode cX9_runScript 48 = .ok (.iload_n 1, 1) := by decide +kernel
theorem dX9_runScript_49 : decode cX9_runScript 49 = .ok (.if_icmp .ge 29, 3) := by decide +kernel
theorem dX9_runScript_52 : decode cX9_runScript 52 = .ok (.aload_n 0, 1) := by decide +kernel
theorem dX9_runScript_53 : decode cX9_runScript 53 = .ok (.lload_n 2, 1) := by decide +kernel
theorem dX9_runScript_54 : decode cX9_runScript 54 = .ok (.iload_n 1, 1) := by decide +kernel
theorem dX9_runScript_55 : decode cX9_runScript 55 = .ok (.iconst 1, 1) := by decide +kernel
theorem dX9_runScript_56 : decode cX9_runScript 56 = .ok (.isub, 1) := by decide +kernel
theorem dX9_runScript_57 : decode cX9_runScript 57 = .ok (.iload 4, 2) := by decide +kernel
theorem dX9_runScript_59 : decode cX9_runScript 59 = .ok (.isub, 1) := by decide +kernel
theorem dX9_runScript_60 : decode cX9_runScript 60 = .ok (.invokestatic 334, 3) := by decide +kernel
theorem dX9_runScript_63 : decode cX9_runScript 63 = .ok (.invokevirtual 338, 3) := by decide +kernel
theorem dX9_runScript_66 : decode cX9_runScript 66 = .ok (.ifCond .ne 6, 3) := by decide +kernel
theorem dX9_runScript_69 : decode cX9_runScript 69 = .ok (.iload 4, 2) := by decide +kernel
theorem dX9_runScript_71 : decode cX9_runScript 71 = .ok (.ireturn, 1) := by decide +kernel
theorem dX9_runScript_72 : decode cX9_runScript 72 = .ok (.iinc 4 1, 3) := by decide +kernel
theorem dX9_runScript_75 : decode cX9_runScript 75 = .ok (.goto (-29), 3) := by decide +kernel
theorem dX9_runScript_78 : decode cX9_runScript 78 = .ok (.iconst (-1), 1) := by decide +kernel
theorem dX9_runScript_79 : decode cX9_runScript 79 = .ok (.ireturn, 1) := by decide +kernel
def bX9_runScript_0 (w : ab_W) (mc : Nat) (s_X9_within : ab_S) (s_X9_need : ab_S) (s_X9_longestScript : ab_S) (s_X3_copyFrom : ab_S) (s_X9_scriptGroup : ab_S) (s_X9_doScriptCommand : ab_S) (x_X9_need : ab_SX) (M : Nat → ab_P) (Kn : Option Value → ab_H → Prop) (Kx : String → ab_H → Prop) : ab_P := ab_ild 1 (ab_ci (nI 1) (ab_ci (nI 3) (ab_cN w 3 s_X9_within (ab_cSX w mc 1 s_X9_need x_X9_need Kx (ab_lld 2 (ab_cl (lN 0) (ab_lcmp (ab_if1 (fun x => x < 0) (M 28) (ab_lld 2 (ab_ild 1 (ab_cN w 1 s_X9_longestScript (ab_lcmp (ab_if1 (fun x => 0 < x) (M 28) (ab_ci (nI 1) (M 29)))))))))))))))
def bX9_runScript_28 (w : ab_W) (mc : Nat) (s_X9_within : ab_S) (s_X9_need : ab_S) (s_X9_longestScript : ab_S) (s_X3_copyFrom : ab_S) (s_X9_scriptGroup : ab_S) (s_X9_doScriptCommand : ab_S) (x_X9_need : ab_SX) (M : Nat → ab_P) (Kn : Option Value → ab_H → Prop) (Kx : String → ab_H → Prop) : ab_P := ab_ci (nI 0) (M 29)
def bX9_runScript_29 (w : ab_W) (mc : Nat) (s_X9_within : ab_S) (s_X9_need : ab_S) (s_X9_longestScript : ab_S) (s_X3_copyFrom : ab_S) (s_X9_scriptGroup : ab_S) (s_X9_doScriptCommand : ab_S) (x_X9_need : ab_SX) (M : Nat → ab_P) (Kn : Option Value → ab_H → Prop) (Kx : String → ab_H → Prop) : ab_P := ab_cSX w mc 1 s_X9_need x_X9_need Kx (ab_ald 0 (ab_gr w 9 120 (ab_ald 0 (ab_gr w 9 40 (ab_cV w 2 3 s_X3_copyFrom (ab_ci (nI 0) (ab_ist 4 (M 46))))))))
def bX9_runScript_46 (w : ab_W) (mc : Nat) (s_X9_within : ab_S) (s_X9_need : ab_S) (s_X9_longestScript : ab_S) (s_X3_copyFrom : ab_S) (s_X9_scriptGroup : ab_S) (s_X9_doScriptCommand : ab_S) (x_X9_need : ab_SX) (M : Nat → ab_P) (Kn : Option Value → ab_H → Prop) (Kx : String → ab_H → Prop) : ab_P := ab_ild 4 (ab_ild 1 (ab_if2 (fun x y => y ≤ x) (ab_ci (-1) (ab_ir Kn)) (ab_ald 0 (ab_lld 2 (ab_ild 1 (ab_ci (nI 1) (ab_b2 (fun x y => x - y) (ab_ild 4 (ab_b2 (fun x y => x - y) (ab_cN w 2 s_X9_scriptGroup (ab_cV w 2 9 s_X9_doScriptCommand (ab_if1 (fun x => ¬ x = 0) (ab_inc 4 (nI 1) (M 46)) (ab_ild 4 (ab_ir Kn))))))))))))))
set_option maxRecDepth 20000 in
set_option maxHeartbeats 2000000 in
theorem vc_X9_runScript {l : Launch} (hl : l.stackTraces = false) {w : ab_W} (hI : ab_Inj w) {mc : Nat} {σ : ab_H} {As : List Value} {Kn : Option Value → ab_H → Prop} {Kx : String → ab_H → Prop} {s_X9_within : ab_S} (ok_X9_within : ab_OkN l yX9_within (Cond.code yX9_within cX9_within 3 (some .boolean)) 1 s_X9_within) {s_X9_need : ab_S} (ok_X9_need : ab_OkN l yX9_need (Cond.code yX9_need cX9_need 1 none) 6 s_X9_need) {s_X9_longestScript : ab_S} (ok_X9_longestScript : ab_OkN l yX9_longestScript (Cond.code yX9_longestScript cX9_longestScript 1 (some .long)) 1 s_X9_longestScript) {s_X3_copyFrom : ab_S} (ok_X3_copyFrom : ab_OkN l yX3_copyFrom (Cond.code yX3_copyFrom cX3_copyFrom 2 none) 4 s_X3_copyFrom) {s_X9_scriptGroup : ab_S} (ok_X9_scriptGroup : ab_OkN l yX9_scriptGroup (Cond.code yX9_scriptGroup cX9_scriptGroup 3 (some .int)) 1 s_X9_scriptGroup) {s_X9_doScriptCommand : ab_S} (ok_X9_doScriptCommand : ab_OkN l yX9_doScriptCommand (Cond.code yX9_doScriptCommand cX9_doScriptCommand 5 (some .boolean)) 6 s_X9_doScriptCommand) {x_X9_need : ab_SX} (okx_X9_need : ab_OkX l yX9_need (Cond.code yX9_need cX9_need 1 none) 6 x_X9_need) (hlen : (ab_xl As).length ≤ 5) (h : ∀ M : Nat → ab_P, (∀ L st σ, bX9_runScript_0 w mc s_X9_within s_X9_need s_X9_longestScript s_X3_copyFrom s_X9_scriptGroup s_X9_doScriptCommand x_X9_need M Kn Kx L st σ → M 0 L st σ) → (∀ L st σ, bX9_runScript_28 w mc s_X9_within s_X9_need s_X9_longestScript s_X3_copyFrom s_X9_scriptGroup s_X9_doScriptCommand x_X9_need M Kn Kx L st σ → M 28 L st σ) → (∀ L st σ, bX9_runScript_29 w mc s_X9_within s_X9_need s_X9_longestScript s_X3_copyFrom s_X9_scriptGroup s_X9_doScriptCommand x_X9_need M Kn Kx L st σ → M 29 L st σ) → (∀ L st σ, bX9_runScript_46 w mc s_X9_within s_X9_need s_X9_longestScript s_X3_copyFrom s_X9_scriptGroup s_X9_doScriptCommand x_X9_need M Kn Kx L st σ → M 46 L st σ) → M 0 (ab_pd 5 (ab_xl As)) [] σ) : ab_Met l yX9_runScript (Cond.code yX9_runScript cX9_runScript 5 (some .int)) 7 mc w σ As Kn Kx := by
  refine ab_enter (by decide) hl hI hlen (by decide) ?_
  intro p e R s m args below meth c C hno hr
  exact h _ (sd_iload_n C (i := 1) dX9_runScript_0 rfl (sd_iconst C (x := nI 1) dX9_runScript_1 (by decide +kernel) (sd_iconst C (x := nI 3) dX9_runScript_2 (by decide +kernel) (sd_cS C ok_X9_within ⟨by decide, by decide, wd_477, wd_1, by decide +kernel⟩ wd_618 wd_476 dX9_runScript_3 (sd_cSX C hno ok_X9_need okx_X9_need ⟨by decide, by decide, wd_694, wd_1, by decide +kernel⟩ wd_692 wd_693 dX9_runScript_6 (sd_lload_n C (i := 2) dX9_runScript_9 rfl (sd_lconst C (x := lN 0) dX9_runScript_10 (by decide +kernel) (sd_lcmp C dX9_runScript_11 (sd_if_lt C dX9_runScript_12 (tgt := 28) (by decide) (fun _ _ _ h => h) (sd_lload_n C (i := 2) dX9_runScript_15 rfl (sd_iload_n C (i := 1) dX9_runScript_16 rfl (sd_cS C ok_X9_longestScript ⟨by decide, by decide, wd_932, wd_1, by decide +kernel⟩ wd_930 wd_931 dX9_runScript_17 (sd_lcmp C dX9_runScript_20 (sd_if_gt C dX9_runScript_21 (tgt := 28) (by decide) (fun _ _ _ h => h) (sd_iconst C (x := nI 1) dX9_runScript_24 (by decide +kernel) (sd_goto C dX9_runScript_25 (tgt := 29) (by decide) (fun _ _ _ h => h)))))))))))))))))
    (sd_iconst C (x := nI 0) dX9_runScript_28 (by decide +kernel) (fun _ _ _ h => h))
    (sd_cSX C hno ok_X9_need okx_X9_need ⟨by decide, by decide, wd_694, wd_1, by decide +kernel⟩ wd_692 wd_693 dX9_runScript_29 (sd_aload_n C (i := 0) dX9_runScript_32 rfl (sd_gr C (ci := 9) (k := 3) (r := (RX9, TX9, 7)) rfl (by decide) rfl wd_295 dX9_runScript_33 (sd_aload_n C (i := 0) dX9_runScript_36 rfl (sd_gr C (ci := 9) (k := 1) (r := (RX9, TX9, 7)) rfl (by decide) rfl wd_293 dX9_runScript_37 (sd_cV C ok_X3_copyFrom (ci := 3) (row := (RX3, TX3, 13)) rfl rfl ⟨by decide, by decide, wd_422, wd_3, by decide +kernel⟩ wd_419 wd_420 wd_421 dX9_runScript_40 (sd_iconst C (x := nI 0) dX9_runScript_43 (by decide +kernel) (sd_istore C dX9_runScript_44 (by decide) (fun _ _ _ h => h)))))))))
    (sd_iload C dX9_runScript_46 (sd_iload_n C (i := 1) dX9_runScript_48 rfl (sd_icmp_ge C dX9_runScript_49 (tgt := 78) (by decide) (sd_iconst C (x := -1) dX9_runScript_78 (by decide +kernel) (sd_ir C hr dX9_runScript_79)) (sd_aload_n C (i := 0) dX9_runScript_52 rfl (sd_lload_n C (i := 2) dX9_runScript_53 rfl (sd_iload_n C (i := 1) dX9_runScript_54 rfl (sd_iconst C (x := nI 1) dX9_runScript_55 (by decide +kernel) (sd_isub C dX9_runScript_56 (sd_iload C dX9_runScript_57 (sd_isub C dX9_runScript_59 (sd_cS C ok_X9_scriptGroup ⟨by decide, by decide, wd_938, wd_1, by decide +kernel⟩ wd_936 wd_937 dX9_runScript_60 (sd_cV C ok_X9_doScriptCommand (ci := 9) (row := (RX9, TX9, 7)) rfl rfl ⟨by decide, by decide, wd_944, wd_1, by decide +kernel⟩ wd_941 wd_943 ws_13 dX9_runScript_63 (sd_if_ne C dX9_runScript_66 (tgt := 72) (by decide) (sd_iinc C (x := nI 1) dX9_runScript_72 (by decide +kernel) (by decide) (sd_goto C dX9_runScript_75 (tgt := 46) (by decide) (fun _ _ _ h => h))) (sd_iload C dX9_runScript_69 (sd_ir C hr dX9_runScript_71)))))))))))))))
theorem dX9_doTurn_0 : decode cX9_doTurn 0 = .ok (.iload_n 1, 1) := by decide +kernel
theorem dX9_doTurn_1 : decode cX9_doTurn 1 = .ok (.bipush 8, 2) := by decide +kernel
theorem dX9_doTurn_3 : decode cX9_doTurn 3 = .ok (.idiv, 1) := by decide +kernel
theorem dX9_doTurn_4 : decode cX9_doTurn 4 = .ok (.iconst 5, 1) := by decide +kernel
theorem dX9_doTurn_5 : decode cX9_doTurn 5 = .ok (.irem, 1) := by decide +kernel
theorem dX9_doTurn_6 : decode cX9_doTurn 6 = .ok (.istore_n 2, 1) := by decide +kernel
theorem dX9_doTurn_7 : decode cX9_doTurn 7 = .ok (.iload_n 1, 1) := by decide +kernel
theorem dX9_doTurn_8 : decode cX9_doTurn 8 = .ok (.bipush 8, 2) := by decide +kernel
theorem dX9_doTurn_10 : decode cX9_doTurn 10 = .ok (.irem, 1) := by decide +kernel
theorem dX9_doTurn_11 : decode cX9_doTurn 11 = .ok (.tableswitch 128 0 3 #[29, 55, 73, 100], 29) := by decide +kernel
theorem dX9_doTurn_40 : decode cX9_doTurn 40 = .ok (.aload_n 0, 1) := by decide +kernel
theorem dX9_doTurn_41 : decode cX9_doTurn 41 = .ok (.getfield 26, 3) := by decide +kernel
theorem dX9_doTurn_44 : decode cX9_doTurn 44 = .ok (.iload_n 2, 1) := by decide +kernel
theorem dX9_doTurn_45 : decode cX9_doTurn 45 = .ok (.iload_n 1, 1) := by decide +kernel
theorem dX9_doTurn_46 : decode cX9_doTurn 46 = .ok (.bipush 64, 2) := by decide +kernel
theorem dX9_doTurn_48 : decode cX9_doTurn 48 = .ok (.idiv, 1) := by decide +kernel
theorem dX9_doTurn_49 : decode cX9_doTurn 49 = .ok (.bipush 40, 2) := by decide +kernel
theorem dX9_doTurn_51 : decode cX9_doTurn 51 = .ok (.irem, 1) := by decide +kernel
theorem dX9_doTurn_52 : decode cX9_doTurn 52 = .ok (.iload_n 1, 1) := by decide +kernel
theorem dX9_doTurn_53 : decode cX9_doTurn 53 = .ok (.sipush 4096, 3) := by decide +kernel
theorem dX9_doTurn_56 : decode cX9_doTurn 56 = .ok (.idiv, 1) := by decide +kernel
theorem dX9_doTurn_57 : decode cX9_doTurn 57 = .ok (.iconst 5, 1) := by decide +kernel
theorem dX9_doTurn_58 : decode cX9_doTurn 58 = .ok (.irem, 1) := by decide +kernel
theorem dX9_doTurn_59 : decode cX9_doTurn 59 = .ok (.invokevirtual 116, 3) := by decide +kernel
theorem dX9_doTurn_62 : decode cX9_doTurn 62 = .ok (.pop, 1) := by decide +kernel
theorem dX9_doTurn_63 : decode cX9_doTurn 63 = .ok (.goto 94, 3) := by decide +kernel
theorem dX9_doTurn_66 : decode cX9_doTurn 66 = .ok (.aload_n 0, 1) := by decide +kernel
theorem dX9_doTurn_67 : decode cX9_doTurn 67 = .ok (.getfield 26, 3) := by decide +kernel
theorem dX9_doTurn_70 : decode cX9_doTurn 70 = .ok (.iload_n 2, 1) := by decide +kernel
theorem dX9_doTurn_71 : decode cX9_doTurn 71 = .ok (.iload_n 1, 1) := by decide +kernel
theorem dX9_doTurn_72 : decode cX9_doTurn 72 = .ok (.bipush 64, 2) := by decide +kernel
theorem dX9_doTurn_74 : decode cX9_doTurn 74 = .ok (.idiv, 1) := by decide +kernel
theorem dX9_doTurn_75 : decode cX9_doTurn 75 = .ok (.iconst 5, 1) := by decide +kernel
theorem dX9_doTurn_76 : decode cX9_doTurn 76 = .ok (.irem, 1) := by decide +kernel
theorem dX9_doTurn_77 : decode cX9_doTurn 77 = .ok (.invokevirtual 291, 3) := by decide +kernel
theorem dX9_doTurn_80 : decode cX9_doTurn 80 = .ok (.pop, 1) := by decide +kernel
theorem dX9_doTurn_81 : decode cX9_doTurn 81 = .ok (.goto 76, 3) := by decide +kernel
theorem dX9_doTurn_84 : decode cX9_doTurn 84 = .ok (.aload_n 0, 1) := by decide +kernel
theorem dX9_doTurn_85 : decode cX9_doTurn 85 = .ok (.getfield 26, 3) := by decide +kernel
theorem dX9_doTurn_88 : decode cX9_doTurn 88 = .ok (.iload_n 1, 1) := by decide +kernel
theorem dX9_doTurn_89 : decode cX9_doTurn 89 = .ok (.bipush 8, 2) := by decide +kernel
theorem dX9_doTurn_91 : decode cX9_doTurn 91 = .ok (.idiv, 1) := by decide +kernel
theorem dX9_doTurn_92 : decode cX9_doTurn 92 = .ok (.iconst 4, 1) := by decide +kernel
theorem dX9_doTurn_93 : decode cX9_doTurn 93 = .ok (.irem, 1) := by decide +kernel
theorem dX9_doTurn_94 : decode cX9_doTurn 94 = .ok (.iload_n 1, 1) := by decide +kernel
theorem dX9_doTurn_95 : decode cX9_doTurn 95 = .ok (.bipush 64, 2) := by decide +kernel
theorem dX9_doTurn_97 : decode cX9_doTurn 97 = .ok (.idiv, 1) := by decide +kernel
theorem dX9_doTurn_98 : decode cX9_doTurn 98 = .ok (.bipush 41, 2) := by decide +kernel
theorem dX9_doTurn_100 : decode cX9_doTurn 100 = .ok (.irem, 1) := by decide +kernel
theorem dX9_doTurn_101 : decode cX9_doTurn 101 = .ok (.bipush 20, 2) := by decide +kernel
theorem dX9_doTurn_103 : decode cX9_doTurn 103 = .ok (.isub, 1) := by decide +kernel
theorem dX9_doTurn_104 : decode cX9_doTurn 104 = .ok (.invokevirtual 112, 3) := by decide +kernel
theorem dX9_doTurn_107 : decode cX9_doTurn 107 = .ok (.pop, 1) := by decide +kernel
theorem dX9_doTurn_108 : decode cX9_doTurn 108 = .ok (.goto 49, 3) := by decide +kernel
theorem dX9_doTurn_111 : decode cX9_doTurn 111 = .ok (.aload_n 0, 1) := by decide +kernel
theorem dX9_doTurn_112 : decode cX9_doTurn 112 = .ok (.getfield 26, 3) := by decide +kernel
theorem dX9_doTurn_115 : decode cX9_doTurn 115 = .ok (.iload_n 2, 1) := by decide +kernel
theorem dX9_doTurn_116 : decode cX9_doTurn 116 = .ok (.iload_n 1, 1) := by decide +kernel
theorem dX9_doTurn_117 : decode cX9_doTurn 117 = .ok (.bipush 64, 2) := by decide +kernel
theorem dX9_doTurn_119 : decode cX9_doTurn 119 = .ok (.idiv, 1) := by decide +kernel
theorem dX9_doTurn_120 : decode cX9_doTurn 120 = .ok (.bipush 16, 2) := by decide +kernel
theorem dX9_doTurn_122 : decode cX9_doTurn 122 = .ok (.irem, 1) := by decide +kernel
theorem dX9_doTurn_123 : decode cX9_doTurn 123 = .ok (.iconst 1, 1) := by decide +kernel
theorem dX9_doTurn_124 : decode cX9_doTurn 124 = .ok (.iload_n 1, 1) := by decide +kernel
theorem dX9_doTurn_125 : decode cX9_doTurn 125 = .ok (.sipush 1024, 3) := by decide +kernel
theorem dX9_doTurn_128 : decode cX9_doTurn 128 = .ok (.idiv, 1) := by decide +kernel
theorem dX9_doTurn_129 : decode cX9_doTurn 129 = .ok (.iconst 5, 1) := by decide +kernel
theorem dX9_doTurn_130 : decode cX9_doTurn 130 = .ok (.irem, 1) := by decide +kernel
theorem dX9_doTurn_131 : decode cX9_doTurn 131 = .ok (.iadd, 1) := by decide +kernel
theorem dX9_doTurn_132 : decode cX9_doTurn 132 = .ok (.invokevirtual 276, 3) := by decide +kernel
theorem dX9_doTurn_135 : decode cX9_doTurn 135 = .ok (.pop, 1) := by decide +kernel
theorem dX9_doTurn_136 : decode cX9_doTurn 136 = .ok (.goto 21, 3) := by decide +kernel
theorem dX9_doTurn_139 : decode cX9_doTurn 139 = .ok (.aload_n 0, 1) := by decide +kernel
theorem dX9_doTurn_140 : decode cX9_doTurn 140 = .ok (.getfield 26, 3) := by decide +kernel
theorem dX9_doTurn_143 : decode cX9_doTurn 143 = .ok (.iconst 1, 1) := by decide +kernel
theorem dX9_doTurn_144 : decode cX9_doTurn 144 = .ok (.iload_n 1, 1) := by decide +kernel
theorem dX9_doTurn_145 : decode cX9_doTurn 145 = .ok (.bipush 8, 2) := by decide +kernel
theorem dX9_doTurn_147 : decode cX9_doTurn 147 = .ok (.idiv, 1) := by decide +kernel
theorem dX9_doTurn_148 : decode cX9_doTurn 148 = .ok (.iconst 4, 1) := by decide +kernel
theorem dX9_doTurn_149 : decode cX9_doTurn 149 = .ok (.irem, 1) := by decide +kernel
theorem dX9_doTurn_150 : decode cX9_doTurn 150 = .ok (.iadd, 1) := by decide +kernel
theorem dX9_doTurn_151 : decode cX9_doTurn 151 = .ok (.bipush 40, 2) := by decide +kernel
theorem dX9_doTurn_153 : decode cX9_doTurn 153 = .ok (.invokevirtual 119, 3) := by decide +kernel
theorem dX9_doTurn_156 : decode cX9_doTurn 156 = .ok (.pop, 1) := by decide +kernel
theorem dX9_doTurn_157 : decode cX9_doTurn 157 = .ok (.return_, 1) := by decide +kernel
def bX9_doTurn_0 (w : ab_W) (s_X3_tryOrder : ab_S) (s_X3_tryTransfer : ab_S) (s_X3_tryWind : ab_S) (s_X3_tryChange : ab_S) (s_X3_tryWatches : ab_S) (M : Nat → ab_P) (Kn : Option Value → ab_H → Prop) : ab_P := ab_ild 1 (ab_ci (nI 8) (ab_d2 (fun x y => x / y) (ab_ci (nI 5) (ab_d2 (fun x y => x - x / y * y) (ab_ist 2 (ab_ild 1 (ab_ci (nI 8) (ab_d2 (fun x y => x - x / y * y) (ab_sw [(nI 0, ab_ald 0 (ab_gr w 9 120 (ab_ild 2 (ab_ild 1 (ab_ci (nI 64) (ab_d2 (fun x y => x / y) (ab_ci (nI 40) (ab_d2 (fun x y => x - x / y * y) (ab_ild 1 (ab_ci (nI 4096) (ab_d2 (fun x y => x / y) (ab_ci (nI 5) (ab_d2 (fun x y => x - x / y * y) (ab_cV w 4 3 s_X3_tryOrder (ab_pop (M 157)))))))))))))))), (nI 1, ab_ald 0 (ab_gr w 9 120 (ab_ild 2 (ab_ild 1 (ab_ci (nI 64) (ab_d2 (fun x y => x / y) (ab_ci (nI 5) (ab_d2 (fun x y => x - x / y * y) (ab_cV w 3 3 s_X3_tryTransfer (ab_pop (M 157))))))))))), (nI 2, ab_ald 0 (ab_gr w 9 120 (ab_ild 1 (ab_ci (nI 8) (ab_d2 (fun x y => x / y) (ab_ci (nI 4) (ab_d2 (fun x y => x - x / y * y) (ab_ild 1 (ab_ci (nI 64) (ab_d2 (fun x y => x / y) (ab_ci (nI 41) (ab_d2 (fun x y => x - x / y * y) (ab_ci (nI 20) (ab_b2 (fun x y => x - y) (ab_cV w 3 3 s_X3_tryWind (ab_pop (M 157))))))))))))))))), (nI 3, ab_ald 0 (ab_gr w 9 120 (ab_ild 2 (ab_ild 1 (ab_ci (nI 64) (ab_d2 (fun x y => x / y) (ab_ci (nI 16) (ab_d2 (fun x y => x - x / y * y) (ab_ci (nI 1) (ab_ild 1 (ab_ci (nI 1024) (ab_d2 (fun x y => x / y) (ab_ci (nI 5) (ab_d2 (fun x y => x - x / y * y) (ab_b2 (fun x y => x + y) (ab_cV w 4 3 s_X3_tryChange (ab_pop (M 157))))))))))))))))))] (ab_ald 0 (ab_gr w 9 120 (ab_ci (nI 1) (ab_ild 1 (ab_ci (nI 8) (ab_d2 (fun x y => x / y) (ab_ci (nI 4) (ab_d2 (fun x y => x - x / y * y) (ab_b2 (fun x y => x + y) (ab_ci (nI 40) (ab_cV w 3 3 s_X3_tryWatches (ab_pop (M 157))))))))))))))))))))))
def bX9_doTurn_157 (w : ab_W) (s_X3_tryOrder : ab_S) (s_X3_tryTransfer : ab_S) (s_X3_tryWind : ab_S) (s_X3_tryChange : ab_S) (s_X3_tryWatches : ab_S) (M : Nat → ab_P) (Kn : Option Value → ab_H → Prop) : ab_P := ab_vr Kn
set_option maxRecDepth 20000 in
set_option maxHeartbeats 2000000 in
theorem vc_X9_doTurn {l : Launch} (hl : l.stackTraces = false) {w : ab_W} (hI : ab_Inj w) {mc : Nat} {σ : ab_H} {As : List Value} {Kn : Option Value → ab_H → Prop} {Kx : String → ab_H → Prop} {s_X3_tryOrder : ab_S} (ok_X3_tryOrder : ab_OkN l yX3_tryOrder (Cond.code yX3_tryOrder cX3_tryOrder 4 (some .boolean)) 3 s_X3_tryOrder) {s_X3_tryTransfer : ab_S} (ok_X3_tryTransfer : ab_OkN l yX3_tryTransfer (Cond.code yX3_tryTransfer cX3_tryTransfer 4 (some .boolean)) 4 s_X3_tryTransfer) {s_X3_tryWind : ab_S} (ok_X3_tryWind : ab_OkN l yX3_tryWind (Cond.code yX3_tryWind cX3_tryWind 3 (some .boolean)) 3 s_X3_tryWind) {s_X3_tryChange : ab_S} (ok_X3_tryChange : ab_OkN l yX3_tryChange (Cond.code yX3_tryChange cX3_tryChange 4 (some .boolean)) 3 s_X3_tryChange) {s_X3_tryWatches : ab_S} (ok_X3_tryWatches : ab_OkN l yX3_tryWatches (Cond.code yX3_tryWatches cX3_tryWatches 4 (some .boolean)) 5 s_X3_tryWatches) (hlen : (ab_xl As).length ≤ 3) (h : ∀ M : Nat → ab_P, (∀ L st σ, bX9_doTurn_0 w s_X3_tryOrder s_X3_tryTransfer s_X3_tryWind s_X3_tryChange s_X3_tryWatches M Kn L st σ → M 0 L st σ) → (∀ L st σ, bX9_doTurn_157 w s_X3_tryOrder s_X3_tryTransfer s_X3_tryWind s_X3_tryChange s_X3_tryWatches M Kn L st σ → M 157 L st σ) → M 0 (ab_pd 3 (ab_xl As)) [] σ) : ab_Met l yX9_doTurn (Cond.code yX9_doTurn cX9_doTurn 3 none) 6 mc w σ As Kn Kx := by
  refine ab_enter (by decide) hl hI hlen (by decide) ?_
  intro p e R s m args below meth c C hno hr
  exact h _ (sd_iload_n C (i := 1) dX9_doTurn_0 rfl (sd_bipush C (x := nI 8) dX9_doTurn_1 (by decide +kernel) (sd_idiv C dX9_doTurn_3 (sd_iconst C (x := nI 5) dX9_doTurn_4 (by decide +kernel) (sd_irem C dX9_doTurn_5 (sd_istore_n C (i := 2) dX9_doTurn_6 rfl (by decide) (sd_iload_n C (i := 1) dX9_doTurn_7 rfl (sd_bipush C (x := nI 8) dX9_doTurn_8 (by decide +kernel) (sd_irem C dX9_doTurn_10 (sd_table C (td := 139) dX9_doTurn_11 4 (by decide +kernel : ([nI 0, nI 1, nI 2, nI 3] : List Int32) = _) (by decide) (List.forall_mem_cons.mpr ⟨⟨29, 40, (by decide +kernel : ¬ (nI 0 : Int32).toInt < 0), (by decide +kernel : ¬ (3 : Int) < (nI 0 : Int32).toInt), (by decide +kernel : (#[29, 55, 73, 100] : Array Int)[((nI 0 : Int32).toInt - 0).toNat]? = some 29), (by decide), (sd_aload_n C (i := 0) dX9_doTurn_40 rfl (sd_gr C (ci := 9) (k := 3) (r := (RX9, TX9, 7)) rfl (by decide) rfl wd_295 dX9_doTurn_41 (sd_iload_n C (i := 2) dX9_doTurn_44 rfl (sd_iload_n C (i := 1) dX9_doTurn_45 rfl (sd_bipush C (x := nI 64) dX9_doTurn_46 (by decide +kernel) (sd_idiv C dX9_doTurn_48 (sd_bipush C (x := nI 40) dX9_doTurn_49 (by decide +kernel) (sd_irem C dX9_doTurn_51 (sd_iload_n C (i := 1) dX9_doTurn_52 rfl (sd_sipush C (x := nI 4096) dX9_doTurn_53 (by decide +kernel) (sd_idiv C dX9_doTurn_56 (sd_iconst C (x := nI 5) dX9_doTurn_57 (by decide +kernel) (sd_irem C dX9_doTurn_58 (sd_cV C ok_X3_tryOrder (ci := 3) (row := (RX3, TX3, 13)) rfl rfl ⟨by decide, by decide, wd_513, wd_3, by decide +kernel⟩ wd_510 wd_511 wd_512 dX9_doTurn_59 (sd_pop C dX9_doTurn_62 (sd_goto C dX9_doTurn_63 (tgt := 157) (by decide) (fun _ _ _ h => h)))))))))))))))))⟩, (List.forall_mem_cons.mpr ⟨⟨55, 66, (by decide +kernel : ¬ (nI 1 : Int32).toInt < 0), (by decide +kernel : ¬ (3 : Int) < (nI 1 : Int32).toInt), (by decide +kernel : (#[29, 55, 73, 100] : Array Int)[((nI 1 : Int32).toInt - 0).toNat]? = some 55), (by decide), (sd_aload_n C (i := 0) dX9_doTurn_66 rfl (sd_gr C (ci := 9) (k := 3) (r := (RX9, TX9, 7)) rfl (by decide) rfl wd_295 dX9_doTurn_67 (sd_iload_n C (i := 2) dX9_doTurn_70 rfl (sd_iload_n C (i := 1) dX9_doTurn_71 rfl (sd_bipush C (x := nI 64) dX9_doTurn_72 (by decide +kernel) (sd_idiv C dX9_doTurn_74 (sd_iconst C (x := nI 5) dX9_doTurn_75 (by decide +kernel) (sd_irem C dX9_doTurn_76 (sd_cV C ok_X3_tryTransfer (ci := 3) (row := (RX3, TX3, 13)) rfl rfl ⟨by decide, by decide, wd_851, wd_3, by decide +kernel⟩ wd_848 wd_849 wd_850 dX9_doTurn_77 (sd_pop C dX9_doTurn_80 (sd_goto C dX9_doTurn_81 (tgt := 157) (by decide) (fun _ _ _ h => h))))))))))))⟩, (List.forall_mem_cons.mpr ⟨⟨73, 84, (by decide +kernel : ¬ (nI 2 : Int32).toInt < 0), (by decide +kernel : ¬ (3 : Int) < (nI 2 : Int32).toInt), (by decide +kernel : (#[29, 55, 73, 100] : Array Int)[((nI 2 : Int32).toInt - 0).toNat]? = some 73), (by decide), (sd_aload_n C (i := 0) dX9_doTurn_84 rfl (sd_gr C (ci := 9) (k := 3) (r := (RX9, TX9, 7)) rfl (by decide) rfl wd_295 dX9_doTurn_85 (sd_iload_n C (i := 1) dX9_doTurn_88 rfl (sd_bipush C (x := nI 8) dX9_doTurn_89 (by decide +kernel) (sd_idiv C dX9_doTurn_91 (sd_iconst C (x := nI 4) dX9_doTurn_92 (by decide +kernel) (sd_irem C dX9_doTurn_93 (sd_iload_n C (i := 1) dX9_doTurn_94 rfl (sd_bipush C (x := nI 64) dX9_doTurn_95 (by decide +kernel) (sd_idiv C dX9_doTurn_97 (sd_bipush C (x := nI 41) dX9_doTurn_98 (by decide +kernel) (sd_irem C dX9_doTurn_100 (sd_bipush C (x := nI 20) dX9_doTurn_101 (by decide +kernel) (sd_isub C dX9_doTurn_103 (sd_cV C ok_X3_tryWind (ci := 3) (row := (RX3, TX3, 13)) rfl rfl ⟨by decide, by decide, wd_505, wd_3, by decide +kernel⟩ wd_502 wd_503 wd_504 dX9_doTurn_104 (sd_pop C dX9_doTurn_107 (sd_goto C dX9_doTurn_108 (tgt := 157) (by decide) (fun _ _ _ h => h))))))))))))))))))⟩, (List.forall_mem_cons.mpr ⟨⟨100, 111, (by decide +kernel : ¬ (nI 3 : Int32).toInt < 0), (by decide +kernel : ¬ (3 : Int) < (nI 3 : Int32).toInt), (by decide +kernel : (#[29, 55, 73, 100] : Array Int)[((nI 3 : Int32).toInt - 0).toNat]? = some 100), (by decide), (sd_aload_n C (i := 0) dX9_doTurn_111 rfl (sd_gr C (ci := 9) (k := 3) (r := (RX9, TX9, 7)) rfl (by decide) rfl wd_295 dX9_doTurn_112 (sd_iload_n C (i := 2) dX9_doTurn_115 rfl (sd_iload_n C (i := 1) dX9_doTurn_116 rfl (sd_bipush C (x := nI 64) dX9_doTurn_117 (by decide +kernel) (sd_idiv C dX9_doTurn_119 (sd_bipush C (x := nI 16) dX9_doTurn_120 (by decide +kernel) (sd_irem C dX9_doTurn_122 (sd_iconst C (x := nI 1) dX9_doTurn_123 (by decide +kernel) (sd_iload_n C (i := 1) dX9_doTurn_124 rfl (sd_sipush C (x := nI 1024) dX9_doTurn_125 (by decide +kernel) (sd_idiv C dX9_doTurn_128 (sd_iconst C (x := nI 5) dX9_doTurn_129 (by decide +kernel) (sd_irem C dX9_doTurn_130 (sd_iadd C dX9_doTurn_131 (sd_cV C ok_X3_tryChange (ci := 3) (row := (RX3, TX3, 13)) rfl rfl ⟨by decide, by decide, wd_825, wd_3, by decide +kernel⟩ wd_822 wd_823 wd_824 dX9_doTurn_132 (sd_pop C dX9_doTurn_135 (sd_goto C dX9_doTurn_136 (tgt := 157) (by decide) (fun _ _ _ h => h)))))))))))))))))))⟩, (fun _ h => absurd h List.not_mem_nil)⟩)⟩)⟩)⟩) (by decide) (sd_aload_n C (i := 0) dX9_doTurn_139 rfl (sd_gr C (ci := 9) (k := 3) (r := (RX9, TX9, 7)) rfl (by decide) rfl wd_295 dX9_doTurn_140 (sd_iconst C (x := nI 1) dX9_doTurn_143 (by decide +kernel) (sd_iload_n C (i := 1) dX9_doTurn_144 rfl (sd_bipush C (x := nI 8) dX9_doTurn_145 (by decide +kernel) (sd_idiv C dX9_doTurn_147 (sd_iconst C (x := nI 4) dX9_doTurn_148 (by decide +kernel) (sd_irem C dX9_doTurn_149 (sd_iadd C dX9_doTurn_150 (sd_bipush C (x := nI 40) dX9_doTurn_151 (by decide +kernel) (sd_cV C ok_X3_tryWatches (ci := 3) (row := (RX3, TX3, 13)) rfl rfl ⟨by decide, by decide, wd_534, wd_3, by decide +kernel⟩ wd_531 wd_532 wd_533 dX9_doTurn_153 (sd_pop C dX9_doTurn_156 (fun _ _ _ h => h)))))))))))))))))))))))
    (sd_vr C hr dX9_doTurn_157)
theorem dX9_simulate_0 : decode cX9_simulate 0 = .ok (.iload_n 3, 1) := by decide +kernel
theorem dX9_simulate_1 : decode cX9_simulate 1 = .ok (.iconst 1, 1) := by decide +kernel
theorem dX9_simulate_2 : decode cX9_simulate 2 = .ok (.bipush 40, 2) := by decide +kernel
theorem dX9_simulate_4 : decode cX9_simulate 4 = .ok (.invokestatic 46, 3) := by decide +kernel
theorem dX9_simulate_7 : decode cX9_simulate 7 = .ok (.invokestatic 217, 3) := by decide +kernel
theorem dX9_simulate_10 : decode cX9_simulate 10 = .ok (.aload_n 0, 1) := by decide +kernel
theorem dX9_simulate_11 : decode cX9_simulate 11 = .ok (.getfield 26, 3) := by decide +kernel
theorem dX9_simulate_14 : decode cX9_simulate 14 = .ok (.aload_n 0, 1) := by decide +kernel
theorem dX9_simulate_15 : decode cX9_simulate 15 = .ok (.getfield 19, 3) := by decide +kernel
theorem dX9_simulate_18 : decode cX9_simulate 18 = .ok (.invokevirtual 76, 3) := by decide +kernel
theorem dX9_simulate_21 : decode cX9_simulate 21 = .ok (.lload_n 1, 1) := by decide +kernel
theorem dX9_simulate_22 : decode cX9_simulate 22 = .ok (.lstore 4, 2) := by decide +kernel
theorem dX9_simulate_24 : decode cX9_simulate 24 = .ok (.iconst 0, 1) := by decide +kernel
theorem dX9_simulate_25 : decode cX9_simulate 25 = .ok (.istore 6, 2) := by decide +kernel
theorem dX9_simulate_27 : decode cX9_simulate 27 = .ok (.iload 6, 2) := by decide +kernel
theorem dX9_simulate_29 : decode cX9_simulate 29 = .ok (.iload_n 3, 1) := by decide +kernel
theorem dX9_simulate_30 : decode cX9_simulate 30 = .ok (.if_icmp .ge 31, 3) := by decide +kernel
theorem dX9_simulate_33 : decode cX9_simulate 33 = .ok (.lload 4, 2) := by decide +kernel
theorem dX9_simulate_35 : decode cX9_simulate 35 = .ok (.ldc2_w 352, 3) := by decide +kernel
theorem dX9_simulate_38 : decode cX9_simulate 38 = .ok (.lmul, 1) := by decide +kernel
theorem dX9_simulate_39 : decode cX9_simulate 39 = .ok (.ldc2_w 354, 3) := by decide +kernel
theorem dX9_simulate_42 : decode cX9_simulate 42 = .ok (.ladd, 1) := by decide +kernel
theorem dX9_simulate_43 : decode cX9_simulate 43 = .ok (.lstore 4, 2) := by decide +kernel
theorem dX9_simulate_45 : decode cX9_simulate 45 = .ok (.aload_n 0, 1) := by decide +kernel
theorem dX9_simulate_46 : decode cX9_simulate 46 = .ok (.lload 4, 2) := by decide +kernel
theorem dX9_simulate_48 : decode cX9_simulate 48 = .ok (.bipush 33, 2) := by decide +kernel
theorem dX9_simulate_50 : decode cX9_simulate 50 = .ok (.lushr, 1) := by decide +kernel
theorem dX9_simulate_51 : decode cX9_simulate 51 = .ok (.l2i, 1) := by decide +kernel
theorem dX9_simulate_52 : decode cX9_simulate 52 = .ok (.invokevirtual 356, 3) := by decide +kernel
theorem dX9_simulate_55 : decode cX9_simulate 55 = .ok (.iinc 6 1, 3) := by decide +kernel
theorem dX9_simulate_58 : decode cX9_simulate 58 = .ok (.goto (-31), 3) := by decide +kernel
theorem dX9_simulate_61 : decode cX9_simulate 61 = .ok (.sipush 1000, 3) := by decide +kernel
theorem dX9_simulate_64 : decode cX9_simulate 64 = .ok (.aload_n 0, 1) := by decide +kernel
theorem dX9_simulate_65 : decode cX9_simulate 65 = .ok (.getfield 26, 3) := by decide +kernel
theorem dX9_simulate_68 : decode cX9_simulate 68 = .ok (.getfield 144, 3) := by decide +kernel
theorem dX9_simulate_71 : decode cX9_simulate 71 = .ok (.aload_n 0, 1) := by decide +kernel
theorem dX9_simulate_72 : decode cX9_simulate 72 = .ok (.getfield 19, 3) := by decide +kernel
theorem dX9_simulate_75 : decode cX9_simulate 75 = .ok (.getfield 144, 3) := by decide +kernel
theorem dX9_simulate_78 : decode cX9_simulate 78 = .ok (.isub, 1) := by decide +kernel
theorem dX9_simulate_79 : decode cX9_simulate 79 = .ok (.imul, 1) := by decide +kernel
theorem dX9_simulate_80 : decode cX9_simulate 80 = .ok (.aload_n 0, 1) := by decide +kernel
theorem dX9_simulate_81 : decode cX9_simulate 81 = .ok (.getfield 26, 3) := by decide +kernel
theorem dX9_simulate_84 : decode cX9_simulate 84 = .ok (.getfield 147, 3) := by decide +kernel
theorem dX9_simulate_87 : decode cX9_simulate 87 = .ok (.getfield 151, 3) := by decide +kernel
theorem dX9_simulate_90 : decode cX9_simulate 90 = .ok (.iadd, 1) := by decide +kernel
theorem dX9_simulate_91 : decode cX9_simulate 91 = .ok (.aload_n 0, 1) := by decide +kernel
theorem dX9_simulate_92 : decode cX9_simulate 92 = .ok (.getfield 19, 3) := by decide +kernel
theorem dX9_simulate_95 : decode cX9_simulate 95 = .ok (.getfield 147, 3) := by decide +kernel
theorem dX9_simulate_98 : decode cX9_simulate 98 = .ok (.getfield 151, 3) := by decide +kernel
theorem dX9_simulate_101 : decode cX9_simulate 101 = .ok (.isub, 1) := by decide +kernel
theorem dX9_simulate_102 : decode cX9_simulate 102 = .ok (.ireturn, 1) := by decide +kernel
def bX9_simulate_0 (w : ab_W) (mc : Nat) (s_X9_within : ab_S) (s_X9_need : ab_S) (s_X3_copyFrom : ab_S) (s_X9_doTurn : ab_S) (x_X9_need : ab_SX) (M : Nat → ab_P) (Kn : Option Value → ab_H → Prop) (Kx : String → ab_H → Prop) : ab_P := ab_ild 3 (ab_ci (nI 1) (ab_ci (nI 40) (ab_cN w 3 s_X9_within (ab_cSX w mc 1 s_X9_need x_X9_need Kx (ab_ald 0 (ab_gr w 9 120 (ab_ald 0 (ab_gr w 9 40 (ab_cV w 2 3 s_X3_copyFrom (ab_lld 1 (ab_lst 4 (ab_ci (nI 0) (ab_ist 6 (M 27))))))))))))))
def bX9_simulate_27 (w : ab_W) (mc : Nat) (s_X9_within : ab_S) (s_X9_need : ab_S) (s_X3_copyFrom : ab_S) (s_X9_doTurn : ab_S) (x_X9_need : ab_SX) (M : Nat → ab_P) (Kn : Option Value → ab_H → Prop) (Kx : String → ab_H → Prop) : ab_P := ab_ild 6 (ab_ild 3 (ab_if2 (fun x y => y ≤ x) (ab_ci (nI 1000) (ab_ald 0 (ab_gr w 9 120 (ab_gf w 3 9 (ab_ald 0 (ab_gr w 9 40 (ab_gf w 3 9 (ab_b2 (fun x y => x - y) (ab_b2 (fun x y => x * y) (ab_ald 0 (ab_gr w 9 120 (ab_gr w 3 23 (ab_gf w 1 0 (ab_b2 (fun x y => x + y) (ab_ald 0 (ab_gr w 9 40 (ab_gr w 3 23 (ab_gf w 1 0 (ab_b2 (fun x y => x - y) (ab_ir Kn)))))))))))))))))))) (ab_lld 4 (ab_cl (6364136223846793005) (ab_l2 (fun x y => x * y) (ab_cl (1442695040888963407) (ab_l2 (fun x y => x + y) (ab_lst 4 (ab_ald 0 (ab_lld 4 (ab_ci (nI 33) (ab_lsh (fun x y => (x.toUInt64 >>> (y.toInt64.toUInt64 &&& Int64.toUInt64 63)).toInt64) (ab_l2i (ab_cV w 2 9 s_X9_doTurn (ab_inc 6 (nI 1) (M 27))))))))))))))))
set_option maxRecDepth 20000 in
set_option maxHeartbeats 2000000 in
theorem vc_X9_simulate {l : Launch} (hl : l.stackTraces = false) {w : ab_W} (hI : ab_Inj w) {mc : Nat} {σ : ab_H} {As : List Value} {Kn : Option Value → ab_H → Prop} {Kx : String → ab_H → Prop} {s_X9_within : ab_S} (ok_X9_within : ab_OkN l yX9_within (Cond.code yX9_within cX9_within 3 (some .boolean)) 1 s_X9_within) {s_X9_need : ab_S} (ok_X9_need : ab_OkN l yX9_need (Cond.code yX9_need cX9_need 1 none) 6 s_X9_need) {s_X3_copyFrom : ab_S} (ok_X3_copyFrom : ab_OkN l yX3_copyFrom (Cond.code yX3_copyFrom cX3_copyFrom 2 none) 4 s_X3_copyFrom) {s_X9_doTurn : ab_S} (ok_X9_doTurn : ab_OkN l yX9_doTurn (Cond.code yX9_doTurn cX9_doTurn 3 none) 6 s_X9_doTurn) {x_X9_need : ab_SX} (okx_X9_need : ab_OkX l yX9_need (Cond.code yX9_need cX9_need 1 none) 6 x_X9_need) (hlen : (ab_xl As).length ≤ 7) (h : ∀ M : Nat → ab_P, (∀ L st σ, bX9_simulate_0 w mc s_X9_within s_X9_need s_X3_copyFrom s_X9_doTurn x_X9_need M Kn Kx L st σ → M 0 L st σ) → (∀ L st σ, bX9_simulate_27 w mc s_X9_within s_X9_need s_X3_copyFrom s_X9_doTurn x_X9_need M Kn Kx L st σ → M 27 L st σ) → M 0 (ab_pd 7 (ab_xl As)) [] σ) : ab_Met l yX9_simulate (Cond.code yX9_simulate cX9_simulate 7 (some .int)) 7 mc w σ As Kn Kx := by
  refine ab_enter (by decide) hl hI hlen (by decide) ?_
  intro p e R s m args below meth c C hno hr
  exact h _ (sd_iload_n C (i := 3) dX9_simulate_0 rfl (sd_iconst C (x := nI 1) dX9_simulate_1 (by decide +kernel) (sd_bipush C (x := nI 40) dX9_simulate_2 (by decide +kernel) (sd_cS C ok_X9_within ⟨by decide, by decide, wd_477, wd_1, by decide +kernel⟩ wd_618 wd_476 dX9_simulate_4 (sd_cSX C hno ok_X9_need okx_X9_need ⟨by decide, by decide, wd_694, wd_1, by decide +kernel⟩ wd_692 wd_693 dX9_simulate_7 (sd_aload_n C (i := 0) dX9_simulate_10 rfl (sd_gr C (ci := 9) (k := 3) (r := (RX9, TX9, 7)) rfl (by decide) rfl wd_295 dX9_simulate_11 (sd_aload_n C (i := 0) dX9_simulate_14 rfl (sd_gr C (ci := 9) (k := 1) (r := (RX9, TX9, 7)) rfl (by decide) rfl wd_293 dX9_simulate_15 (sd_cV C ok_X3_copyFrom (ci := 3) (row := (RX3, TX3, 13)) rfl rfl ⟨by decide, by decide, wd_422, wd_3, by decide +kernel⟩ wd_419 wd_420 wd_421 dX9_simulate_18 (sd_lload_n C (i := 1) dX9_simulate_21 rfl (sd_lstore C dX9_simulate_22 (by decide) (sd_iconst C (x := nI 0) dX9_simulate_24 (by decide +kernel) (sd_istore C dX9_simulate_25 (by decide) (fun _ _ _ h => h)))))))))))))))
    (sd_iload C dX9_simulate_27 (sd_iload_n C (i := 3) dX9_simulate_29 rfl (sd_icmp_ge C dX9_simulate_30 (tgt := 61) (by decide) (sd_sipush C (x := nI 1000) dX9_simulate_61 (by decide +kernel) (sd_aload_n C (i := 0) dX9_simulate_64 rfl (sd_gr C (ci := 9) (k := 3) (r := (RX9, TX9, 7)) rfl (by decide) rfl wd_295 dX9_simulate_65 (sd_gf C (ci := 3) (k := 9) (r := (RX3, TX3, 13)) rfl (by decide) rfl wd_222 dX9_simulate_68 (sd_aload_n C (i := 0) dX9_simulate_71 rfl (sd_gr C (ci := 9) (k := 1) (r := (RX9, TX9, 7)) rfl (by decide) rfl wd_293 dX9_simulate_72 (sd_gf C (ci := 3) (k := 9) (r := (RX3, TX3, 13)) rfl (by decide) rfl wd_222 dX9_simulate_75 (sd_isub C dX9_simulate_78 (sd_imul C dX9_simulate_79 (sd_aload_n C (i := 0) dX9_simulate_80 rfl (sd_gr C (ci := 9) (k := 3) (r := (RX9, TX9, 7)) rfl (by decide) rfl wd_295 dX9_simulate_81 (sd_gr C (ci := 3) (k := 4) (r := (RX3, TX3, 13)) rfl (by decide) rfl wd_212 dX9_simulate_84 (sd_gf C (ci := 1) (k := 0) (r := (RX1, TX1, 5)) rfl (by decide) rfl wd_187 dX9_simulate_87 (sd_iadd C dX9_simulate_90 (sd_aload_n C (i := 0) dX9_simulate_91 rfl (sd_gr C (ci := 9) (k := 1) (r := (RX9, TX9, 7)) rfl (by decide) rfl wd_293 dX9_simulate_92 (sd_gr C (ci := 3) (k := 4) (r := (RX3, TX3, 13)) rfl (by decide) rfl wd_212 dX9_simulate_95 (sd_gf C (ci := 1) (k := 0) (r := (RX1, TX1, 5)) rfl (by decide) rfl wd_187 dX9_simulate_98 (sd_isub C dX9_simulate_101 (sd_ir C hr dX9_simulate_102)))))))))))))))))))) (sd_lload C dX9_simulate_33 (sd_ldc2 C (x := 6364136223846793005) dX9_simulate_35 wd_953 (sd_lmul C dX9_simulate_38 (sd_ldc2 C (x := 1442695040888963407) dX9_simulate_39 wd_954 (sd_ladd C dX9_simulate_42 (sd_lstore C dX9_simulate_43 (by decide) (sd_aload_n C (i := 0) dX9_simulate_45 rfl (sd_lload C dX9_simulate_46 (sd_bipush C (x := nI 33) dX9_simulate_48 (by decide +kernel) (sd_lushr C dX9_simulate_50 (sd_l2i C dX9_simulate_51 (sd_cV C ok_X9_doTurn (ci := 9) (row := (RX9, TX9, 7)) rfl rfl ⟨by decide, by decide, wd_958, wd_1, by decide +kernel⟩ wd_955 wd_957 ws_14 dX9_simulate_52 (sd_iinc C (x := nI 1) dX9_simulate_55 (by decide +kernel) (by decide) (sd_goto C dX9_simulate_58 (tgt := 27) (by decide) (fun _ _ _ h => h))))))))))))))))))
theorem dX9_slotOf_0 : decode cX9_slotOf 0 = .ok (.iload_n 1, 1) := by decide +kernel
theorem dX9_slotOf_1 : decode cX9_slotOf 1 = .ok (.iconst 0, 1) := by decide +kernel
theorem dX9_slotOf_2 : decode cX9_slotOf 2 = .ok (.iconst 1, 1) := by decide +kernel
theorem dX9_slotOf_3 : decode cX9_slotOf 3 = .ok (.invokestatic 46, 3) := by decide +kernel
theorem dX9_slotOf_6 : decode cX9_slotOf 6 = .ok (.ifCond .ne 14, 3) := by decide +kernel
theorem dX9_slotOf_9 : decode cX9_slotOf 9 = .ok (.new 229, 3) := by decide +kernel
theorem dX9_slotOf_12 : decode cX9_slotOf 12 = .ok (.dup, 1) := by decide +kernel
theorem dX9_slotOf_13 : decode cX9_slotOf 13 = .ok (.ldc_w 366, 3) := by decide +kernel
theorem dX9_slotOf_16 : decode cX9_slotOf 16 = .ok (.invokespecial 233, 3) := by decide +kernel
theorem dX9_slotOf_19 : decode cX9_slotOf 19 = .ok (.athrow, 1) := by decide +kernel
theorem dX9_slotOf_20 : decode cX9_slotOf 20 = .ok (.iload_n 1, 1) := by decide +kernel
theorem dX9_slotOf_21 : decode cX9_slotOf 21 = .ok (.ifCond .ne 10, 3) := by decide +kernel
theorem dX9_slotOf_24 : decode cX9_slotOf 24 = .ok (.aload_n 0, 1) := by decide +kernel
theorem dX9_slotOf_25 : decode cX9_slotOf 25 = .ok (.getfield 39, 3) := by decide +kernel
theorem dX9_slotOf_28 : decode cX9_slotOf 28 = .ok (.goto 7, 3) := by decide +kernel
theorem dX9_slotOf_31 : decode cX9_slotOf 31 = .ok (.aload_n 0, 1) := by decide +kernel
theorem dX9_slotOf_32 : decode cX9_slotOf 32 = .ok (.getfield 43, 3) := by decide +kernel
theorem dX9_slotOf_35 : decode cX9_slotOf 35 = .ok (.areturn, 1) := by decide +kernel
def bX9_slotOf_0 (w : ab_W) (mc : Nat) (s_X9_within : ab_S) (M : Nat → ab_P) (Kn : Option Value → ab_H → Prop) (Kx : String → ab_H → Prop) : ab_P := ab_ild 1 (ab_ci (nI 0) (ab_ci (nI 1) (ab_cN w 3 s_X9_within (ab_if1 (fun x => ¬ x = 0) (ab_ild 1 (ab_if1 (fun x => ¬ x = 0) (ab_ald 0 (ab_gr w 9 759 (M 35))) (ab_ald 0 (ab_gr w 9 719 (M 35))))) (ab_th mc "java/lang/IndexOutOfBoundsException" Kx)))))
def bX9_slotOf_35 (w : ab_W) (mc : Nat) (s_X9_within : ab_S) (M : Nat → ab_P) (Kn : Option Value → ab_H → Prop) (Kx : String → ab_H → Prop) : ab_P := ab_ar Kn
set_option maxRecDepth 20000 in
set_option maxHeartbeats 2000000 in
theorem vc_X9_slotOf {l : Launch} (hl : l.stackTraces = false) {w : ab_W} (hI : ab_Inj w) {mc : Nat} {σ : ab_H} {As : List Value} {Kn : Option Value → ab_H → Prop} {Kx : String → ab_H → Prop} {s_X9_within : ab_S} (ok_X9_within : ab_OkN l yX9_within (Cond.code yX9_within cX9_within 3 (some .boolean)) 1 s_X9_within) (hlen : (ab_xl As).length ≤ 2) (h : ∀ M : Nat → ab_P, (∀ L st σ, bX9_slotOf_0 w mc s_X9_within M Kn Kx L st σ → M 0 L st σ) → (∀ L st σ, bX9_slotOf_35 w mc s_X9_within M Kn Kx L st σ → M 35 L st σ) → M 0 (ab_pd 2 (ab_xl As)) [] σ) : ab_Met l yX9_slotOf (Cond.code yX9_slotOf cX9_slotOf 2 (some (.object "SondeStations$Slot"))) 6 mc w σ As Kn Kx := by
  refine ab_enter (by decide) hl hI hlen (by decide) ?_
  intro p e R s m args below meth c C hno hr
  exact h _ (sd_iload_n C (i := 1) dX9_slotOf_0 rfl (sd_iconst C (x := nI 0) dX9_slotOf_1 (by decide +kernel) (sd_iconst C (x := nI 1) dX9_slotOf_2 (by decide +kernel) (sd_cS C ok_X9_within ⟨by decide, by decide, wd_477, wd_1, by decide +kernel⟩ wd_618 wd_476 dX9_slotOf_3 (sd_if_ne C dX9_slotOf_6 (tgt := 20) (by decide) (sd_iload_n C (i := 1) dX9_slotOf_20 rfl (sd_if_ne C dX9_slotOf_21 (tgt := 31) (by decide) (sd_aload_n C (i := 0) dX9_slotOf_31 rfl (sd_gr C (ci := 9) (k := 6) (r := (RX9, TX9, 7)) rfl (by decide) rfl wd_298 dX9_slotOf_32 (fun _ _ _ h => h))) (sd_aload_n C (i := 0) dX9_slotOf_24 rfl (sd_gr C (ci := 9) (k := 5) (r := (RX9, TX9, 7)) rfl (by decide) rfl wd_297 dX9_slotOf_25 (sd_goto C dX9_slotOf_28 (tgt := 35) (by decide) (fun _ _ _ h => h)))))) (sd_thW C hno (text := "no such save slot") (by decide) tw_229_233 wd_619 wd_15 (by decide +kernel) (by decide) dX9_slotOf_9 dX9_slotOf_12 dX9_slotOf_13 dX9_slotOf_16 dX9_slotOf_19))))))
    (sd_ar C hr dX9_slotOf_35)
theorem dX9_save_0 : decode cX9_save 0 = .ok (.aload_n 0, 1) := by decide +kernel
theorem dX9_save_1 : decode cX9_save 1 = .ok (.iload_n 1, 1) := by decide +kernel
theorem dX9_save_2 : decode cX9_save 2 = .ok (.invokevirtual 359, 3) := by decide +kernel
theorem dX9_save_5 : decode cX9_save 5 = .ok (.astore_n 2, 1) := by decide +kernel
theorem dX9_save_6 : decode cX9_save 6 = .ok (.aload_n 2, 1) := by decide +kernel
theorem dX9_save_7 : decode cX9_save 7 = .ok (.getfield 363, 3) := by decide +kernel
theorem dX9_save_10 : decode cX9_save 10 = .ok (.aload_n 0, 1) := by decide +kernel
theorem dX9_save_11 : decode cX9_save 11 = .ok (.getfield 19, 3) := by decide +kernel
theorem dX9_save_14 : decode cX9_save 14 = .ok (.invokevirtual 76, 3) := by decide +kernel
theorem dX9_save_17 : decode cX9_save 17 = .ok (.aload_n 2, 1) := by decide +kernel
theorem dX9_save_18 : decode cX9_save 18 = .ok (.iconst 1, 1) := by decide +kernel
theorem dX9_save_19 : decode cX9_save 19 = .ok (.putfield 83, 3) := by decide +kernel
theorem dX9_save_22 : decode cX9_save 22 = .ok (.aload_n 0, 1) := by decide +kernel
theorem dX9_save_23 : decode cX9_save 23 = .ok (.getfield 19, 3) := by decide +kernel
theorem dX9_save_26 : decode cX9_save 26 = .ok (.getfield 138, 3) := by decide +kernel
theorem dX9_save_29 : decode cX9_save 29 = .ok (.ireturn, 1) := by decide +kernel
def bX9_save_0 (w : ab_W) (mc : Nat) (s_X9_slotOf : ab_S) (s_X3_copyFrom : ab_S) (x_X9_slotOf : ab_SX) (M : Nat → ab_P) (Kn : Option Value → ab_H → Prop) (Kx : String → ab_H → Prop) : ab_P := ab_ald 0 (ab_ild 1 (ab_cVX w mc 2 9 s_X9_slotOf x_X9_slotOf Kx (ab_ast 2 (ab_ald 2 (ab_gr w 6 1 (ab_ald 0 (ab_gr w 9 40 (ab_cV w 2 3 s_X3_copyFrom (ab_ald 2 (ab_ci (nI 1) (ab_pz w 6 1 (ab_ald 0 (ab_gr w 9 40 (ab_gf w 3 7 (ab_ir Kn)))))))))))))))
set_option maxRecDepth 20000 in
set_option maxHeartbeats 2000000 in
theorem vc_X9_save {l : Launch} (hl : l.stackTraces = false) {w : ab_W} (hI : ab_Inj w) {mc : Nat} {σ : ab_H} {As : List Value} {Kn : Option Value → ab_H → Prop} {Kx : String → ab_H → Prop} {s_X9_slotOf : ab_S} (ok_X9_slotOf : ab_OkN l yX9_slotOf (Cond.code yX9_slotOf cX9_slotOf 2 (some (.object "SondeStations$Slot"))) 6 s_X9_slotOf) {s_X3_copyFrom : ab_S} (ok_X3_copyFrom : ab_OkN l yX3_copyFrom (Cond.code yX3_copyFrom cX3_copyFrom 2 none) 4 s_X3_copyFrom) {x_X9_slotOf : ab_SX} (okx_X9_slotOf : ab_OkX l yX9_slotOf (Cond.code yX9_slotOf cX9_slotOf 2 (some (.object "SondeStations$Slot"))) 6 x_X9_slotOf) (hlen : (ab_xl As).length ≤ 3) (h : ∀ M : Nat → ab_P, (∀ L st σ, bX9_save_0 w mc s_X9_slotOf s_X3_copyFrom x_X9_slotOf M Kn Kx L st σ → M 0 L st σ) → M 0 (ab_pd 3 (ab_xl As)) [] σ) : ab_Met l yX9_save (Cond.code yX9_save cX9_save 3 (some .int)) 7 mc w σ As Kn Kx := by
  refine ab_enter (by decide) hl hI hlen (by decide) ?_
  intro p e R s m args below meth c C hno hr
  exact h _ (sd_aload_n C (i := 0) dX9_save_0 rfl (sd_iload_n C (i := 1) dX9_save_1 rfl (sd_cVX C hno ok_X9_slotOf okx_X9_slotOf (ci := 9) (row := (RX9, TX9, 7)) rfl rfl ⟨by decide, by decide, wd_617, wd_1, by decide +kernel⟩ wd_614 wd_616 ws_9 dX9_save_2 (sd_astore_n C (i := 2) dX9_save_5 rfl (by decide) (sd_aload_n C (i := 2) dX9_save_6 rfl (sd_gr C (ci := 6) (k := 0) (r := (RX6, TX6, 2)) rfl (by decide) rfl wd_285 dX9_save_7 (sd_aload_n C (i := 0) dX9_save_10 rfl (sd_gr C (ci := 9) (k := 1) (r := (RX9, TX9, 7)) rfl (by decide) rfl wd_293 dX9_save_11 (sd_cV C ok_X3_copyFrom (ci := 3) (row := (RX3, TX3, 13)) rfl rfl ⟨by decide, by decide, wd_422, wd_3, by decide +kernel⟩ wd_419 wd_420 wd_421 dX9_save_14 (sd_aload_n C (i := 2) dX9_save_17 rfl (sd_iconst C (x := nI 1) dX9_save_18 (by decide +kernel) (sd_pz C (ci := 6) (k := 1) (r := (RX6, TX6, 2)) rfl (by decide) rfl rfl (by decide +kernel) wd_286 dX9_save_19 (sd_aload_n C (i := 0) dX9_save_22 rfl (sd_gr C (ci := 9) (k := 1) (r := (RX9, TX9, 7)) rfl (by decide) rfl wd_293 dX9_save_23 (sd_gf C (ci := 3) (k := 7) (r := (RX3, TX3, 13)) rfl (by decide) rfl wd_218 dX9_save_26 (sd_ir C hr dX9_save_29))))))))))))))))
theorem dX9_restore_0 : decode cX9_restore 0 = .ok (.aload_n 0, 1) := by decide +kernel
theorem dX9_restore_1 : decode cX9_restore 1 = .ok (.iload_n 1, 1) := by decide +kernel
theorem dX9_restore_2 : decode cX9_restore 2 = .ok (.invokevirtual 359, 3) := by decide +kernel
theorem dX9_restore_5 : decode cX9_restore 5 = .ok (.astore_n 2, 1) := by decide +kernel
theorem dX9_restore_6 : decode cX9_restore 6 = .ok (.aload_n 2, 1) := by decide +kernel
theorem dX9_restore_7 : decode cX9_restore 7 = .ok (.getfield 83, 3) := by decide +kernel
theorem dX9_restore_10 : decode cX9_restore 10 = .ok (.ifCond .ne 14, 3) := by decide +kernel
theorem dX9_restore_13 : decode cX9_restore 13 = .ok (.new 61, 3) := by decide +kernel
theorem dX9_restore_16 : decode cX9_restore 16 = .ok (.dup, 1) := by decide +kernel
theorem dX9_restore_17 : decode cX9_restore 17 = .ok (.ldc_w 364, 3) := by decide +kernel
theorem dX9_restore_20 : decode cX9_restore 20 = .ok (.invokespecial 65, 3) := by decide +kernel
theorem dX9_restore_23 : decode cX9_restore 23 = .ok (.athrow, 1) := by decide +kernel
theorem dX9_restore_24 : decode cX9_restore 24 = .ok (.aload_n 0, 1) := by decide +kernel
theorem dX9_restore_25 : decode cX9_restore 25 = .ok (.getfield 19, 3) := by decide +kernel
theorem dX9_restore_28 : decode cX9_restore 28 = .ok (.aload_n 2, 1) := by decide +kernel
theorem dX9_restore_29 : decode cX9_restore 29 = .ok (.getfield 363, 3) := by decide +kernel
theorem dX9_restore_32 : decode cX9_restore 32 = .ok (.invokevirtual 76, 3) := by decide +kernel
theorem dX9_restore_35 : decode cX9_restore 35 = .ok (.aload_n 0, 1) := by decide +kernel
theorem dX9_restore_36 : decode cX9_restore 36 = .ok (.getfield 32, 3) := by decide +kernel
theorem dX9_restore_39 : decode cX9_restore 39 = .ok (.invokevirtual 80, 3) := by decide +kernel
theorem dX9_restore_42 : decode cX9_restore 42 = .ok (.aload_n 0, 1) := by decide +kernel
theorem dX9_restore_43 : decode cX9_restore 43 = .ok (.getfield 19, 3) := by decide +kernel
theorem dX9_restore_46 : decode cX9_restore 46 = .ok (.getfield 138, 3) := by decide +kernel
theorem dX9_restore_49 : decode cX9_restore 49 = .ok (.ireturn, 1) := by decide +kernel
def bX9_restore_0 (w : ab_W) (mc : Nat) (s_X9_slotOf : ab_S) (s_X3_copyFrom : ab_S) (s_X2_forget : ab_S) (x_X9_slotOf : ab_SX) (M : Nat → ab_P) (Kn : Option Value → ab_H → Prop) (Kx : String → ab_H → Prop) : ab_P := ab_ald 0 (ab_ild 1 (ab_cVX w mc 2 9 s_X9_slotOf x_X9_slotOf Kx (ab_ast 2 (ab_ald 2 (ab_gf w 6 1 (ab_if1 (fun x => ¬ x = 0) (ab_ald 0 (ab_gr w 9 40 (ab_ald 2 (ab_gr w 6 1 (ab_cV w 2 3 s_X3_copyFrom (ab_ald 0 (ab_gr w 9 4 (ab_cV w 1 2 s_X2_forget (ab_ald 0 (ab_gr w 9 40 (ab_gf w 3 7 (ab_ir Kn)))))))))))) (ab_th mc "java/lang/IllegalStateException" Kx)))))))
set_option maxRecDepth 20000 in
set_option maxHeartbeats 2000000 in
theorem vc_X9_restore {l : Launch} (hl : l.stackTraces = false) {w : ab_W} (hI : ab_Inj w) {mc : Nat} {σ : ab_H} {As : List Value} {Kn : Option Value → ab_H → Prop} {Kx : String → ab_H → Prop} {s_X9_slotOf : ab_S} (ok_X9_slotOf : ab_OkN l yX9_slotOf (Cond.code yX9_slotOf cX9_slotOf 2 (some (.object "SondeStations$Slot"))) 6 s_X9_slotOf) {s_X3_copyFrom : ab_S} (ok_X3_copyFrom : ab_OkN l yX3_copyFrom (Cond.code yX3_copyFrom cX3_copyFrom 2 none) 4 s_X3_copyFrom) {s_X2_forget : ab_S} (ok_X2_forget : ab_OkN l yX2_forget (Cond.code yX2_forget cX2_forget 1 none) 1 s_X2_forget) {x_X9_slotOf : ab_SX} (okx_X9_slotOf : ab_OkX l yX9_slotOf (Cond.code yX9_slotOf cX9_slotOf 2 (some (.object "SondeStations$Slot"))) 6 x_X9_slotOf) (hlen : (ab_xl As).length ≤ 3) (h : ∀ M : Nat → ab_P, (∀ L st σ, bX9_restore_0 w mc s_X9_slotOf s_X3_copyFrom s_X2_forget x_X9_slotOf M Kn Kx L st σ → M 0 L st σ) → M 0 (ab_pd 3 (ab_xl As)) [] σ) : ab_Met l yX9_restore (Cond.code yX9_restore cX9_restore 3 (some .int)) 7 mc w σ As Kn Kx := by
  refine ab_enter (by decide) hl hI hlen (by decide) ?_
  intro p e R s m args below meth c C hno hr
  exact h _ (sd_aload_n C (i := 0) dX9_restore_0 rfl (sd_iload_n C (i := 1) dX9_restore_1 rfl (sd_cVX C hno ok_X9_slotOf okx_X9_slotOf (ci := 9) (row := (RX9, TX9, 7)) rfl rfl ⟨by decide, by decide, wd_617, wd_1, by decide +kernel⟩ wd_614 wd_616 ws_9 dX9_restore_2 (sd_astore_n C (i := 2) dX9_restore_5 rfl (by decide) (sd_aload_n C (i := 2) dX9_restore_6 rfl (sd_gf C (ci := 6) (k := 1) (r := (RX6, TX6, 2)) rfl (by decide) rfl wd_286 dX9_restore_7 (sd_if_ne C dX9_restore_10 (tgt := 24) (by decide) (sd_aload_n C (i := 0) dX9_restore_24 rfl (sd_gr C (ci := 9) (k := 1) (r := (RX9, TX9, 7)) rfl (by decide) rfl wd_293 dX9_restore_25 (sd_aload_n C (i := 2) dX9_restore_28 rfl (sd_gr C (ci := 6) (k := 0) (r := (RX6, TX6, 2)) rfl (by decide) rfl wd_285 dX9_restore_29 (sd_cV C ok_X3_copyFrom (ci := 3) (row := (RX3, TX3, 13)) rfl rfl ⟨by decide, by decide, wd_422, wd_3, by decide +kernel⟩ wd_419 wd_420 wd_421 dX9_restore_32 (sd_aload_n C (i := 0) dX9_restore_35 rfl (sd_gr C (ci := 9) (k := 4) (r := (RX9, TX9, 7)) rfl (by decide) rfl wd_296 dX9_restore_36 (sd_cV C ok_X2_forget (ci := 2) (row := (RX2, TX2, 3)) rfl rfl ⟨by decide, by decide, wd_460, wd_9, by decide +kernel⟩ wd_457 wd_458 wd_459 dX9_restore_39 (sd_aload_n C (i := 0) dX9_restore_42 rfl (sd_gr C (ci := 9) (k := 1) (r := (RX9, TX9, 7)) rfl (by decide) rfl wd_293 dX9_restore_43 (sd_gf C (ci := 3) (k := 7) (r := (RX3, TX3, 13)) rfl (by decide) rfl wd_218 dX9_restore_46 (sd_ir C hr dX9_restore_49)))))))))))) (sd_thW C hno (text := "nothing has been saved in the slot") (by decide) tw_61_65 wd_351 wd_18 (by decide +kernel) (by decide) dX9_restore_13 dX9_restore_16 dX9_restore_17 dX9_restore_20 dX9_restore_23))))))))
