theorem dX1_copyFrom_0 : decode cX1_copyFrom 0 = .ok (.aload_n 0, 1) := by decide +kernel
theorem dX1_copyFrom_1 : decode cX1_copyFrom 1 = .ok (.aload_n 1, 1) := by decide +kernel
theorem dX1_copyFrom_2 : decode cX1_copyFrom 2 = .ok (.getfield 21, 3) := by decide +kernel
theorem dX1_copyFrom_5 : decode cX1_copyFrom 5 = .ok (.putfield 21, 3) := by decide +kernel
theorem dX1_copyFrom_8 : decode cX1_copyFrom 8 = .ok (.aload_n 0, 1) := by decide +kernel
theorem dX1_copyFrom_9 : decode cX1_copyFrom 9 = .ok (.aload_n 1, 1) := by decide +kernel
theorem dX1_copyFrom_10 : decode cX1_copyFrom 10 = .ok (.getfield 25, 3) := by decide +kernel
theorem dX1_copyFrom_13 : decode cX1_copyFrom 13 = .ok (.putfield 25, 3) := by decide +kernel
theorem dX1_copyFrom_16 : decode cX1_copyFrom 16 = .ok (.aload_n 1, 1) := by decide +kernel
theorem dX1_copyFrom_17 : decode cX1_copyFrom 17 = .ok (.getfield 9, 3) := by decide +kernel
theorem dX1_copyFrom_20 : decode cX1_copyFrom 20 = .ok (.aload_n 0, 1) := by decide +kernel
theorem dX1_copyFrom_21 : decode cX1_copyFrom 21 = .ok (.getfield 9, 3) := by decide +kernel
theorem dX1_copyFrom_24 : decode cX1_copyFrom 24 = .ok (.invokestatic 28, 3) := by decide +kernel
theorem dX1_copyFrom_27 : decode cX1_copyFrom 27 = .ok (.aload_n 1, 1) := by decide +kernel
theorem dX1_copyFrom_28 : decode cX1_copyFrom 28 = .ok (.getfield 15, 3) := by decide +kernel
theorem dX1_copyFrom_31 : decode cX1_copyFrom 31 = .ok (.aload_n 0, 1) := by decide +kernel
theorem dX1_copyFrom_32 : decode cX1_copyFrom 32 = .ok (.getfield 15, 3) := by decide +kernel
theorem dX1_copyFrom_35 : decode cX1_copyFrom 35 = .ok (.invokestatic 28, 3) := by decide +kernel
theorem dX1_copyFrom_38 : decode cX1_copyFrom 38 = .ok (.aload_n 1, 1) := by decide +kernel
theorem dX1_copyFrom_39 : decode cX1_copyFrom 39 = .ok (.getfield 18, 3) := by decide +kernel
theorem dX1_copyFrom_42 : decode cX1_copyFrom 42 = .ok (.aload_n 0, 1) := by decide +kernel
theorem dX1_copyFrom_43 : decode cX1_copyFrom 43 = .ok (.getfield 18, 3) := by decide +kernel
theorem dX1_copyFrom_46 : decode cX1_copyFrom 46 = .ok (.invokestatic 28, 3) := by decide +kernel
theorem dX1_copyFrom_49 : decode cX1_copyFrom 49 = .ok (.return_, 1) := by decide +kernel
def bX1_copyFrom_0 (w : ab_W) (s_X9_copyRow : ab_S) (M : Nat → ab_P) (Kn : Option Value → ab_H → Prop) : ab_P := ab_ald 0 (ab_ald 1 (ab_gf w 1 0 (ab_pf w 1 0 (ab_ald 0 (ab_ald 1 (ab_gf w 1 1 (ab_pf w 1 1 (ab_ald 1 (ab_gr w 1 1 (ab_ald 0 (ab_gr w 1 1 (ab_cN w 2 s_X9_copyRow (ab_ald 1 (ab_gr w 1 2 (ab_ald 0 (ab_gr w 1 2 (ab_cN w 2 s_X9_copyRow (ab_ald 1 (ab_gr w 1 3 (ab_ald 0 (ab_gr w 1 3 (ab_cN w 2 s_X9_copyRow (ab_vr Kn)))))))))))))))))))))))
set_option maxRecDepth 20000 in
set_option maxHeartbeats 2000000 in
theorem vc_X1_copyFrom {l : Launch} (hl : l.stackTraces = false) {w : ab_W} (hI : ab_Inj w) {mc : Nat} {σ : ab_H} {As : List Value} {Kn : Option Value → ab_H → Prop} {Kx : String → ab_H → Prop} {s_X9_copyRow : ab_S} (ok_X9_copyRow : ab_OkN l yX9_copyRow (Cond.code yX9_copyRow cX9_copyRow 2 none) 2 s_X9_copyRow) (hlen : (ab_xl As).length ≤ 2) (h : ∀ M : Nat → ab_P, (∀ L st σ, bX1_copyFrom_0 w s_X9_copyRow M Kn L st σ → M 0 L st σ) → M 0 (ab_pd 2 (ab_xl As)) [] σ) : ab_Met l yX1_copyFrom (Cond.code yX1_copyFrom cX1_copyFrom 2 none) 3 mc w σ As Kn Kx := by
  refine ab_enter (by decide) hl hI hlen (by decide) ?_
  intro p e R s m args below meth c C hno hr
  exact h _ (sd_aload_n C (i := 0) dX1_copyFrom_0 rfl (sd_aload_n C (i := 1) dX1_copyFrom_1 rfl (sd_gf C (ci := 1) (k := 0) (r := (RX1, TX1, 5)) rfl (by decide) rfl wd_186 dX1_copyFrom_2 (sd_pf C (ci := 1) (k := 0) (r := (RX1, TX1, 5)) rfl (by decide) rfl rfl (by decide +kernel) wd_186 dX1_copyFrom_5 (sd_aload_n C (i := 0) dX1_copyFrom_8 rfl (sd_aload_n C (i := 1) dX1_copyFrom_9 rfl (sd_gf C (ci := 1) (k := 1) (r := (RX1, TX1, 5)) rfl (by decide) rfl wd_188 dX1_copyFrom_10 (sd_pf C (ci := 1) (k := 1) (r := (RX1, TX1, 5)) rfl (by decide) rfl rfl (by decide +kernel) wd_188 dX1_copyFrom_13 (sd_aload_n C (i := 1) dX1_copyFrom_16 rfl (sd_gr C (ci := 1) (k := 2) (r := (RX1, TX1, 5)) rfl (by decide) rfl wd_189 dX1_copyFrom_17 (sd_aload_n C (i := 0) dX1_copyFrom_20 rfl (sd_gr C (ci := 1) (k := 2) (r := (RX1, TX1, 5)) rfl (by decide) rfl wd_189 dX1_copyFrom_21 (sd_cSN C ok_X9_copyRow ⟨by decide, by decide, wd_429, wd_1, by decide +kernel⟩ wn_455 wd_428 dX1_copyFrom_24 (sd_aload_n C (i := 1) dX1_copyFrom_27 rfl (sd_gr C (ci := 1) (k := 3) (r := (RX1, TX1, 5)) rfl (by decide) rfl wd_190 dX1_copyFrom_28 (sd_aload_n C (i := 0) dX1_copyFrom_31 rfl (sd_gr C (ci := 1) (k := 3) (r := (RX1, TX1, 5)) rfl (by decide) rfl wd_190 dX1_copyFrom_32 (sd_cSN C ok_X9_copyRow ⟨by decide, by decide, wd_429, wd_1, by decide +kernel⟩ wn_455 wd_428 dX1_copyFrom_35 (sd_aload_n C (i := 1) dX1_copyFrom_38 rfl (sd_gr C (ci := 1) (k := 4) (r := (RX1, TX1, 5)) rfl (by decide) rfl wd_191 dX1_copyFrom_39 (sd_aload_n C (i := 0) dX1_copyFrom_42 rfl (sd_gr C (ci := 1) (k := 4) (r := (RX1, TX1, 5)) rfl (by decide) rfl wd_191 dX1_copyFrom_43 (sd_cSN C ok_X9_copyRow ⟨by decide, by decide, wd_429, wd_1, by decide +kernel⟩ wn_455 wd_428 dX1_copyFrom_46 (sd_vr C hr dX1_copyFrom_49))))))))))))))))))))))))
theorem dX1_add_0 : decode cX1_add 0 = .ok (.aload_n 0, 1) := by decide +kernel
theorem dX1_add_1 : decode cX1_add 1 = .ok (.getfield 25, 3) := by decide +kernel
theorem dX1_add_4 : decode cX1_add 4 = .ok (.bipush 12, 2) := by decide +kernel
theorem dX1_add_6 : decode cX1_add 6 = .ok (.if_icmp .ge 10, 3) := by decide +kernel
theorem dX1_add_9 : decode cX1_add 9 = .ok (.aload_n 0, 1) := by decide +kernel
theorem dX1_add_10 : decode cX1_add 10 = .ok (.getfield 25, 3) := by decide +kernel
theorem dX1_add_13 : decode cX1_add 13 = .ok (.goto 4, 3) := by decide +kernel
theorem dX1_add_16 : decode cX1_add 16 = .ok (.iconst 0, 1) := by decide +kernel
theorem dX1_add_17 : decode cX1_add 17 = .ok (.istore 4, 2) := by decide +kernel
theorem dX1_add_19 : decode cX1_add 19 = .ok (.aload_n 0, 1) := by decide +kernel
theorem dX1_add_20 : decode cX1_add 20 = .ok (.getfield 9, 3) := by decide +kernel
theorem dX1_add_23 : decode cX1_add 23 = .ok (.iload 4, 2) := by decide +kernel
theorem dX1_add_25 : decode cX1_add 25 = .ok (.iload_n 1, 1) := by decide +kernel
theorem dX1_add_26 : decode cX1_add 26 = .ok (.iastore, 1) := by decide +kernel
theorem dX1_add_27 : decode cX1_add 27 = .ok (.aload_n 0, 1) := by decide +kernel
theorem dX1_add_28 : decode cX1_add 28 = .ok (.getfield 15, 3) := by decide +kernel
theorem dX1_add_31 : decode cX1_add 31 = .ok (.iload 4, 2) := by decide +kernel
theorem dX1_add_33 : decode cX1_add 33 = .ok (.iload_n 2, 1) := by decide +kernel
theorem dX1_add_34 : decode cX1_add 34 = .ok (.iastore, 1) := by decide +kernel
theorem dX1_add_35 : decode cX1_add 35 = .ok (.aload_n 0, 1) := by decide +kernel
theorem dX1_add_36 : decode cX1_add 36 = .ok (.getfield 18, 3) := by decide +kernel
theorem dX1_add_39 : decode cX1_add 39 = .ok (.iload 4, 2) := by decide +kernel
theorem dX1_add_41 : decode cX1_add 41 = .ok (.iload_n 3, 1) := by decide +kernel
theorem dX1_add_42 : decode cX1_add 42 = .ok (.iastore, 1) := by decide +kernel
theorem dX1_add_43 : decode cX1_add 43 = .ok (.aload_n 0, 1) := by decide +kernel
theorem dX1_add_44 : decode cX1_add 44 = .ok (.iload 4, 2) := by decide +kernel
theorem dX1_add_46 : decode cX1_add 46 = .ok (.iconst 1, 1) := by decide +kernel
theorem dX1_add_47 : decode cX1_add 47 = .ok (.iadd, 1) := by decide +kernel
theorem dX1_add_48 : decode cX1_add 48 = .ok (.putfield 25, 3) := by decide +kernel
theorem dX1_add_51 : decode cX1_add 51 = .ok (.aload_n 0, 1) := by decide +kernel
theorem dX1_add_52 : decode cX1_add 52 = .ok (.dup, 1) := by decide +kernel
theorem dX1_add_53 : decode cX1_add 53 = .ok (.getfield 21, 3) := by decide +kernel
theorem dX1_add_56 : decode cX1_add 56 = .ok (.iconst 1, 1) := by decide +kernel
theorem dX1_add_57 : decode cX1_add 57 = .ok (.iadd, 1) := by decide +kernel
theorem dX1_add_58 : decode cX1_add 58 = .ok (.putfield 21, 3) := by decide +kernel
theorem dX1_add_61 : decode cX1_add 61 = .ok (.return_, 1) := by decide +kernel
def bX1_add_0 (w : ab_W) (M : Nat → ab_P) (Kn : Option Value → ab_H → Prop) : ab_P := ab_ald 0 (ab_gf w 1 1 (ab_ci (nI 12) (ab_if2 (fun x y => y ≤ x) (ab_ci (nI 0) (M 17)) (ab_ald 0 (ab_gf w 1 1 (M 17))))))
def bX1_add_17 (w : ab_W) (M : Nat → ab_P) (Kn : Option Value → ab_H → Prop) : ab_P := ab_ist 4 (ab_ald 0 (ab_gr w 1 1 (ab_ild 4 (ab_ild 1 (ab_is w (ab_ald 0 (ab_gr w 1 2 (ab_ild 4 (ab_ild 2 (ab_is w (ab_ald 0 (ab_gr w 1 3 (ab_ild 4 (ab_ild 3 (ab_is w (ab_ald 0 (ab_ild 4 (ab_ci (nI 1) (ab_b2 (fun x y => x + y) (ab_pf w 1 1 (ab_ald 0 (ab_dup (ab_gf w 1 0 (ab_ci (nI 1) (ab_b2 (fun x y => x + y) (ab_pf w 1 0 (ab_vr Kn)))))))))))))))))))))))))))
set_option maxRecDepth 20000 in
set_option maxHeartbeats 2000000 in
theorem vc_X1_add {l : Launch} (hl : l.stackTraces = false) {w : ab_W} (hI : ab_Inj w) {mc : Nat} {σ : ab_H} {As : List Value} {Kn : Option Value → ab_H → Prop} {Kx : String → ab_H → Prop} (hlen : (ab_xl As).length ≤ 5) (h : ∀ M : Nat → ab_P, (∀ L st σ, bX1_add_0 w M Kn L st σ → M 0 L st σ) → (∀ L st σ, bX1_add_17 w M Kn L st σ → M 17 L st σ) → M 0 (ab_pd 5 (ab_xl As)) [] σ) : ab_Met l yX1_add (Cond.code yX1_add cX1_add 5 none) 1 mc w σ As Kn Kx := by
  refine ab_enter (by decide) hl hI hlen (by decide) ?_
  intro p e R s m args below meth c C hno hr
  exact h _ (sd_aload_n C (i := 0) dX1_add_0 rfl (sd_gf C (ci := 1) (k := 1) (r := (RX1, TX1, 5)) rfl (by decide) rfl wd_188 dX1_add_1 (sd_bipush C (x := nI 12) dX1_add_4 (by decide +kernel) (sd_icmp_ge C dX1_add_6 (tgt := 16) (by decide) (sd_iconst C (x := nI 0) dX1_add_16 (by decide +kernel) (fun _ _ _ h => h)) (sd_aload_n C (i := 0) dX1_add_9 rfl (sd_gf C (ci := 1) (k := 1) (r := (RX1, TX1, 5)) rfl (by decide) rfl wd_188 dX1_add_10 (sd_goto C dX1_add_13 (tgt := 17) (by decide) (fun _ _ _ h => h))))))))
    (sd_istore C dX1_add_17 (by decide) (sd_aload_n C (i := 0) dX1_add_19 rfl (sd_gr C (ci := 1) (k := 2) (r := (RX1, TX1, 5)) rfl (by decide) rfl wd_189 dX1_add_20 (sd_iload C dX1_add_23 (sd_iload_n C (i := 1) dX1_add_25 rfl (sd_is C dX1_add_26 (sd_aload_n C (i := 0) dX1_add_27 rfl (sd_gr C (ci := 1) (k := 3) (r := (RX1, TX1, 5)) rfl (by decide) rfl wd_190 dX1_add_28 (sd_iload C dX1_add_31 (sd_iload_n C (i := 2) dX1_add_33 rfl (sd_is C dX1_add_34 (sd_aload_n C (i := 0) dX1_add_35 rfl (sd_gr C (ci := 1) (k := 4) (r := (RX1, TX1, 5)) rfl (by decide) rfl wd_191 dX1_add_36 (sd_iload C dX1_add_39 (sd_iload_n C (i := 3) dX1_add_41 rfl (sd_is C dX1_add_42 (sd_aload_n C (i := 0) dX1_add_43 rfl (sd_iload C dX1_add_44 (sd_iconst C (x := nI 1) dX1_add_46 (by decide +kernel) (sd_iadd C dX1_add_47 (sd_pf C (ci := 1) (k := 1) (r := (RX1, TX1, 5)) rfl (by decide) rfl rfl (by decide +kernel) wd_188 dX1_add_48 (sd_aload_n C (i := 0) dX1_add_51 rfl (sd_dup C dX1_add_52 (sd_gf C (ci := 1) (k := 0) (r := (RX1, TX1, 5)) rfl (by decide) rfl wd_186 dX1_add_53 (sd_iconst C (x := nI 1) dX1_add_56 (by decide +kernel) (sd_iadd C dX1_add_57 (sd_pf C (ci := 1) (k := 0) (r := (RX1, TX1, 5)) rfl (by decide) rfl rfl (by decide +kernel) wd_186 dX1_add_58 (sd_vr C hr dX1_add_61))))))))))))))))))))))))))))
theorem dX1_numberOf_0 : decode cX1_numberOf 0 = .ok (.iload_n 1, 1) := by decide +kernel
theorem dX1_numberOf_1 : decode cX1_numberOf 1 = .ok (.iconst 0, 1) := by decide +kernel
theorem dX1_numberOf_2 : decode cX1_numberOf 2 = .ok (.bipush 11, 2) := by decide +kernel
theorem dX1_numberOf_4 : decode cX1_numberOf 4 = .ok (.invokestatic 32, 3) := by decide +kernel
theorem dX1_numberOf_7 : decode cX1_numberOf 7 = .ok (.ifCond .eq 11, 3) := by decide +kernel
theorem dX1_numberOf_10 : decode cX1_numberOf 10 = .ok (.iload_n 1, 1) := by decide +kernel
theorem dX1_numberOf_11 : decode cX1_numberOf 11 = .ok (.aload_n 0, 1) := by decide +kernel
theorem dX1_numberOf_12 : decode cX1_numberOf 12 = .ok (.getfield 21, 3) := by decide +kernel
theorem dX1_numberOf_15 : decode cX1_numberOf 15 = .ok (.if_icmp .lt 5, 3) := by decide +kernel
theorem dX1_numberOf_18 : decode cX1_numberOf 18 = .ok (.iconst (-1), 1) := by decide +kernel
theorem dX1_numberOf_19 : decode cX1_numberOf 19 = .ok (.ireturn, 1) := by decide +kernel
theorem dX1_numberOf_20 : decode cX1_numberOf 20 = .ok (.aload_n 0, 1) := by decide +kernel
theorem dX1_numberOf_21 : decode cX1_numberOf 21 = .ok (.getfield 25, 3) := by decide +kernel
theorem dX1_numberOf_24 : decode cX1_numberOf 24 = .ok (.iconst 1, 1) := by decide +kernel
theorem dX1_numberOf_25 : decode cX1_numberOf 25 = .ok (.isub, 1) := by decide +kernel
theorem dX1_numberOf_26 : decode cX1_numberOf 26 = .ok (.iload_n 1, 1) := by decide +kernel
theorem dX1_numberOf_27 : decode cX1_numberOf 27 = .ok (.isub, 1) := by decide +kernel
theorem dX1_numberOf_28 : decode cX1_numberOf 28 = .ok (.bipush 12, 2) := by decide +kernel
theorem dX1_numberOf_30 : decode cX1_numberOf 30 = .ok (.invokestatic 36, 3) := by decide +kernel
theorem dX1_numberOf_33 : decode cX1_numberOf 33 = .ok (.istore_n 3, 1) := by decide +kernel
theorem dX1_numberOf_34 : decode cX1_numberOf 34 = .ok (.iload_n 2, 1) := by decide +kernel
theorem dX1_numberOf_35 : decode cX1_numberOf 35 = .ok (.lookupswitch 39 #[(0, 25), (1, 32)], 25) := by decide +kernel
theorem dX1_numberOf_60 : decode cX1_numberOf 60 = .ok (.aload_n 0, 1) := by decide +kernel
theorem dX1_numberOf_61 : decode cX1_numberOf 61 = .ok (.getfield 9, 3) := by decide +kernel
theorem dX1_numberOf_64 : decode cX1_numberOf 64 = .ok (.iload_n 3, 1) := by decide +kernel
theorem dX1_numberOf_65 : decode cX1_numberOf 65 = .ok (.iaload, 1) := by decide +kernel
theorem dX1_numberOf_66 : decode cX1_numberOf 66 = .ok (.ireturn, 1) := by decide +kernel
theorem dX1_numberOf_67 : decode cX1_numberOf 67 = .ok (.aload_n 0, 1) := by decide +kernel
theorem dX1_numberOf_68 : decode cX1_numberOf 68 = .ok (.getfield 15, 3) := by decide +kernel
theorem dX1_numberOf_71 : decode cX1_numberOf 71 = .ok (.iload_n 3, 1) := by decide +kernel
theorem dX1_numberOf_72 : decode cX1_numberOf 72 = .ok (.iaload, 1) := by decide +kernel
theorem dX1_numberOf_73 : decode cX1_numberOf 73 = .ok (.ireturn, 1) := by decide +kernel
theorem dX1_numberOf_74 : decode cX1_numberOf 74 = .ok (.aload_n 0, 1) := by decide +kernel
theorem dX1_numberOf_75 : decode cX1_numberOf 75 = .ok (.getfield 18, 3) := by decide +kernel
theorem dX1_numberOf_78 : decode cX1_numberOf 78 = .ok (.iload_n 3, 1) := by decide +kernel
theorem dX1_numberOf_79 : decode cX1_numberOf 79 = .ok (.iaload, 1) := by decide +kernel
theorem dX1_numberOf_80 : decode cX1_numberOf 80 = .ok (.ireturn, 1) := by decide +kernel
def bX1_numberOf_0 (w : ab_W) (s_X9_within : ab_S) (s_J9_floorMod_7cf53 : ab_S) (M : Nat → ab_P) (Kn : Option Value → ab_H → Prop) : ab_P := ab_ild 1 (ab_ci (nI 0) (ab_ci (nI 11) (ab_cN w 3 s_X9_within (ab_if1 (fun x => x = 0) (M 18) (ab_ild 1 (ab_ald 0 (ab_gf w 1 0 (ab_if2 (fun x y => x < y) (ab_ald 0 (ab_gf w 1 1 (ab_ci (nI 1) (ab_b2 (fun x y => x - y) (ab_ild 1 (ab_b2 (fun x y => x - y) (ab_ci (nI 12) (ab_cN w 2 s_J9_floorMod_7cf53 (ab_ist 3 (ab_ild 2 (ab_sw [(nI 0, ab_ald 0 (ab_gr w 1 1 (ab_ild 3 (ab_ia w 11 (ab_ir Kn))))), (nI 1, ab_ald 0 (ab_gr w 1 2 (ab_ild 3 (ab_ia w 11 (ab_ir Kn)))))] (ab_ald 0 (ab_gr w 1 3 (ab_ild 3 (ab_ia w 11 (ab_ir Kn)))))))))))))))) (M 18)))))))))
def bX1_numberOf_18 (w : ab_W) (s_X9_within : ab_S) (s_J9_floorMod_7cf53 : ab_S) (M : Nat → ab_P) (Kn : Option Value → ab_H → Prop) : ab_P := ab_ci (-1) (ab_ir Kn)
set_option maxRecDepth 20000 in
set_option maxHeartbeats 2000000 in
theorem vc_X1_numberOf {l : Launch} (hl : l.stackTraces = false) {w : ab_W} (hI : ab_Inj w) {mc : Nat} {σ : ab_H} {As : List Value} {Kn : Option Value → ab_H → Prop} {Kx : String → ab_H → Prop} {s_X9_within : ab_S} (ok_X9_within : ab_OkN l yX9_within (Cond.code yX9_within cX9_within 3 (some .boolean)) 1 s_X9_within) {s_J9_floorMod_7cf53 : ab_S} (ok_J9_floorMod_7cf53 : ab_OkN l yJ9_floorMod_7cf53 (Cond.code yJ9_floorMod_7cf53 cJ9_floorMod_7cf53 3 (some .int)) 1 s_J9_floorMod_7cf53) (hlen : (ab_xl As).length ≤ 4) (h : ∀ M : Nat → ab_P, (∀ L st σ, bX1_numberOf_0 w s_X9_within s_J9_floorMod_7cf53 M Kn L st σ → M 0 L st σ) → (∀ L st σ, bX1_numberOf_18 w s_X9_within s_J9_floorMod_7cf53 M Kn L st σ → M 18 L st σ) → M 0 (ab_pd 4 (ab_xl As)) [] σ) : ab_Met l yX1_numberOf (Cond.code yX1_numberOf cX1_numberOf 4 (some .int)) 2 mc w σ As Kn Kx := by
  refine ab_enter (by decide) hl hI hlen (by decide) ?_
  intro p e R s m args below meth c C hno hr
  exact h _ (sd_iload_n C (i := 1) dX1_numberOf_0 rfl (sd_iconst C (x := nI 0) dX1_numberOf_1 (by decide +kernel) (sd_bipush C (x := nI 11) dX1_numberOf_2 (by decide +kernel) (sd_cSN C ok_X9_within ⟨by decide, by decide, wd_477, wd_1, by decide +kernel⟩ wn_760 wd_476 dX1_numberOf_4 (sd_if_eq C dX1_numberOf_7 (tgt := 18) (by decide) (fun _ _ _ h => h) (sd_iload_n C (i := 1) dX1_numberOf_10 rfl (sd_aload_n C (i := 0) dX1_numberOf_11 rfl (sd_gf C (ci := 1) (k := 0) (r := (RX1, TX1, 5)) rfl (by decide) rfl wd_186 dX1_numberOf_12 (sd_icmp_lt C dX1_numberOf_15 (tgt := 20) (by decide) (sd_aload_n C (i := 0) dX1_numberOf_20 rfl (sd_gf C (ci := 1) (k := 1) (r := (RX1, TX1, 5)) rfl (by decide) rfl wd_188 dX1_numberOf_21 (sd_iconst C (x := nI 1) dX1_numberOf_24 (by decide +kernel) (sd_isub C dX1_numberOf_25 (sd_iload_n C (i := 1) dX1_numberOf_26 rfl (sd_isub C dX1_numberOf_27 (sd_bipush C (x := nI 12) dX1_numberOf_28 (by decide +kernel) (sd_cS C ok_J9_floorMod_7cf53 ⟨by decide, by decide, wd_571, wd_16, by decide +kernel⟩ wd_761 wd_570 dX1_numberOf_30 (sd_istore_n C (i := 3) dX1_numberOf_33 rfl (by decide) (sd_iload_n C (i := 2) dX1_numberOf_34 rfl (sd_lookup C (td := 74) dX1_numberOf_35 (by decide +kernel) (by decide +kernel : _ = ([nI 0, nI 1] : List Int32).map (fun q => q.toInt)) (List.forall_mem_cons.mpr ⟨⟨25, 60, (by decide +kernel : Op.lookupswitch.offset (#[(0, 25), (1, 32)] : Array (Int × Int)).toList 39 (nI 0 : Int32).toInt = 25), (by decide), (sd_aload_n C (i := 0) dX1_numberOf_60 rfl (sd_gr C (ci := 1) (k := 2) (r := (RX1, TX1, 5)) rfl (by decide) rfl wd_189 dX1_numberOf_61 (sd_iload_n C (i := 3) dX1_numberOf_64 rfl (sd_ia C dX1_numberOf_65 (sd_ir C hr dX1_numberOf_66)))))⟩, (List.forall_mem_cons.mpr ⟨⟨32, 67, (by decide +kernel : Op.lookupswitch.offset (#[(0, 25), (1, 32)] : Array (Int × Int)).toList 39 (nI 1 : Int32).toInt = 32), (by decide), (sd_aload_n C (i := 0) dX1_numberOf_67 rfl (sd_gr C (ci := 1) (k := 3) (r := (RX1, TX1, 5)) rfl (by decide) rfl wd_190 dX1_numberOf_68 (sd_iload_n C (i := 3) dX1_numberOf_71 rfl (sd_ia C dX1_numberOf_72 (sd_ir C hr dX1_numberOf_73)))))⟩, (fun _ h => absurd h List.not_mem_nil)⟩)⟩) (by decide) (sd_aload_n C (i := 0) dX1_numberOf_74 rfl (sd_gr C (ci := 1) (k := 4) (r := (RX1, TX1, 5)) rfl (by decide) rfl wd_191 dX1_numberOf_75 (sd_iload_n C (i := 3) dX1_numberOf_78 rfl (sd_ia C dX1_numberOf_79 (sd_ir C hr dX1_numberOf_80)))))))))))))))) (fun _ _ _ h => h))))))))))
    (sd_iconst C (x := -1) dX1_numberOf_18 (by decide +kernel) (sd_ir C hr dX1_numberOf_19))
