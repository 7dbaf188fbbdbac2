theorem dX0_copyFrom_0 : decode cX0_copyFrom 0 = .ok (.aload_n 0, 1) := by decide +kernel
theorem dX0_copyFrom_1 : decode cX0_copyFrom 1 = .ok (.aload_n 1, 1) := by decide +kernel
theorem dX0_copyFrom_2 : decode cX0_copyFrom 2 = .ok (.getfield 24, 3) := by decide +kernel
theorem dX0_copyFrom_5 : decode cX0_copyFrom 5 = .ok (.putfield 24, 3) := by decide +kernel
theorem dX0_copyFrom_8 : decode cX0_copyFrom 8 = .ok (.aload_n 1, 1) := by decide +kernel
theorem dX0_copyFrom_9 : decode cX0_copyFrom 9 = .ok (.getfield 9, 3) := by decide +kernel
theorem dX0_copyFrom_12 : decode cX0_copyFrom 12 = .ok (.aload_n 0, 1) := by decide +kernel
theorem dX0_copyFrom_13 : decode cX0_copyFrom 13 = .ok (.getfield 9, 3) := by decide +kernel
theorem dX0_copyFrom_16 : decode cX0_copyFrom 16 = .ok (.invokestatic 28, 3) := by decide +kernel
theorem dX0_copyFrom_19 : decode cX0_copyFrom 19 = .ok (.aload_n 1, 1) := by decide +kernel
theorem dX0_copyFrom_20 : decode cX0_copyFrom 20 = .ok (.getfield 15, 3) := by decide +kernel
theorem dX0_copyFrom_23 : decode cX0_copyFrom 23 = .ok (.aload_n 0, 1) := by decide +kernel
theorem dX0_copyFrom_24 : decode cX0_copyFrom 24 = .ok (.getfield 15, 3) := by decide +kernel
theorem dX0_copyFrom_27 : decode cX0_copyFrom 27 = .ok (.invokestatic 28, 3) := by decide +kernel
theorem dX0_copyFrom_30 : decode cX0_copyFrom 30 = .ok (.aload_n 1, 1) := by decide +kernel
theorem dX0_copyFrom_31 : decode cX0_copyFrom 31 = .ok (.getfield 18, 3) := by decide +kernel
theorem dX0_copyFrom_34 : decode cX0_copyFrom 34 = .ok (.aload_n 0, 1) := by decide +kernel
theorem dX0_copyFrom_35 : decode cX0_copyFrom 35 = .ok (.getfield 18, 3) := by decide +kernel
theorem dX0_copyFrom_38 : decode cX0_copyFrom 38 = .ok (.invokestatic 28, 3) := by decide +kernel
theorem dX0_copyFrom_41 : decode cX0_copyFrom 41 = .ok (.aload_n 1, 1) := by decide +kernel
theorem dX0_copyFrom_42 : decode cX0_copyFrom 42 = .ok (.getfield 21, 3) := by decide +kernel
theorem dX0_copyFrom_45 : decode cX0_copyFrom 45 = .ok (.aload_n 0, 1) := by decide +kernel
theorem dX0_copyFrom_46 : decode cX0_copyFrom 46 = .ok (.getfield 21, 3) := by decide +kernel
theorem dX0_copyFrom_49 : decode cX0_copyFrom 49 = .ok (.invokestatic 28, 3) := by decide +kernel
theorem dX0_copyFrom_52 : decode cX0_copyFrom 52 = .ok (.return_, 1) := by decide +kernel
def bX0_copyFrom_0 (w : ab_W) (s_X9_copyRow : ab_S) (M : Nat → ab_P) (Kn : Option Value → ab_H → Prop) : ab_P := ab_ald 0 (ab_ald 1 (ab_gf w 0 0 (ab_pf w 0 0 (ab_ald 1 (ab_gr w 0 1 (ab_ald 0 (ab_gr w 0 1 (ab_cN w 2 s_X9_copyRow (ab_ald 1 (ab_gr w 0 2 (ab_ald 0 (ab_gr w 0 2 (ab_cN w 2 s_X9_copyRow (ab_ald 1 (ab_gr w 0 3 (ab_ald 0 (ab_gr w 0 3 (ab_cN w 2 s_X9_copyRow (ab_ald 1 (ab_gr w 0 4 (ab_ald 0 (ab_gr w 0 4 (ab_cN w 2 s_X9_copyRow (ab_vr Kn))))))))))))))))))))))))
set_option maxRecDepth 20000 in
set_option maxHeartbeats 2000000 in
theorem vc_X0_copyFrom {l : Launch} (hl : l.stackTraces = false) {w : ab_W} (hI : ab_Inj w) {mc : Nat} {σ : ab_H} {As : List Value} {Kn : Option Value → ab_H → Prop} {Kx : String → ab_H → Prop} {s_X9_copyRow : ab_S} (ok_X9_copyRow : ab_OkN l yX9_copyRow (Cond.code yX9_copyRow cX9_copyRow 2 none) 2 s_X9_copyRow) (hlen : (ab_xl As).length ≤ 2) (h : ∀ M : Nat → ab_P, (∀ L st σ, bX0_copyFrom_0 w s_X9_copyRow M Kn L st σ → M 0 L st σ) → M 0 (ab_pd 2 (ab_xl As)) [] σ) : ab_Met l yX0_copyFrom (Cond.code yX0_copyFrom cX0_copyFrom 2 none) 3 mc w σ As Kn Kx := by
  refine ab_enter (by decide) hl hI hlen (by decide) ?_
  intro p e R s m args below meth c C hno hr
  exact h _ (sd_aload_n C (i := 0) dX0_copyFrom_0 rfl (sd_aload_n C (i := 1) dX0_copyFrom_1 rfl (sd_gf C (ci := 0) (k := 0) (r := (RX0, TX0, 5)) rfl (by decide) rfl wd_111 dX0_copyFrom_2 (sd_pf C (ci := 0) (k := 0) (r := (RX0, TX0, 5)) rfl (by decide) rfl rfl (by decide +kernel) wd_111 dX0_copyFrom_5 (sd_aload_n C (i := 1) dX0_copyFrom_8 rfl (sd_gr C (ci := 0) (k := 1) (r := (RX0, TX0, 5)) rfl (by decide) rfl wd_114 dX0_copyFrom_9 (sd_aload_n C (i := 0) dX0_copyFrom_12 rfl (sd_gr C (ci := 0) (k := 1) (r := (RX0, TX0, 5)) rfl (by decide) rfl wd_114 dX0_copyFrom_13 (sd_cSN C ok_X9_copyRow ⟨by decide, by decide, wd_429, wd_1, by decide +kernel⟩ wn_440 wd_428 dX0_copyFrom_16 (sd_aload_n C (i := 1) dX0_copyFrom_19 rfl (sd_gr C (ci := 0) (k := 2) (r := (RX0, TX0, 5)) rfl (by decide) rfl wd_117 dX0_copyFrom_20 (sd_aload_n C (i := 0) dX0_copyFrom_23 rfl (sd_gr C (ci := 0) (k := 2) (r := (RX0, TX0, 5)) rfl (by decide) rfl wd_117 dX0_copyFrom_24 (sd_cSN C ok_X9_copyRow ⟨by decide, by decide, wd_429, wd_1, by decide +kernel⟩ wn_440 wd_428 dX0_copyFrom_27 (sd_aload_n C (i := 1) dX0_copyFrom_30 rfl (sd_gr C (ci := 0) (k := 3) (r := (RX0, TX0, 5)) rfl (by decide) rfl wd_119 dX0_copyFrom_31 (sd_aload_n C (i := 0) dX0_copyFrom_34 rfl (sd_gr C (ci := 0) (k := 3) (r := (RX0, TX0, 5)) rfl (by decide) rfl wd_119 dX0_copyFrom_35 (sd_cSN C ok_X9_copyRow ⟨by decide, by decide, wd_429, wd_1, by decide +kernel⟩ wn_440 wd_428 dX0_copyFrom_38 (sd_aload_n C (i := 1) dX0_copyFrom_41 rfl (sd_gr C (ci := 0) (k := 4) (r := (RX0, TX0, 5)) rfl (by decide) rfl wd_122 dX0_copyFrom_42 (sd_aload_n C (i := 0) dX0_copyFrom_45 rfl (sd_gr C (ci := 0) (k := 4) (r := (RX0, TX0, 5)) rfl (by decide) rfl wd_122 dX0_copyFrom_46 (sd_cSN C ok_X9_copyRow ⟨by decide, by decide, wd_429, wd_1, by decide +kernel⟩ wn_440 wd_428 dX0_copyFrom_49 (sd_vr C hr dX0_copyFrom_52)))))))))))))))))))))))))
theorem dX0_has_0 : decode cX0_has 0 = .ok (.iload_n 1, 1) := by decide +kernel
theorem dX0_has_1 : decode cX0_has 1 = .ok (.ifCond .lt 15, 3) := by decide +kernel
theorem dX0_has_4 : decode cX0_has 4 = .ok (.iload_n 1, 1) := by decide +kernel
theorem dX0_has_5 : decode cX0_has 5 = .ok (.aload_n 0, 1) := by decide +kernel
theorem dX0_has_6 : decode cX0_has 6 = .ok (.getfield 24, 3) := by decide +kernel
theorem dX0_has_9 : decode cX0_has 9 = .ok (.if_icmp .ge 7, 3) := by decide +kernel
theorem dX0_has_12 : decode cX0_has 12 = .ok (.iconst 1, 1) := by decide +kernel
theorem dX0_has_13 : decode cX0_has 13 = .ok (.goto 4, 3) := by decide +kernel
theorem dX0_has_16 : decode cX0_has 16 = .ok (.iconst 0, 1) := by decide +kernel
theorem dX0_has_17 : decode cX0_has 17 = .ok (.ireturn, 1) := by decide +kernel
def bX0_has_0 (w : ab_W) (M : Nat → ab_P) (Kn : Option Value → ab_H → Prop) : ab_P := ab_ild 1 (ab_if1 (fun x => x < 0) (M 16) (ab_ild 1 (ab_ald 0 (ab_gf w 0 0 (ab_if2 (fun x y => y ≤ x) (M 16) (ab_ci (nI 1) (M 17)))))))
def bX0_has_16 (w : ab_W) (M : Nat → ab_P) (Kn : Option Value → ab_H → Prop) : ab_P := ab_ci (nI 0) (M 17)
def bX0_has_17 (w : ab_W) (M : Nat → ab_P) (Kn : Option Value → ab_H → Prop) : ab_P := ab_zr Kn
set_option maxRecDepth 20000 in
set_option maxHeartbeats 2000000 in
theorem vc_X0_has {l : Launch} (hl : l.stackTraces = false) {w : ab_W} (hI : ab_Inj w) {mc : Nat} {σ : ab_H} {As : List Value} {Kn : Option Value → ab_H → Prop} {Kx : String → ab_H → Prop} (hlen : (ab_xl As).length ≤ 2) (h : ∀ M : Nat → ab_P, (∀ L st σ, bX0_has_0 w M Kn L st σ → M 0 L st σ) → (∀ L st σ, bX0_has_16 w M Kn L st σ → M 16 L st σ) → (∀ L st σ, bX0_has_17 w M Kn L st σ → M 17 L st σ) → M 0 (ab_pd 2 (ab_xl As)) [] σ) : ab_Met l yX0_has (Cond.code yX0_has cX0_has 2 (some .boolean)) 1 mc w σ As Kn Kx := by
  refine ab_enter (by decide) hl hI hlen (by decide) ?_
  intro p e R s m args below meth c C hno hr
  exact h _ (sd_iload_n C (i := 1) dX0_has_0 rfl (sd_if_lt C dX0_has_1 (tgt := 16) (by decide) (fun _ _ _ h => h) (sd_iload_n C (i := 1) dX0_has_4 rfl (sd_aload_n C (i := 0) dX0_has_5 rfl (sd_gf C (ci := 0) (k := 0) (r := (RX0, TX0, 5)) rfl (by decide) rfl wd_111 dX0_has_6 (sd_icmp_ge C dX0_has_9 (tgt := 16) (by decide) (fun _ _ _ h => h) (sd_iconst C (x := nI 1) dX0_has_12 (by decide +kernel) (sd_goto C dX0_has_13 (tgt := 17) (by decide) (fun _ _ _ h => h)))))))))
    (sd_iconst C (x := nI 0) dX0_has_16 (by decide +kernel) (fun _ _ _ h => h))
    (sd_zr C hr dX0_has_17)
theorem dX0_add_0 : decode cX0_add 0 = .ok (.aload_n 0, 1) := by decide +kernel
theorem dX0_add_1 : decode cX0_add 1 = .ok (.getfield 24, 3) := by decide +kernel
theorem dX0_add_4 : decode cX0_add 4 = .ok (.bipush 6, 2) := by decide +kernel
theorem dX0_add_6 : decode cX0_add 6 = .ok (.if_icmp .ge 43, 3) := by decide +kernel
theorem dX0_add_9 : decode cX0_add 9 = .ok (.aload_n 0, 1) := by decide +kernel
theorem dX0_add_10 : decode cX0_add 10 = .ok (.getfield 9, 3) := by decide +kernel
theorem dX0_add_13 : decode cX0_add 13 = .ok (.aload_n 0, 1) := by decide +kernel
theorem dX0_add_14 : decode cX0_add 14 = .ok (.getfield 24, 3) := by decide +kernel
theorem dX0_add_17 : decode cX0_add 17 = .ok (.iload_n 1, 1) := by decide +kernel
theorem dX0_add_18 : decode cX0_add 18 = .ok (.iastore, 1) := by decide +kernel
theorem dX0_add_19 : decode cX0_add 19 = .ok (.aload_n 0, 1) := by decide +kernel
theorem dX0_add_20 : decode cX0_add 20 = .ok (.getfield 15, 3) := by decide +kernel
theorem dX0_add_23 : decode cX0_add 23 = .ok (.aload_n 0, 1) := by decide +kernel
theorem dX0_add_24 : decode cX0_add 24 = .ok (.getfield 24, 3) := by decide +kernel
theorem dX0_add_27 : decode cX0_add 27 = .ok (.iload_n 2, 1) := by decide +kernel
theorem dX0_add_28 : decode cX0_add 28 = .ok (.iastore, 1) := by decide +kernel
theorem dX0_add_29 : decode cX0_add 29 = .ok (.aload_n 0, 1) := by decide +kernel
theorem dX0_add_30 : decode cX0_add 30 = .ok (.getfield 18, 3) := by decide +kernel
theorem dX0_add_33 : decode cX0_add 33 = .ok (.aload_n 0, 1) := by decide +kernel
theorem dX0_add_34 : decode cX0_add 34 = .ok (.getfield 24, 3) := by decide +kernel
theorem dX0_add_37 : decode cX0_add 37 = .ok (.iload_n 3, 1) := by decide +kernel
theorem dX0_add_38 : decode cX0_add 38 = .ok (.iastore, 1) := by decide +kernel
theorem dX0_add_39 : decode cX0_add 39 = .ok (.aload_n 0, 1) := by decide +kernel
theorem dX0_add_40 : decode cX0_add 40 = .ok (.dup, 1) := by decide +kernel
theorem dX0_add_41 : decode cX0_add 41 = .ok (.getfield 24, 3) := by decide +kernel
theorem dX0_add_44 : decode cX0_add 44 = .ok (.iconst 1, 1) := by decide +kernel
theorem dX0_add_45 : decode cX0_add 45 = .ok (.iadd, 1) := by decide +kernel
theorem dX0_add_46 : decode cX0_add 46 = .ok (.putfield 24, 3) := by decide +kernel
theorem dX0_add_49 : decode cX0_add 49 = .ok (.return_, 1) := by decide +kernel
def bX0_add_0 (w : ab_W) (M : Nat → ab_P) (Kn : Option Value → ab_H → Prop) : ab_P := ab_ald 0 (ab_gf w 0 0 (ab_ci (nI 6) (ab_if2 (fun x y => y ≤ x) (M 49) (ab_ald 0 (ab_gr w 0 1 (ab_ald 0 (ab_gf w 0 0 (ab_ild 1 (ab_is w (ab_ald 0 (ab_gr w 0 2 (ab_ald 0 (ab_gf w 0 0 (ab_ild 2 (ab_is w (ab_ald 0 (ab_gr w 0 3 (ab_ald 0 (ab_gf w 0 0 (ab_ild 3 (ab_is w (ab_ald 0 (ab_dup (ab_gf w 0 0 (ab_ci (nI 1) (ab_b2 (fun x y => x + y) (ab_pf w 0 0 (M 49))))))))))))))))))))))))))))
def bX0_add_49 (w : ab_W) (M : Nat → ab_P) (Kn : Option Value → ab_H → Prop) : ab_P := ab_vr Kn
set_option maxRecDepth 20000 in
set_option maxHeartbeats 2000000 in
theorem vc_X0_add {l : Launch} (hl : l.stackTraces = false) {w : ab_W} (hI : ab_Inj w) {mc : Nat} {σ : ab_H} {As : List Value} {Kn : Option Value → ab_H → Prop} {Kx : String → ab_H → Prop} (hlen : (ab_xl As).length ≤ 4) (h : ∀ M : Nat → ab_P, (∀ L st σ, bX0_add_0 w M Kn L st σ → M 0 L st σ) → (∀ L st σ, bX0_add_49 w M Kn L st σ → M 49 L st σ) → M 0 (ab_pd 4 (ab_xl As)) [] σ) : ab_Met l yX0_add (Cond.code yX0_add cX0_add 4 none) 1 mc w σ As Kn Kx := by
  refine ab_enter (by decide) hl hI hlen (by decide) ?_
  intro p e R s m args below meth c C hno hr
  exact h _ (sd_aload_n C (i := 0) dX0_add_0 rfl (sd_gf C (ci := 0) (k := 0) (r := (RX0, TX0, 5)) rfl (by decide) rfl wd_111 dX0_add_1 (sd_bipush C (x := nI 6) dX0_add_4 (by decide +kernel) (sd_icmp_ge C dX0_add_6 (tgt := 49) (by decide) (fun _ _ _ h => h) (sd_aload_n C (i := 0) dX0_add_9 rfl (sd_gr C (ci := 0) (k := 1) (r := (RX0, TX0, 5)) rfl (by decide) rfl wd_114 dX0_add_10 (sd_aload_n C (i := 0) dX0_add_13 rfl (sd_gf C (ci := 0) (k := 0) (r := (RX0, TX0, 5)) rfl (by decide) rfl wd_111 dX0_add_14 (sd_iload_n C (i := 1) dX0_add_17 rfl (sd_is C dX0_add_18 (sd_aload_n C (i := 0) dX0_add_19 rfl (sd_gr C (ci := 0) (k := 2) (r := (RX0, TX0, 5)) rfl (by decide) rfl wd_117 dX0_add_20 (sd_aload_n C (i := 0) dX0_add_23 rfl (sd_gf C (ci := 0) (k := 0) (r := (RX0, TX0, 5)) rfl (by decide) rfl wd_111 dX0_add_24 (sd_iload_n C (i := 2) dX0_add_27 rfl (sd_is C dX0_add_28 (sd_aload_n C (i := 0) dX0_add_29 rfl (sd_gr C (ci := 0) (k := 3) (r := (RX0, TX0, 5)) rfl (by decide) rfl wd_119 dX0_add_30 (sd_aload_n C (i := 0) dX0_add_33 rfl (sd_gf C (ci := 0) (k := 0) (r := (RX0, TX0, 5)) rfl (by decide) rfl wd_111 dX0_add_34 (sd_iload_n C (i := 3) dX0_add_37 rfl (sd_is C dX0_add_38 (sd_aload_n C (i := 0) dX0_add_39 rfl (sd_dup C dX0_add_40 (sd_gf C (ci := 0) (k := 0) (r := (RX0, TX0, 5)) rfl (by decide) rfl wd_111 dX0_add_41 (sd_iconst C (x := nI 1) dX0_add_44 (by decide +kernel) (sd_iadd C dX0_add_45 (sd_pf C (ci := 0) (k := 0) (r := (RX0, TX0, 5)) rfl (by decide) rfl rfl (by decide +kernel) wd_111 dX0_add_46 (fun _ _ _ h => h)))))))))))))))))))))))))))))
    (sd_vr C hr dX0_add_49)
theorem dX0_whoFindsAt_0 : decode cX0_whoFindsAt 0 = .ok (.iconst (-1), 1) := by decide +kernel
theorem dX0_whoFindsAt_1 : decode cX0_whoFindsAt 1 = .ok (.istore_n 2, 1) := by decide +kernel
theorem dX0_whoFindsAt_2 : decode cX0_whoFindsAt 2 = .ok (.bipush 100, 2) := by decide +kernel
theorem dX0_whoFindsAt_4 : decode cX0_whoFindsAt 4 = .ok (.istore_n 3, 1) := by decide +kernel
theorem dX0_whoFindsAt_5 : decode cX0_whoFindsAt 5 = .ok (.iconst 0, 1) := by decide +kernel
theorem dX0_whoFindsAt_6 : decode cX0_whoFindsAt 6 = .ok (.istore 4, 2) := by decide +kernel
theorem dX0_whoFindsAt_8 : decode cX0_whoFindsAt 8 = .ok (.iload 4, 2) := by decide +kernel
theorem dX0_whoFindsAt_10 : decode cX0_whoFindsAt 10 = .ok (.aload_n 0, 1) := by decide +kernel
theorem dX0_whoFindsAt_11 : decode cX0_whoFindsAt 11 = .ok (.getfield 24, 3) := by decide +kernel
theorem dX0_whoFindsAt_14 : decode cX0_whoFindsAt 14 = .ok (.if_icmp .ge 47, 3) := by decide +kernel
theorem dX0_whoFindsAt_17 : decode cX0_whoFindsAt 17 = .ok (.aload_n 0, 1) := by decide +kernel
theorem dX0_whoFindsAt_18 : decode cX0_whoFindsAt 18 = .ok (.getfield 9, 3) := by decide +kernel
theorem dX0_whoFindsAt_21 : decode cX0_whoFindsAt 21 = .ok (.iload 4, 2) := by decide +kernel
theorem dX0_whoFindsAt_23 : decode cX0_whoFindsAt 23 = .ok (.iaload, 1) := by decide +kernel
theorem dX0_whoFindsAt_24 : decode cX0_whoFindsAt 24 = .ok (.iload_n 1, 1) := by decide +kernel
theorem dX0_whoFindsAt_25 : decode cX0_whoFindsAt 25 = .ok (.isub, 1) := by decide +kernel
theorem dX0_whoFindsAt_26 : decode cX0_whoFindsAt 26 = .ok (.invokestatic 32, 3) := by decide +kernel
theorem dX0_whoFindsAt_29 : decode cX0_whoFindsAt 29 = .ok (.istore 5, 2) := by decide +kernel
theorem dX0_whoFindsAt_31 : decode cX0_whoFindsAt 31 = .ok (.iload 5, 2) := by decide +kernel
theorem dX0_whoFindsAt_33 : decode cX0_whoFindsAt 33 = .ok (.aload_n 0, 1) := by decide +kernel
theorem dX0_whoFindsAt_34 : decode cX0_whoFindsAt 34 = .ok (.getfield 15, 3) := by decide +kernel
theorem dX0_whoFindsAt_37 : decode cX0_whoFindsAt 37 = .ok (.iload 4, 2) := by decide +kernel
theorem dX0_whoFindsAt_39 : decode cX0_whoFindsAt 39 = .ok (.iaload, 1) := by decide +kernel
theorem dX0_whoFindsAt_40 : decode cX0_whoFindsAt 40 = .ok (.if_icmp .gt 15, 3) := by decide +kernel
theorem dX0_whoFindsAt_43 : decode cX0_whoFindsAt 43 = .ok (.iload 5, 2) := by decide +kernel
theorem dX0_whoFindsAt_45 : decode cX0_whoFindsAt 45 = .ok (.iload_n 3, 1) := by decide +kernel
theorem dX0_whoFindsAt_46 : decode cX0_whoFindsAt 46 = .ok (.if_icmp .ge 9, 3) := by decide +kernel
theorem dX0_whoFindsAt_49 : decode cX0_whoFindsAt 49 = .ok (.iload 4, 2) := by decide +kernel
theorem dX0_whoFindsAt_51 : decode cX0_whoFindsAt 51 = .ok (.istore_n 2, 1) := by decide +kernel
theorem dX0_whoFindsAt_52 : decode cX0_whoFindsAt 52 = .ok (.iload 5, 2) := by decide +kernel
theorem dX0_whoFindsAt_54 : decode cX0_whoFindsAt 54 = .ok (.istore_n 3, 1) := by decide +kernel
theorem dX0_whoFindsAt_55 : decode cX0_whoFindsAt 55 = .ok (.iinc 4 1, 3) := by decide +kernel
theorem dX0_whoFindsAt_58 : decode cX0_whoFindsAt 58 = .ok (.goto (-50), 3) := by decide +kernel
theorem dX0_whoFindsAt_61 : decode cX0_whoFindsAt 61 = .ok (.iload_n 2, 1) := by decide +kernel
theorem dX0_whoFindsAt_62 : decode cX0_whoFindsAt 62 = .ok (.ireturn, 1) := by decide +kernel
def bX0_whoFindsAt_0 (w : ab_W) (M : Nat → ab_P) (Kn : Option Value → ab_H → Prop) : ab_P := ab_ci (-1) (ab_ist 2 (ab_ci (nI 100) (ab_ist 3 (ab_ci (nI 0) (ab_ist 4 (M 8))))))
def bX0_whoFindsAt_8 (w : ab_W) (M : Nat → ab_P) (Kn : Option Value → ab_H → Prop) : ab_P := ab_ild 4 (ab_ald 0 (ab_gf w 0 0 (ab_if2 (fun x y => y ≤ x) (ab_ild 2 (ab_ir Kn)) (ab_ald 0 (ab_gr w 0 1 (ab_ild 4 (ab_ia w 11 (ab_ild 1 (ab_b2 (fun x y => x - y) (ab_mth1 (fun x => if 0 ≤ x then x else 0 - x) (ab_ist 5 (ab_ild 5 (ab_ald 0 (ab_gr w 0 2 (ab_ild 4 (ab_ia w 11 (ab_if2 (fun x y => y < x) (M 55) (ab_ild 5 (ab_ild 3 (ab_if2 (fun x y => y ≤ x) (M 55) (ab_ild 4 (ab_ist 2 (ab_ild 5 (ab_ist 3 (M 55)))))))))))))))))))))))))
def bX0_whoFindsAt_55 (w : ab_W) (M : Nat → ab_P) (Kn : Option Value → ab_H → Prop) : ab_P := ab_inc 4 (nI 1) (M 8)
set_option maxRecDepth 20000 in
set_option maxHeartbeats 2000000 in
theorem vc_X0_whoFindsAt {l : Launch} (hl : l.stackTraces = false) {w : ab_W} (hI : ab_Inj w) {mc : Nat} {σ : ab_H} {As : List Value} {Kn : Option Value → ab_H → Prop} {Kx : String → ab_H → Prop} (hlen : (ab_xl As).length ≤ 6) (h : ∀ M : Nat → ab_P, (∀ L st σ, bX0_whoFindsAt_0 w M Kn L st σ → M 0 L st σ) → (∀ L st σ, bX0_whoFindsAt_8 w M Kn L st σ → M 8 L st σ) → (∀ L st σ, bX0_whoFindsAt_55 w M Kn L st σ → M 55 L st σ) → M 0 (ab_pd 6 (ab_xl As)) [] σ) : ab_Met l yX0_whoFindsAt (Cond.code yX0_whoFindsAt cX0_whoFindsAt 6 (some .int)) 2 mc w σ As Kn Kx := by
  refine ab_enter (by decide) hl hI hlen (by decide) ?_
  intro p e R s m args below meth c C hno hr
  exact h _ (sd_iconst C (x := -1) dX0_whoFindsAt_0 (by decide +kernel) (sd_istore_n C (i := 2) dX0_whoFindsAt_1 rfl (by decide) (sd_bipush C (x := nI 100) dX0_whoFindsAt_2 (by decide +kernel) (sd_istore_n C (i := 3) dX0_whoFindsAt_4 rfl (by decide) (sd_iconst C (x := nI 0) dX0_whoFindsAt_5 (by decide +kernel) (sd_istore C dX0_whoFindsAt_6 (by decide) (fun _ _ _ h => h)))))))
    (sd_iload C dX0_whoFindsAt_8 (sd_aload_n C (i := 0) dX0_whoFindsAt_10 rfl (sd_gf C (ci := 0) (k := 0) (r := (RX0, TX0, 5)) rfl (by decide) rfl wd_111 dX0_whoFindsAt_11 (sd_icmp_ge C dX0_whoFindsAt_14 (tgt := 61) (by decide) (sd_iload_n C (i := 2) dX0_whoFindsAt_61 rfl (sd_ir C hr dX0_whoFindsAt_62)) (sd_aload_n C (i := 0) dX0_whoFindsAt_17 rfl (sd_gr C (ci := 0) (k := 1) (r := (RX0, TX0, 5)) rfl (by decide) rfl wd_114 dX0_whoFindsAt_18 (sd_iload C dX0_whoFindsAt_21 (sd_ia C dX0_whoFindsAt_23 (sd_iload_n C (i := 1) dX0_whoFindsAt_24 rfl (sd_isub C dX0_whoFindsAt_25 (sd_mabs C wd_589 wd_590 wd_16 wd_591 dX0_whoFindsAt_26 (sd_istore C dX0_whoFindsAt_29 (by decide) (sd_iload C dX0_whoFindsAt_31 (sd_aload_n C (i := 0) dX0_whoFindsAt_33 rfl (sd_gr C (ci := 0) (k := 2) (r := (RX0, TX0, 5)) rfl (by decide) rfl wd_117 dX0_whoFindsAt_34 (sd_iload C dX0_whoFindsAt_37 (sd_ia C dX0_whoFindsAt_39 (sd_icmp_gt C dX0_whoFindsAt_40 (tgt := 55) (by decide) (fun _ _ _ h => h) (sd_iload C dX0_whoFindsAt_43 (sd_iload_n C (i := 3) dX0_whoFindsAt_45 rfl (sd_icmp_ge C dX0_whoFindsAt_46 (tgt := 55) (by decide) (fun _ _ _ h => h) (sd_iload C dX0_whoFindsAt_49 (sd_istore_n C (i := 2) dX0_whoFindsAt_51 rfl (by decide) (sd_iload C dX0_whoFindsAt_52 (sd_istore_n C (i := 3) dX0_whoFindsAt_54 rfl (by decide) (fun _ _ _ h => h))))))))))))))))))))))))))
    (sd_iinc C (x := nI 1) dX0_whoFindsAt_55 (by decide +kernel) (by decide) (sd_goto C dX0_whoFindsAt_58 (tgt := 8) (by decide) (fun _ _ _ h => h)))
