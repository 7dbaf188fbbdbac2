theorem dX4_copyFrom_0 : decode cX4_copyFrom 0 = .ok (.aload_n 0, 1) := by decide +kernel
theorem dX4_copyFrom_1 : decode cX4_copyFrom 1 = .ok (.aload_n 1, 1) := by decide +kernel
theorem dX4_copyFrom_2 : decode cX4_copyFrom 2 = .ok (.getfield 24, 3) := by decide +kernel
theorem dX4_copyFrom_5 : decode cX4_copyFrom 5 = .ok (.putfield 24, 3) := by decide +kernel
theorem dX4_copyFrom_8 : decode cX4_copyFrom 8 = .ok (.aload_n 1, 1) := by decide +kernel
theorem dX4_copyFrom_9 : decode cX4_copyFrom 9 = .ok (.getfield 9, 3) := by decide +kernel
theorem dX4_copyFrom_12 : decode cX4_copyFrom 12 = .ok (.aload_n 0, 1) := by decide +kernel
theorem dX4_copyFrom_13 : decode cX4_copyFrom 13 = .ok (.getfield 9, 3) := by decide +kernel
theorem dX4_copyFrom_16 : decode cX4_copyFrom 16 = .ok (.invokestatic 28, 3) := by decide +kernel
theorem dX4_copyFrom_19 : decode cX4_copyFrom 19 = .ok (.aload_n 1, 1) := by decide +kernel
theorem dX4_copyFrom_20 : decode cX4_copyFrom 20 = .ok (.getfield 15, 3) := by decide +kernel
theorem dX4_copyFrom_23 : decode cX4_copyFrom 23 = .ok (.aload_n 0, 1) := by decide +kernel
theorem dX4_copyFrom_24 : decode cX4_copyFrom 24 = .ok (.getfield 15, 3) := by decide +kernel
theorem dX4_copyFrom_27 : decode cX4_copyFrom 27 = .ok (.invokestatic 28, 3) := by decide +kernel
theorem dX4_copyFrom_30 : decode cX4_copyFrom 30 = .ok (.aload_n 1, 1) := by decide +kernel
theorem dX4_copyFrom_31 : decode cX4_copyFrom 31 = .ok (.getfield 18, 3) := by decide +kernel
theorem dX4_copyFrom_34 : decode cX4_copyFrom 34 = .ok (.aload_n 0, 1) := by decide +kernel
theorem dX4_copyFrom_35 : decode cX4_copyFrom 35 = .ok (.getfield 18, 3) := by decide +kernel
theorem dX4_copyFrom_38 : decode cX4_copyFrom 38 = .ok (.invokestatic 28, 3) := by decide +kernel
theorem dX4_copyFrom_41 : decode cX4_copyFrom 41 = .ok (.aload_n 1, 1) := by decide +kernel
theorem dX4_copyFrom_42 : decode cX4_copyFrom 42 = .ok (.getfield 21, 3) := by decide +kernel
theorem dX4_copyFrom_45 : decode cX4_copyFrom 45 = .ok (.aload_n 0, 1) := by decide +kernel
theorem dX4_copyFrom_46 : decode cX4_copyFrom 46 = .ok (.getfield 21, 3) := by decide +kernel
theorem dX4_copyFrom_49 : decode cX4_copyFrom 49 = .ok (.invokestatic 28, 3) := by decide +kernel
theorem dX4_copyFrom_52 : decode cX4_copyFrom 52 = .ok (.return_, 1) := by decide +kernel
def bX4_copyFrom_0 (w : ab_W) (s_X9_copyRow : ab_S) (M : Nat → ab_P) (Kn : Option Value → ab_H → Prop) : ab_P := ab_ald 0 (ab_ald 1 (ab_gf w 4 0 (ab_pf w 4 0 (ab_ald 1 (ab_gr w 4 1 (ab_ald 0 (ab_gr w 4 1 (ab_cN w 2 s_X9_copyRow (ab_ald 1 (ab_gr w 4 2 (ab_ald 0 (ab_gr w 4 2 (ab_cN w 2 s_X9_copyRow (ab_ald 1 (ab_gr w 4 3 (ab_ald 0 (ab_gr w 4 3 (ab_cN w 2 s_X9_copyRow (ab_ald 1 (ab_gr w 4 4 (ab_ald 0 (ab_gr w 4 4 (ab_cN w 2 s_X9_copyRow (ab_vr Kn))))))))))))))))))))))))
set_option maxRecDepth 20000 in
set_option maxHeartbeats 2000000 in
theorem vc_X4_copyFrom {l : Launch} (hl : l.stackTraces = false) {w : ab_W} (hI : ab_Inj w) {mc : Nat} {σ : ab_H} {As : List Value} {Kn : Option Value → ab_H → Prop} {Kx : String → ab_H → Prop} {s_X9_copyRow : ab_S} (ok_X9_copyRow : ab_OkN l yX9_copyRow (Cond.code yX9_copyRow cX9_copyRow 2 none) 2 s_X9_copyRow) (hlen : (ab_xl As).length ≤ 2) (h : ∀ M : Nat → ab_P, (∀ L st σ, bX4_copyFrom_0 w s_X9_copyRow M Kn L st σ → M 0 L st σ) → M 0 (ab_pd 2 (ab_xl As)) [] σ) : ab_Met l yX4_copyFrom (Cond.code yX4_copyFrom cX4_copyFrom 2 none) 3 mc w σ As Kn Kx := by
  refine ab_enter (by decide) hl hI hlen (by decide) ?_
  intro p e R s m args below meth c C hno hr
  exact h _ (sd_aload_n C (i := 0) dX4_copyFrom_0 rfl (sd_aload_n C (i := 1) dX4_copyFrom_1 rfl (sd_gf C (ci := 4) (k := 0) (r := (RX4, TX4, 5)) rfl (by decide) rfl wd_142 dX4_copyFrom_2 (sd_pf C (ci := 4) (k := 0) (r := (RX4, TX4, 5)) rfl (by decide) rfl rfl (by decide +kernel) wd_142 dX4_copyFrom_5 (sd_aload_n C (i := 1) dX4_copyFrom_8 rfl (sd_gr C (ci := 4) (k := 1) (r := (RX4, TX4, 5)) rfl (by decide) rfl wd_145 dX4_copyFrom_9 (sd_aload_n C (i := 0) dX4_copyFrom_12 rfl (sd_gr C (ci := 4) (k := 1) (r := (RX4, TX4, 5)) rfl (by decide) rfl wd_145 dX4_copyFrom_13 (sd_cSN C ok_X9_copyRow ⟨by decide, by decide, wd_429, wd_1, by decide +kernel⟩ wn_445 wd_428 dX4_copyFrom_16 (sd_aload_n C (i := 1) dX4_copyFrom_19 rfl (sd_gr C (ci := 4) (k := 2) (r := (RX4, TX4, 5)) rfl (by decide) rfl wd_146 dX4_copyFrom_20 (sd_aload_n C (i := 0) dX4_copyFrom_23 rfl (sd_gr C (ci := 4) (k := 2) (r := (RX4, TX4, 5)) rfl (by decide) rfl wd_146 dX4_copyFrom_24 (sd_cSN C ok_X9_copyRow ⟨by decide, by decide, wd_429, wd_1, by decide +kernel⟩ wn_445 wd_428 dX4_copyFrom_27 (sd_aload_n C (i := 1) dX4_copyFrom_30 rfl (sd_gr C (ci := 4) (k := 3) (r := (RX4, TX4, 5)) rfl (by decide) rfl wd_147 dX4_copyFrom_31 (sd_aload_n C (i := 0) dX4_copyFrom_34 rfl (sd_gr C (ci := 4) (k := 3) (r := (RX4, TX4, 5)) rfl (by decide) rfl wd_147 dX4_copyFrom_35 (sd_cSN C ok_X9_copyRow ⟨by decide, by decide, wd_429, wd_1, by decide +kernel⟩ wn_445 wd_428 dX4_copyFrom_38 (sd_aload_n C (i := 1) dX4_copyFrom_41 rfl (sd_gr C (ci := 4) (k := 4) (r := (RX4, TX4, 5)) rfl (by decide) rfl wd_148 dX4_copyFrom_42 (sd_aload_n C (i := 0) dX4_copyFrom_45 rfl (sd_gr C (ci := 4) (k := 4) (r := (RX4, TX4, 5)) rfl (by decide) rfl wd_148 dX4_copyFrom_46 (sd_cSN C ok_X9_copyRow ⟨by decide, by decide, wd_429, wd_1, by decide +kernel⟩ wn_445 wd_428 dX4_copyFrom_49 (sd_vr C hr dX4_copyFrom_52)))))))))))))))))))))))))
theorem dX4_put_0 : decode cX4_put 0 = .ok (.aload_n 0, 1) := by decide +kernel
theorem dX4_put_1 : decode cX4_put 1 = .ok (.getfield 9, 3) := by decide +kernel
theorem dX4_put_4 : decode cX4_put 4 = .ok (.iload_n 1, 1) := by decide +kernel
theorem dX4_put_5 : decode cX4_put 5 = .ok (.iload_n 2, 1) := by decide +kernel
theorem dX4_put_6 : decode cX4_put 6 = .ok (.iastore, 1) := by decide +kernel
theorem dX4_put_7 : decode cX4_put 7 = .ok (.aload_n 0, 1) := by decide +kernel
theorem dX4_put_8 : decode cX4_put 8 = .ok (.getfield 15, 3) := by decide +kernel
theorem dX4_put_11 : decode cX4_put 11 = .ok (.iload_n 1, 1) := by decide +kernel
theorem dX4_put_12 : decode cX4_put 12 = .ok (.iload_n 3, 1) := by decide +kernel
theorem dX4_put_13 : decode cX4_put 13 = .ok (.iastore, 1) := by decide +kernel
theorem dX4_put_14 : decode cX4_put 14 = .ok (.aload_n 0, 1) := by decide +kernel
theorem dX4_put_15 : decode cX4_put 15 = .ok (.getfield 18, 3) := by decide +kernel
theorem dX4_put_18 : decode cX4_put 18 = .ok (.iload_n 1, 1) := by decide +kernel
theorem dX4_put_19 : decode cX4_put 19 = .ok (.iload 4, 2) := by decide +kernel
theorem dX4_put_21 : decode cX4_put 21 = .ok (.iastore, 1) := by decide +kernel
theorem dX4_put_22 : decode cX4_put 22 = .ok (.aload_n 0, 1) := by decide +kernel
theorem dX4_put_23 : decode cX4_put 23 = .ok (.getfield 21, 3) := by decide +kernel
theorem dX4_put_26 : decode cX4_put 26 = .ok (.iload_n 1, 1) := by decide +kernel
theorem dX4_put_27 : decode cX4_put 27 = .ok (.iload 5, 2) := by decide +kernel
theorem dX4_put_29 : decode cX4_put 29 = .ok (.iastore, 1) := by decide +kernel
theorem dX4_put_30 : decode cX4_put 30 = .ok (.return_, 1) := by decide +kernel
def bX4_put_0 (w : ab_W) (M : Nat → ab_P) (Kn : Option Value → ab_H → Prop) : ab_P := ab_ald 0 (ab_gr w 4 1 (ab_ild 1 (ab_ild 2 (ab_is w (ab_ald 0 (ab_gr w 4 2 (ab_ild 1 (ab_ild 3 (ab_is w (ab_ald 0 (ab_gr w 4 3 (ab_ild 1 (ab_ild 4 (ab_is w (ab_ald 0 (ab_gr w 4 4 (ab_ild 1 (ab_ild 5 (ab_is w (ab_vr Kn))))))))))))))))))))
set_option maxRecDepth 20000 in
set_option maxHeartbeats 2000000 in
theorem vc_X4_put {l : Launch} (hl : l.stackTraces = false) {w : ab_W} (hI : ab_Inj w) {mc : Nat} {σ : ab_H} {As : List Value} {Kn : Option Value → ab_H → Prop} {Kx : String → ab_H → Prop} (hlen : (ab_xl As).length ≤ 6) (h : ∀ M : Nat → ab_P, (∀ L st σ, bX4_put_0 w M Kn L st σ → M 0 L st σ) → M 0 (ab_pd 6 (ab_xl As)) [] σ) : ab_Met l yX4_put (Cond.code yX4_put cX4_put 6 none) 1 mc w σ As Kn Kx := by
  refine ab_enter (by decide) hl hI hlen (by decide) ?_
  intro p e R s m args below meth c C hno hr
  exact h _ (sd_aload_n C (i := 0) dX4_put_0 rfl (sd_gr C (ci := 4) (k := 1) (r := (RX4, TX4, 5)) rfl (by decide) rfl wd_145 dX4_put_1 (sd_iload_n C (i := 1) dX4_put_4 rfl (sd_iload_n C (i := 2) dX4_put_5 rfl (sd_is C dX4_put_6 (sd_aload_n C (i := 0) dX4_put_7 rfl (sd_gr C (ci := 4) (k := 2) (r := (RX4, TX4, 5)) rfl (by decide) rfl wd_146 dX4_put_8 (sd_iload_n C (i := 1) dX4_put_11 rfl (sd_iload_n C (i := 3) dX4_put_12 rfl (sd_is C dX4_put_13 (sd_aload_n C (i := 0) dX4_put_14 rfl (sd_gr C (ci := 4) (k := 3) (r := (RX4, TX4, 5)) rfl (by decide) rfl wd_147 dX4_put_15 (sd_iload_n C (i := 1) dX4_put_18 rfl (sd_iload C dX4_put_19 (sd_is C dX4_put_21 (sd_aload_n C (i := 0) dX4_put_22 rfl (sd_gr C (ci := 4) (k := 4) (r := (RX4, TX4, 5)) rfl (by decide) rfl wd_148 dX4_put_23 (sd_iload_n C (i := 1) dX4_put_26 rfl (sd_iload C dX4_put_27 (sd_is C dX4_put_29 (sd_vr C hr dX4_put_30)))))))))))))))))))))
theorem dX4_add_0 : decode cX4_add 0 = .ok (.aload_n 0, 1) := by decide +kernel
theorem dX4_add_1 : decode cX4_add 1 = .ok (.getfield 24, 3) := by decide +kernel
theorem dX4_add_4 : decode cX4_add 4 = .ok (.bipush 8, 2) := by decide +kernel
theorem dX4_add_6 : decode cX4_add 6 = .ok (.if_icmp .ge 26, 3) := by decide +kernel
theorem dX4_add_9 : decode cX4_add 9 = .ok (.aload_n 0, 1) := by decide +kernel
theorem dX4_add_10 : decode cX4_add 10 = .ok (.aload_n 0, 1) := by decide +kernel
theorem dX4_add_11 : decode cX4_add 11 = .ok (.getfield 24, 3) := by decide +kernel
theorem dX4_add_14 : decode cX4_add 14 = .ok (.iload_n 1, 1) := by decide +kernel
theorem dX4_add_15 : decode cX4_add 15 = .ok (.iload_n 2, 1) := by decide +kernel
theorem dX4_add_16 : decode cX4_add 16 = .ok (.iload_n 3, 1) := by decide +kernel
theorem dX4_add_17 : decode cX4_add 17 = .ok (.iload 4, 2) := by decide +kernel
theorem dX4_add_19 : decode cX4_add 19 = .ok (.invokevirtual 32, 3) := by decide +kernel
theorem dX4_add_22 : decode cX4_add 22 = .ok (.aload_n 0, 1) := by decide +kernel
theorem dX4_add_23 : decode cX4_add 23 = .ok (.dup, 1) := by decide +kernel
theorem dX4_add_24 : decode cX4_add 24 = .ok (.getfield 24, 3) := by decide +kernel
theorem dX4_add_27 : decode cX4_add 27 = .ok (.iconst 1, 1) := by decide +kernel
theorem dX4_add_28 : decode cX4_add 28 = .ok (.iadd, 1) := by decide +kernel
theorem dX4_add_29 : decode cX4_add 29 = .ok (.putfield 24, 3) := by decide +kernel
theorem dX4_add_32 : decode cX4_add 32 = .ok (.return_, 1) := by decide +kernel
def bX4_add_0 (w : ab_W) (s_X4_put : ab_S) (M : Nat → ab_P) (Kn : Option Value → ab_H → Prop) : ab_P := ab_ald 0 (ab_gf w 4 0 (ab_ci (nI 8) (ab_if2 (fun x y => y ≤ x) (M 32) (ab_ald 0 (ab_ald 0 (ab_gf w 4 0 (ab_ild 1 (ab_ild 2 (ab_ild 3 (ab_ild 4 (ab_cV w 6 4 s_X4_put (ab_ald 0 (ab_dup (ab_gf w 4 0 (ab_ci (nI 1) (ab_b2 (fun x y => x + y) (ab_pf w 4 0 (M 32))))))))))))))))))
def bX4_add_32 (w : ab_W) (s_X4_put : ab_S) (M : Nat → ab_P) (Kn : Option Value → ab_H → Prop) : ab_P := ab_vr Kn
set_option maxRecDepth 20000 in
set_option maxHeartbeats 2000000 in
theorem vc_X4_add {l : Launch} (hl : l.stackTraces = false) {w : ab_W} (hI : ab_Inj w) {mc : Nat} {σ : ab_H} {As : List Value} {Kn : Option Value → ab_H → Prop} {Kx : String → ab_H → Prop} {s_X4_put : ab_S} (ok_X4_put : ab_OkN l yX4_put (Cond.code yX4_put cX4_put 6 none) 1 s_X4_put) (hlen : (ab_xl As).length ≤ 5) (h : ∀ M : Nat → ab_P, (∀ L st σ, bX4_add_0 w s_X4_put M Kn L st σ → M 0 L st σ) → (∀ L st σ, bX4_add_32 w s_X4_put M Kn L st σ → M 32 L st σ) → M 0 (ab_pd 5 (ab_xl As)) [] σ) : ab_Met l yX4_add (Cond.code yX4_add cX4_add 5 none) 2 mc w σ As Kn Kx := by
  refine ab_enter (by decide) hl hI hlen (by decide) ?_
  intro p e R s m args below meth c C hno hr
  exact h _ (sd_aload_n C (i := 0) dX4_add_0 rfl (sd_gf C (ci := 4) (k := 0) (r := (RX4, TX4, 5)) rfl (by decide) rfl wd_142 dX4_add_1 (sd_bipush C (x := nI 8) dX4_add_4 (by decide +kernel) (sd_icmp_ge C dX4_add_6 (tgt := 32) (by decide) (fun _ _ _ h => h) (sd_aload_n C (i := 0) dX4_add_9 rfl (sd_aload_n C (i := 0) dX4_add_10 rfl (sd_gf C (ci := 4) (k := 0) (r := (RX4, TX4, 5)) rfl (by decide) rfl wd_142 dX4_add_11 (sd_iload_n C (i := 1) dX4_add_14 rfl (sd_iload_n C (i := 2) dX4_add_15 rfl (sd_iload_n C (i := 3) dX4_add_16 rfl (sd_iload C dX4_add_17 (sd_cV C ok_X4_put (ci := 4) (row := (RX4, TX4, 5)) rfl rfl ⟨by decide, by decide, wd_526, wd_6, by decide +kernel⟩ wd_523 wd_525 ws_5 dX4_add_19 (sd_aload_n C (i := 0) dX4_add_22 rfl (sd_dup C dX4_add_23 (sd_gf C (ci := 4) (k := 0) (r := (RX4, TX4, 5)) rfl (by decide) rfl wd_142 dX4_add_24 (sd_iconst C (x := nI 1) dX4_add_27 (by decide +kernel) (sd_iadd C dX4_add_28 (sd_pf C (ci := 4) (k := 0) (r := (RX4, TX4, 5)) rfl (by decide) rfl rfl (by decide +kernel) wd_142 dX4_add_29 (fun _ _ _ h => h)))))))))))))))))))
    (sd_vr C hr dX4_add_32)
theorem dX4_bringDue_0 : decode cX4_bringDue 0 = .ok (.iconst 0, 1) := by decide +kernel
theorem dX4_bringDue_1 : decode cX4_bringDue 1 = .ok (.istore_n 3, 1) := by decide +kernel
theorem dX4_bringDue_2 : decode cX4_bringDue 2 = .ok (.iconst 0, 1) := by decide +kernel
theorem dX4_bringDue_3 : decode cX4_bringDue 3 = .ok (.istore 4, 2) := by decide +kernel
theorem dX4_bringDue_5 : decode cX4_bringDue 5 = .ok (.iload 4, 2) := by decide +kernel
theorem dX4_bringDue_7 : decode cX4_bringDue 7 = .ok (.aload_n 0, 1) := by decide +kernel
theorem dX4_bringDue_8 : decode cX4_bringDue 8 = .ok (.getfield 24, 3) := by decide +kernel
theorem dX4_bringDue_11 : decode cX4_bringDue 11 = .ok (.if_icmp .ge 84, 3) := by decide +kernel
theorem dX4_bringDue_14 : decode cX4_bringDue 14 = .ok (.aload_n 0, 1) := by decide +kernel
theorem dX4_bringDue_15 : decode cX4_bringDue 15 = .ok (.getfield 9, 3) := by decide +kernel
theorem dX4_bringDue_18 : decode cX4_bringDue 18 = .ok (.iload 4, 2) := by decide +kernel
theorem dX4_bringDue_20 : decode cX4_bringDue 20 = .ok (.iaload, 1) := by decide +kernel
theorem dX4_bringDue_21 : decode cX4_bringDue 21 = .ok (.iload_n 1, 1) := by decide +kernel
theorem dX4_bringDue_22 : decode cX4_bringDue 22 = .ok (.if_icmp .ne 31, 3) := by decide +kernel
theorem dX4_bringDue_25 : decode cX4_bringDue 25 = .ok (.aload_n 2, 1) := by decide +kernel
theorem dX4_bringDue_26 : decode cX4_bringDue 26 = .ok (.aload_n 0, 1) := by decide +kernel
theorem dX4_bringDue_27 : decode cX4_bringDue 27 = .ok (.getfield 15, 3) := by decide +kernel
theorem dX4_bringDue_30 : decode cX4_bringDue 30 = .ok (.iload 4, 2) := by decide +kernel
theorem dX4_bringDue_32 : decode cX4_bringDue 32 = .ok (.iaload, 1) := by decide +kernel
theorem dX4_bringDue_33 : decode cX4_bringDue 33 = .ok (.aload_n 0, 1) := by decide +kernel
theorem dX4_bringDue_34 : decode cX4_bringDue 34 = .ok (.getfield 18, 3) := by decide +kernel
theorem dX4_bringDue_37 : decode cX4_bringDue 37 = .ok (.iload 4, 2) := by decide +kernel
theorem dX4_bringDue_39 : decode cX4_bringDue 39 = .ok (.iaload, 1) := by decide +kernel
theorem dX4_bringDue_40 : decode cX4_bringDue 40 = .ok (.aload_n 0, 1) := by decide +kernel
theorem dX4_bringDue_41 : decode cX4_bringDue 41 = .ok (.getfield 21, 3) := by decide +kernel
theorem dX4_bringDue_44 : decode cX4_bringDue 44 = .ok (.iload 4, 2) := by decide +kernel
theorem dX4_bringDue_46 : decode cX4_bringDue 46 = .ok (.iaload, 1) := by decide +kernel
theorem dX4_bringDue_47 : decode cX4_bringDue 47 = .ok (.invokevirtual 36, 3) := by decide +kernel
theorem dX4_bringDue_50 : decode cX4_bringDue 50 = .ok (.goto 39, 3) := by decide +kernel
theorem dX4_bringDue_53 : decode cX4_bringDue 53 = .ok (.aload_n 0, 1) := by decide +kernel
theorem dX4_bringDue_54 : decode cX4_bringDue 54 = .ok (.iload_n 3, 1) := by decide +kernel
theorem dX4_bringDue_55 : decode cX4_bringDue 55 = .ok (.aload_n 0, 1) := by decide +kernel
theorem dX4_bringDue_56 : decode cX4_bringDue 56 = .ok (.getfield 9, 3) := by decide +kernel
theorem dX4_bringDue_59 : decode cX4_bringDue 59 = .ok (.iload 4, 2) := by decide +kernel
theorem dX4_bringDue_61 : decode cX4_bringDue 61 = .ok (.iaload, 1) := by decide +kernel
theorem dX4_bringDue_62 : decode cX4_bringDue 62 = .ok (.aload_n 0, 1) := by decide +kernel
theorem dX4_bringDue_63 : decode cX4_bringDue 63 = .ok (.getfield 15, 3) := by decide +kernel
theorem dX4_bringDue_66 : decode cX4_bringDue 66 = .ok (.iload 4, 2) := by decide +kernel
theorem dX4_bringDue_68 : decode cX4_bringDue 68 = .ok (.iaload, 1) := by decide +kernel
theorem dX4_bringDue_69 : decode cX4_bringDue 69 = .ok (.aload_n 0, 1) := by decide +kernel
theorem dX4_bringDue_70 : decode cX4_bringDue 70 = .ok (.getfield 18, 3) := by decide +kernel
theorem dX4_bringDue_73 : decode cX4_bringDue 73 = .ok (.iload 4, 2) := by decide +kernel
theorem dX4_bringDue_75 : decode cX4_bringDue 75 = .ok (.iaload, 1) := by decide +kernel
theorem dX4_bringDue_76 : decode cX4_bringDue 76 = .ok (.aload_n 0, 1) := by decide +kernel
theorem dX4_bringDue_77 : decode cX4_bringDue 77 = .ok (.getfield 21, 3) := by decide +kernel
theorem dX4_bringDue_80 : decode cX4_bringDue 80 = .ok (.iload 4, 2) := by decide +kernel
theorem dX4_bringDue_82 : decode cX4_bringDue 82 = .ok (.iaload, 1) := by decide +kernel
theorem dX4_bringDue_83 : decode cX4_bringDue 83 = .ok (.invokevirtual 32, 3) := by decide +kernel
theorem dX4_bringDue_86 : decode cX4_bringDue 86 = .ok (.iinc 3 1, 3) := by decide +kernel
theorem dX4_bringDue_89 : decode cX4_bringDue 89 = .ok (.iinc 4 1, 3) := by decide +kernel
theorem dX4_bringDue_92 : decode cX4_bringDue 92 = .ok (.goto (-87), 3) := by decide +kernel
theorem dX4_bringDue_95 : decode cX4_bringDue 95 = .ok (.aload_n 0, 1) := by decide +kernel
theorem dX4_bringDue_96 : decode cX4_bringDue 96 = .ok (.iload_n 3, 1) := by decide +kernel
theorem dX4_bringDue_97 : decode cX4_bringDue 97 = .ok (.putfield 24, 3) := by decide +kernel
theorem dX4_bringDue_100 : decode cX4_bringDue 100 = .ok (.return_, 1) := by decide +kernel
def bX4_bringDue_0 (w : ab_W) (s_X4_put : ab_S) (s_X7_receive : ab_S) (M : Nat → ab_P) (Kn : Option Value → ab_H → Prop) : ab_P := ab_ci (nI 0) (ab_ist 3 (ab_ci (nI 0) (ab_ist 4 (M 5))))
def bX4_bringDue_5 (w : ab_W) (s_X4_put : ab_S) (s_X7_receive : ab_S) (M : Nat → ab_P) (Kn : Option Value → ab_H → Prop) : ab_P := ab_ild 4 (ab_ald 0 (ab_gf w 4 0 (ab_if2 (fun x y => y ≤ x) (ab_ald 0 (ab_ild 3 (ab_pf w 4 0 (ab_vr Kn)))) (ab_ald 0 (ab_gr w 4 1 (ab_ild 4 (ab_ia w 11 (ab_ild 1 (ab_if2 (fun x y => ¬ x = y) (ab_ald 0 (ab_ild 3 (ab_ald 0 (ab_gr w 4 1 (ab_ild 4 (ab_ia w 11 (ab_ald 0 (ab_gr w 4 2 (ab_ild 4 (ab_ia w 11 (ab_ald 0 (ab_gr w 4 3 (ab_ild 4 (ab_ia w 11 (ab_ald 0 (ab_gr w 4 4 (ab_ild 4 (ab_ia w 11 (ab_cV w 6 4 s_X4_put (ab_inc 3 (nI 1) (M 89))))))))))))))))))))) (ab_ald 2 (ab_ald 0 (ab_gr w 4 2 (ab_ild 4 (ab_ia w 11 (ab_ald 0 (ab_gr w 4 3 (ab_ild 4 (ab_ia w 11 (ab_ald 0 (ab_gr w 4 4 (ab_ild 4 (ab_ia w 11 (ab_cV w 4 7 s_X7_receive (M 89))))))))))))))))))))))))
def bX4_bringDue_89 (w : ab_W) (s_X4_put : ab_S) (s_X7_receive : ab_S) (M : Nat → ab_P) (Kn : Option Value → ab_H → Prop) : ab_P := ab_inc 4 (nI 1) (M 5)
set_option maxRecDepth 20000 in
set_option maxHeartbeats 2000000 in
theorem vc_X4_bringDue {l : Launch} (hl : l.stackTraces = false) {w : ab_W} (hI : ab_Inj w) {mc : Nat} {σ : ab_H} {As : List Value} {Kn : Option Value → ab_H → Prop} {Kx : String → ab_H → Prop} {s_X4_put : ab_S} (ok_X4_put : ab_OkN l yX4_put (Cond.code yX4_put cX4_put 6 none) 1 s_X4_put) {s_X7_receive : ab_S} (ok_X7_receive : ab_OkN l yX7_receive (Cond.code yX7_receive cX7_receive 4 none) 2 s_X7_receive) (hlen : (ab_xl As).length ≤ 5) (h : ∀ M : Nat → ab_P, (∀ L st σ, bX4_bringDue_0 w s_X4_put s_X7_receive M Kn L st σ → M 0 L st σ) → (∀ L st σ, bX4_bringDue_5 w s_X4_put s_X7_receive M Kn L st σ → M 5 L st σ) → (∀ L st σ, bX4_bringDue_89 w s_X4_put s_X7_receive M Kn L st σ → M 89 L st σ) → M 0 (ab_pd 5 (ab_xl As)) [] σ) : ab_Met l yX4_bringDue (Cond.code yX4_bringDue cX4_bringDue 5 none) 3 mc w σ As Kn Kx := by
  refine ab_enter (by decide) hl hI hlen (by decide) ?_
  intro p e R s m args below meth c C hno hr
  exact h _ (sd_iconst C (x := nI 0) dX4_bringDue_0 (by decide +kernel) (sd_istore_n C (i := 3) dX4_bringDue_1 rfl (by decide) (sd_iconst C (x := nI 0) dX4_bringDue_2 (by decide +kernel) (sd_istore C dX4_bringDue_3 (by decide) (fun _ _ _ h => h)))))
    (sd_iload C dX4_bringDue_5 (sd_aload_n C (i := 0) dX4_bringDue_7 rfl (sd_gf C (ci := 4) (k := 0) (r := (RX4, TX4, 5)) rfl (by decide) rfl wd_142 dX4_bringDue_8 (sd_icmp_ge C dX4_bringDue_11 (tgt := 95) (by decide) (sd_aload_n C (i := 0) dX4_bringDue_95 rfl (sd_iload_n C (i := 3) dX4_bringDue_96 rfl (sd_pf C (ci := 4) (k := 0) (r := (RX4, TX4, 5)) rfl (by decide) rfl rfl (by decide +kernel) wd_142 dX4_bringDue_97 (sd_vr C hr dX4_bringDue_100)))) (sd_aload_n C (i := 0) dX4_bringDue_14 rfl (sd_gr C (ci := 4) (k := 1) (r := (RX4, TX4, 5)) rfl (by decide) rfl wd_145 dX4_bringDue_15 (sd_iload C dX4_bringDue_18 (sd_ia C dX4_bringDue_20 (sd_iload_n C (i := 1) dX4_bringDue_21 rfl (sd_icmp_ne C dX4_bringDue_22 (tgt := 53) (by decide) (sd_aload_n C (i := 0) dX4_bringDue_53 rfl (sd_iload_n C (i := 3) dX4_bringDue_54 rfl (sd_aload_n C (i := 0) dX4_bringDue_55 rfl (sd_gr C (ci := 4) (k := 1) (r := (RX4, TX4, 5)) rfl (by decide) rfl wd_145 dX4_bringDue_56 (sd_iload C dX4_bringDue_59 (sd_ia C dX4_bringDue_61 (sd_aload_n C (i := 0) dX4_bringDue_62 rfl (sd_gr C (ci := 4) (k := 2) (r := (RX4, TX4, 5)) rfl (by decide) rfl wd_146 dX4_bringDue_63 (sd_iload C dX4_bringDue_66 (sd_ia C dX4_bringDue_68 (sd_aload_n C (i := 0) dX4_bringDue_69 rfl (sd_gr C (ci := 4) (k := 3) (r := (RX4, TX4, 5)) rfl (by decide) rfl wd_147 dX4_bringDue_70 (sd_iload C dX4_bringDue_73 (sd_ia C dX4_bringDue_75 (sd_aload_n C (i := 0) dX4_bringDue_76 rfl (sd_gr C (ci := 4) (k := 4) (r := (RX4, TX4, 5)) rfl (by decide) rfl wd_148 dX4_bringDue_77 (sd_iload C dX4_bringDue_80 (sd_ia C dX4_bringDue_82 (sd_cV C ok_X4_put (ci := 4) (row := (RX4, TX4, 5)) rfl rfl ⟨by decide, by decide, wd_526, wd_6, by decide +kernel⟩ wd_523 wd_525 ws_5 dX4_bringDue_83 (sd_iinc C (x := nI 1) dX4_bringDue_86 (by decide +kernel) (by decide) (fun _ _ _ h => h))))))))))))))))))))) (sd_aload_n C (i := 2) dX4_bringDue_25 rfl (sd_aload_n C (i := 0) dX4_bringDue_26 rfl (sd_gr C (ci := 4) (k := 2) (r := (RX4, TX4, 5)) rfl (by decide) rfl wd_146 dX4_bringDue_27 (sd_iload C dX4_bringDue_30 (sd_ia C dX4_bringDue_32 (sd_aload_n C (i := 0) dX4_bringDue_33 rfl (sd_gr C (ci := 4) (k := 3) (r := (RX4, TX4, 5)) rfl (by decide) rfl wd_147 dX4_bringDue_34 (sd_iload C dX4_bringDue_37 (sd_ia C dX4_bringDue_39 (sd_aload_n C (i := 0) dX4_bringDue_40 rfl (sd_gr C (ci := 4) (k := 4) (r := (RX4, TX4, 5)) rfl (by decide) rfl wd_148 dX4_bringDue_41 (sd_iload C dX4_bringDue_44 (sd_ia C dX4_bringDue_46 (sd_cV C ok_X7_receive (ci := 7) (row := (RX7, TX7, 8)) rfl rfl ⟨by decide, by decide, wd_485, wd_4, by decide +kernel⟩ wd_543 wd_483 wd_484 dX4_bringDue_47 (sd_goto C dX4_bringDue_50 (tgt := 89) (by decide) (fun _ _ _ h => h))))))))))))))))))))))))))
    (sd_iinc C (x := nI 1) dX4_bringDue_89 (by decide +kernel) (by decide) (sd_goto C dX4_bringDue_92 (tgt := 5) (by decide) (fun _ _ _ h => h)))
