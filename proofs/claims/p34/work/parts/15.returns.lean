theorem dX5_copyFrom_0 : decode cX5_copyFrom 0 = .ok (.aload_n 0, 1) := by decide +kernel
theorem dX5_copyFrom_1 : decode cX5_copyFrom 1 = .ok (.aload_n 1, 1) := by decide +kernel
theorem dX5_copyFrom_2 : decode cX5_copyFrom 2 = .ok (.getfield 21, 3) := by decide +kernel
theorem dX5_copyFrom_5 : decode cX5_copyFrom 5 = .ok (.putfield 21, 3) := by decide +kernel
theorem dX5_copyFrom_8 : decode cX5_copyFrom 8 = .ok (.aload_n 1, 1) := by decide +kernel
theorem dX5_copyFrom_9 : decode cX5_copyFrom 9 = .ok (.getfield 11, 3) := by decide +kernel
theorem dX5_copyFrom_12 : decode cX5_copyFrom 12 = .ok (.aload_n 0, 1) := by decide +kernel
theorem dX5_copyFrom_13 : decode cX5_copyFrom 13 = .ok (.getfield 11, 3) := by decide +kernel
theorem dX5_copyFrom_16 : decode cX5_copyFrom 16 = .ok (.invokestatic 25, 3) := by decide +kernel
theorem dX5_copyFrom_19 : decode cX5_copyFrom 19 = .ok (.aload_n 1, 1) := by decide +kernel
theorem dX5_copyFrom_20 : decode cX5_copyFrom 20 = .ok (.getfield 15, 3) := by decide +kernel
theorem dX5_copyFrom_23 : decode cX5_copyFrom 23 = .ok (.aload_n 0, 1) := by decide +kernel
theorem dX5_copyFrom_24 : decode cX5_copyFrom 24 = .ok (.getfield 15, 3) := by decide +kernel
theorem dX5_copyFrom_27 : decode cX5_copyFrom 27 = .ok (.invokestatic 25, 3) := by decide +kernel
theorem dX5_copyFrom_30 : decode cX5_copyFrom 30 = .ok (.aload_n 1, 1) := by decide +kernel
theorem dX5_copyFrom_31 : decode cX5_copyFrom 31 = .ok (.getfield 18, 3) := by decide +kernel
theorem dX5_copyFrom_34 : decode cX5_copyFrom 34 = .ok (.aload_n 0, 1) := by decide +kernel
theorem dX5_copyFrom_35 : decode cX5_copyFrom 35 = .ok (.getfield 18, 3) := by decide +kernel
theorem dX5_copyFrom_38 : decode cX5_copyFrom 38 = .ok (.invokestatic 25, 3) := by decide +kernel
theorem dX5_copyFrom_41 : decode cX5_copyFrom 41 = .ok (.return_, 1) := by decide +kernel
def bX5_copyFrom_0 (w : ab_W) (s_X9_copyRow : ab_S) (M : Nat → ab_P) (Kn : Option Value → ab_H → Prop) : ab_P := ab_ald 0 (ab_ald 1 (ab_gf w 5 0 (ab_pf w 5 0 (ab_ald 1 (ab_gr w 5 1 (ab_ald 0 (ab_gr w 5 1 (ab_cN w 2 s_X9_copyRow (ab_ald 1 (ab_gr w 5 2 (ab_ald 0 (ab_gr w 5 2 (ab_cN w 2 s_X9_copyRow (ab_ald 1 (ab_gr w 5 3 (ab_ald 0 (ab_gr w 5 3 (ab_cN w 2 s_X9_copyRow (ab_vr Kn)))))))))))))))))))
set_option maxRecDepth 20000 in
set_option maxHeartbeats 2000000 in
theorem vc_X5_copyFrom {l : Launch} (hl : l.stackTraces = false) {w : ab_W} (hI : ab_Inj w) {mc : Nat} {σ : ab_H} {As : List Value} {Kn : Option Value → ab_H → Prop} {Kx : String → ab_H → Prop} {s_X9_copyRow : ab_S} (ok_X9_copyRow : ab_OkN l yX9_copyRow (Cond.code yX9_copyRow cX9_copyRow 2 none) 2 s_X9_copyRow) (hlen : (ab_xl As).length ≤ 2) (h : ∀ M : Nat → ab_P, (∀ L st σ, bX5_copyFrom_0 w s_X9_copyRow M Kn L st σ → M 0 L st σ) → M 0 (ab_pd 2 (ab_xl As)) [] σ) : ab_Met l yX5_copyFrom (Cond.code yX5_copyFrom cX5_copyFrom 2 none) 3 mc w σ As Kn Kx := by
  refine ab_enter (by decide) hl hI hlen (by decide) ?_
  intro p e R s m args below meth c C hno hr
  exact h _ (sd_aload_n C (i := 0) dX5_copyFrom_0 rfl (sd_aload_n C (i := 1) dX5_copyFrom_1 rfl (sd_gf C (ci := 5) (k := 0) (r := (RX5, TX5, 4)) rfl (by decide) rfl wd_166 dX5_copyFrom_2 (sd_pf C (ci := 5) (k := 0) (r := (RX5, TX5, 4)) rfl (by decide) rfl rfl (by decide +kernel) wd_166 dX5_copyFrom_5 (sd_aload_n C (i := 1) dX5_copyFrom_8 rfl (sd_gr C (ci := 5) (k := 1) (r := (RX5, TX5, 4)) rfl (by decide) rfl wd_168 dX5_copyFrom_9 (sd_aload_n C (i := 0) dX5_copyFrom_12 rfl (sd_gr C (ci := 5) (k := 1) (r := (RX5, TX5, 4)) rfl (by decide) rfl wd_168 dX5_copyFrom_13 (sd_cSN C ok_X9_copyRow ⟨by decide, by decide, wd_429, wd_1, by decide +kernel⟩ wn_450 wd_428 dX5_copyFrom_16 (sd_aload_n C (i := 1) dX5_copyFrom_19 rfl (sd_gr C (ci := 5) (k := 2) (r := (RX5, TX5, 4)) rfl (by decide) rfl wd_169 dX5_copyFrom_20 (sd_aload_n C (i := 0) dX5_copyFrom_23 rfl (sd_gr C (ci := 5) (k := 2) (r := (RX5, TX5, 4)) rfl (by decide) rfl wd_169 dX5_copyFrom_24 (sd_cSN C ok_X9_copyRow ⟨by decide, by decide, wd_429, wd_1, by decide +kernel⟩ wn_450 wd_428 dX5_copyFrom_27 (sd_aload_n C (i := 1) dX5_copyFrom_30 rfl (sd_gr C (ci := 5) (k := 3) (r := (RX5, TX5, 4)) rfl (by decide) rfl wd_170 dX5_copyFrom_31 (sd_aload_n C (i := 0) dX5_copyFrom_34 rfl (sd_gr C (ci := 5) (k := 3) (r := (RX5, TX5, 4)) rfl (by decide) rfl wd_170 dX5_copyFrom_35 (sd_cSN C ok_X9_copyRow ⟨by decide, by decide, wd_429, wd_1, by decide +kernel⟩ wn_450 wd_428 dX5_copyFrom_38 (sd_vr C hr dX5_copyFrom_41))))))))))))))))))))
theorem dX5_put_0 : decode cX5_put 0 = .ok (.aload_n 0, 1) := by decide +kernel
theorem dX5_put_1 : decode cX5_put 1 = .ok (.getfield 11, 3) := by decide +kernel
theorem dX5_put_4 : decode cX5_put 4 = .ok (.iload_n 1, 1) := by decide +kernel
theorem dX5_put_5 : decode cX5_put 5 = .ok (.iload_n 2, 1) := by decide +kernel
theorem dX5_put_6 : decode cX5_put 6 = .ok (.iastore, 1) := by decide +kernel
theorem dX5_put_7 : decode cX5_put 7 = .ok (.aload_n 0, 1) := by decide +kernel
theorem dX5_put_8 : decode cX5_put 8 = .ok (.getfield 15, 3) := by decide +kernel
theorem dX5_put_11 : decode cX5_put 11 = .ok (.iload_n 1, 1) := by decide +kernel
theorem dX5_put_12 : decode cX5_put 12 = .ok (.iload_n 3, 1) := by decide +kernel
theorem dX5_put_13 : decode cX5_put 13 = .ok (.iastore, 1) := by decide +kernel
theorem dX5_put_14 : decode cX5_put 14 = .ok (.aload_n 0, 1) := by decide +kernel
theorem dX5_put_15 : decode cX5_put 15 = .ok (.getfield 18, 3) := by decide +kernel
theorem dX5_put_18 : decode cX5_put 18 = .ok (.iload_n 1, 1) := by decide +kernel
theorem dX5_put_19 : decode cX5_put 19 = .ok (.iload 4, 2) := by decide +kernel
theorem dX5_put_21 : decode cX5_put 21 = .ok (.iastore, 1) := by decide +kernel
theorem dX5_put_22 : decode cX5_put 22 = .ok (.return_, 1) := by decide +kernel
def bX5_put_0 (w : ab_W) (M : Nat → ab_P) (Kn : Option Value → ab_H → Prop) : ab_P := ab_ald 0 (ab_gr w 5 1 (ab_ild 1 (ab_ild 2 (ab_is w (ab_ald 0 (ab_gr w 5 2 (ab_ild 1 (ab_ild 3 (ab_is w (ab_ald 0 (ab_gr w 5 3 (ab_ild 1 (ab_ild 4 (ab_is w (ab_vr Kn)))))))))))))))
set_option maxRecDepth 20000 in
set_option maxHeartbeats 2000000 in
theorem vc_X5_put {l : Launch} (hl : l.stackTraces = false) {w : ab_W} (hI : ab_Inj w) {mc : Nat} {σ : ab_H} {As : List Value} {Kn : Option Value → ab_H → Prop} {Kx : String → ab_H → Prop} (hlen : (ab_xl As).length ≤ 5) (h : ∀ M : Nat → ab_P, (∀ L st σ, bX5_put_0 w M Kn L st σ → M 0 L st σ) → M 0 (ab_pd 5 (ab_xl As)) [] σ) : ab_Met l yX5_put (Cond.code yX5_put cX5_put 5 none) 1 mc w σ As Kn Kx := by
  refine ab_enter (by decide) hl hI hlen (by decide) ?_
  intro p e R s m args below meth c C hno hr
  exact h _ (sd_aload_n C (i := 0) dX5_put_0 rfl (sd_gr C (ci := 5) (k := 1) (r := (RX5, TX5, 4)) rfl (by decide) rfl wd_168 dX5_put_1 (sd_iload_n C (i := 1) dX5_put_4 rfl (sd_iload_n C (i := 2) dX5_put_5 rfl (sd_is C dX5_put_6 (sd_aload_n C (i := 0) dX5_put_7 rfl (sd_gr C (ci := 5) (k := 2) (r := (RX5, TX5, 4)) rfl (by decide) rfl wd_169 dX5_put_8 (sd_iload_n C (i := 1) dX5_put_11 rfl (sd_iload_n C (i := 3) dX5_put_12 rfl (sd_is C dX5_put_13 (sd_aload_n C (i := 0) dX5_put_14 rfl (sd_gr C (ci := 5) (k := 3) (r := (RX5, TX5, 4)) rfl (by decide) rfl wd_170 dX5_put_15 (sd_iload_n C (i := 1) dX5_put_18 rfl (sd_iload C dX5_put_19 (sd_is C dX5_put_21 (sd_vr C hr dX5_put_22))))))))))))))))
theorem dX5_bringDue_0 : decode cX5_bringDue 0 = .ok (.iconst 0, 1) := by decide +kernel
theorem dX5_bringDue_1 : decode cX5_bringDue 1 = .ok (.istore_n 3, 1) := by decide +kernel
theorem dX5_bringDue_2 : decode cX5_bringDue 2 = .ok (.iload_n 3, 1) := by decide +kernel
theorem dX5_bringDue_3 : decode cX5_bringDue 3 = .ok (.aload_n 0, 1) := by decide +kernel
theorem dX5_bringDue_4 : decode cX5_bringDue 4 = .ok (.getfield 21, 3) := by decide +kernel
theorem dX5_bringDue_7 : decode cX5_bringDue 7 = .ok (.if_icmp .ge 36, 3) := by decide +kernel
theorem dX5_bringDue_10 : decode cX5_bringDue 10 = .ok (.aload_n 0, 1) := by decide +kernel
theorem dX5_bringDue_11 : decode cX5_bringDue 11 = .ok (.getfield 11, 3) := by decide +kernel
theorem dX5_bringDue_14 : decode cX5_bringDue 14 = .ok (.iload_n 3, 1) := by decide +kernel
theorem dX5_bringDue_15 : decode cX5_bringDue 15 = .ok (.iaload, 1) := by decide +kernel
theorem dX5_bringDue_16 : decode cX5_bringDue 16 = .ok (.iload_n 1, 1) := by decide +kernel
theorem dX5_bringDue_17 : decode cX5_bringDue 17 = .ok (.if_icmp .ne 26, 3) := by decide +kernel
theorem dX5_bringDue_20 : decode cX5_bringDue 20 = .ok (.aload_n 2, 1) := by decide +kernel
theorem dX5_bringDue_21 : decode cX5_bringDue 21 = .ok (.aload_n 0, 1) := by decide +kernel
theorem dX5_bringDue_22 : decode cX5_bringDue 22 = .ok (.getfield 15, 3) := by decide +kernel
theorem dX5_bringDue_25 : decode cX5_bringDue 25 = .ok (.iload_n 3, 1) := by decide +kernel
theorem dX5_bringDue_26 : decode cX5_bringDue 26 = .ok (.iaload, 1) := by decide +kernel
theorem dX5_bringDue_27 : decode cX5_bringDue 27 = .ok (.aload_n 0, 1) := by decide +kernel
theorem dX5_bringDue_28 : decode cX5_bringDue 28 = .ok (.getfield 18, 3) := by decide +kernel
theorem dX5_bringDue_31 : decode cX5_bringDue 31 = .ok (.iload_n 3, 1) := by decide +kernel
theorem dX5_bringDue_32 : decode cX5_bringDue 32 = .ok (.iaload, 1) := by decide +kernel
theorem dX5_bringDue_33 : decode cX5_bringDue 33 = .ok (.iconst 1, 1) := by decide +kernel
theorem dX5_bringDue_34 : decode cX5_bringDue 34 = .ok (.invokevirtual 33, 3) := by decide +kernel
theorem dX5_bringDue_37 : decode cX5_bringDue 37 = .ok (.iinc 3 1, 3) := by decide +kernel
theorem dX5_bringDue_40 : decode cX5_bringDue 40 = .ok (.goto (-38), 3) := by decide +kernel
theorem dX5_bringDue_43 : decode cX5_bringDue 43 = .ok (.iload_n 3, 1) := by decide +kernel
theorem dX5_bringDue_44 : decode cX5_bringDue 44 = .ok (.ifCond .le 60, 3) := by decide +kernel
theorem dX5_bringDue_47 : decode cX5_bringDue 47 = .ok (.iload_n 3, 1) := by decide +kernel
theorem dX5_bringDue_48 : decode cX5_bringDue 48 = .ok (.istore 4, 2) := by decide +kernel
theorem dX5_bringDue_50 : decode cX5_bringDue 50 = .ok (.iload 4, 2) := by decide +kernel
theorem dX5_bringDue_52 : decode cX5_bringDue 52 = .ok (.aload_n 0, 1) := by decide +kernel
theorem dX5_bringDue_53 : decode cX5_bringDue 53 = .ok (.getfield 21, 3) := by decide +kernel
theorem dX5_bringDue_56 : decode cX5_bringDue 56 = .ok (.if_icmp .ge 38, 3) := by decide +kernel
theorem dX5_bringDue_59 : decode cX5_bringDue 59 = .ok (.aload_n 0, 1) := by decide +kernel
theorem dX5_bringDue_60 : decode cX5_bringDue 60 = .ok (.iload 4, 2) := by decide +kernel
theorem dX5_bringDue_62 : decode cX5_bringDue 62 = .ok (.iload_n 3, 1) := by decide +kernel
theorem dX5_bringDue_63 : decode cX5_bringDue 63 = .ok (.isub, 1) := by decide +kernel
theorem dX5_bringDue_64 : decode cX5_bringDue 64 = .ok (.aload_n 0, 1) := by decide +kernel
theorem dX5_bringDue_65 : decode cX5_bringDue 65 = .ok (.getfield 11, 3) := by decide +kernel
theorem dX5_bringDue_68 : decode cX5_bringDue 68 = .ok (.iload 4, 2) := by decide +kernel
theorem dX5_bringDue_70 : decode cX5_bringDue 70 = .ok (.iaload, 1) := by decide +kernel
theorem dX5_bringDue_71 : decode cX5_bringDue 71 = .ok (.aload_n 0, 1) := by decide +kernel
theorem dX5_bringDue_72 : decode cX5_bringDue 72 = .ok (.getfield 15, 3) := by decide +kernel
theorem dX5_bringDue_75 : decode cX5_bringDue 75 = .ok (.iload 4, 2) := by decide +kernel
theorem dX5_bringDue_77 : decode cX5_bringDue 77 = .ok (.iaload, 1) := by decide +kernel
theorem dX5_bringDue_78 : decode cX5_bringDue 78 = .ok (.aload_n 0, 1) := by decide +kernel
theorem dX5_bringDue_79 : decode cX5_bringDue 79 = .ok (.getfield 18, 3) := by decide +kernel
theorem dX5_bringDue_82 : decode cX5_bringDue 82 = .ok (.iload 4, 2) := by decide +kernel
theorem dX5_bringDue_84 : decode cX5_bringDue 84 = .ok (.iaload, 1) := by decide +kernel
theorem dX5_bringDue_85 : decode cX5_bringDue 85 = .ok (.invokevirtual 29, 3) := by decide +kernel
theorem dX5_bringDue_88 : decode cX5_bringDue 88 = .ok (.iinc 4 1, 3) := by decide +kernel
theorem dX5_bringDue_91 : decode cX5_bringDue 91 = .ok (.goto (-41), 3) := by decide +kernel
theorem dX5_bringDue_94 : decode cX5_bringDue 94 = .ok (.aload_n 0, 1) := by decide +kernel
theorem dX5_bringDue_95 : decode cX5_bringDue 95 = .ok (.dup, 1) := by decide +kernel
theorem dX5_bringDue_96 : decode cX5_bringDue 96 = .ok (.getfield 21, 3) := by decide +kernel
theorem dX5_bringDue_99 : decode cX5_bringDue 99 = .ok (.iload_n 3, 1) := by decide +kernel
theorem dX5_bringDue_100 : decode cX5_bringDue 100 = .ok (.isub, 1) := by decide +kernel
theorem dX5_bringDue_101 : decode cX5_bringDue 101 = .ok (.putfield 21, 3) := by decide +kernel
theorem dX5_bringDue_104 : decode cX5_bringDue 104 = .ok (.iload_n 3, 1) := by decide +kernel
theorem dX5_bringDue_105 : decode cX5_bringDue 105 = .ok (.ireturn, 1) := by decide +kernel
def bX5_bringDue_0 (w : ab_W) (s_X7_addSondes : ab_S) (s_X5_put : ab_S) (M : Nat → ab_P) (Kn : Option Value → ab_H → Prop) : ab_P := ab_ci (nI 0) (ab_ist 3 (M 2))
def bX5_bringDue_2 (w : ab_W) (s_X7_addSondes : ab_S) (s_X5_put : ab_S) (M : Nat → ab_P) (Kn : Option Value → ab_H → Prop) : ab_P := ab_ild 3 (ab_ald 0 (ab_gf w 5 0 (ab_if2 (fun x y => y ≤ x) (M 43) (ab_ald 0 (ab_gr w 5 1 (ab_ild 3 (ab_ia w 11 (ab_ild 1 (ab_if2 (fun x y => ¬ x = y) (M 43) (ab_ald 2 (ab_ald 0 (ab_gr w 5 2 (ab_ild 3 (ab_ia w 11 (ab_ald 0 (ab_gr w 5 3 (ab_ild 3 (ab_ia w 11 (ab_ci (nI 1) (ab_cV w 4 7 s_X7_addSondes (ab_inc 3 (nI 1) (M 2))))))))))))))))))))))
def bX5_bringDue_43 (w : ab_W) (s_X7_addSondes : ab_S) (s_X5_put : ab_S) (M : Nat → ab_P) (Kn : Option Value → ab_H → Prop) : ab_P := ab_ild 3 (ab_if1 (fun x => x ≤ 0) (M 104) (ab_ild 3 (ab_ist 4 (M 50))))
def bX5_bringDue_50 (w : ab_W) (s_X7_addSondes : ab_S) (s_X5_put : ab_S) (M : Nat → ab_P) (Kn : Option Value → ab_H → Prop) : ab_P := ab_ild 4 (ab_ald 0 (ab_gf w 5 0 (ab_if2 (fun x y => y ≤ x) (ab_ald 0 (ab_dup (ab_gf w 5 0 (ab_ild 3 (ab_b2 (fun x y => x - y) (ab_pf w 5 0 (M 104))))))) (ab_ald 0 (ab_ild 4 (ab_ild 3 (ab_b2 (fun x y => x - y) (ab_ald 0 (ab_gr w 5 1 (ab_ild 4 (ab_ia w 11 (ab_ald 0 (ab_gr w 5 2 (ab_ild 4 (ab_ia w 11 (ab_ald 0 (ab_gr w 5 3 (ab_ild 4 (ab_ia w 11 (ab_cV w 5 5 s_X5_put (ab_inc 4 (nI 1) (M 50))))))))))))))))))))))
def bX5_bringDue_104 (w : ab_W) (s_X7_addSondes : ab_S) (s_X5_put : ab_S) (M : Nat → ab_P) (Kn : Option Value → ab_H → Prop) : ab_P := ab_ild 3 (ab_ir Kn)
set_option maxRecDepth 20000 in
set_option maxHeartbeats 2000000 in
theorem vc_X5_bringDue {l : Launch} (hl : l.stackTraces = false) {w : ab_W} (hI : ab_Inj w) {mc : Nat} {σ : ab_H} {As : List Value} {Kn : Option Value → ab_H → Prop} {Kx : String → ab_H → Prop} {s_X7_addSondes : ab_S} (ok_X7_addSondes : ab_OkN l yX7_addSondes (Cond.code yX7_addSondes cX7_addSondes 4 none) 2 s_X7_addSondes) {s_X5_put : ab_S} (ok_X5_put : ab_OkN l yX5_put (Cond.code yX5_put cX5_put 5 none) 1 s_X5_put) (hlen : (ab_xl As).length ≤ 5) (h : ∀ M : Nat → ab_P, (∀ L st σ, bX5_bringDue_0 w s_X7_addSondes s_X5_put M Kn L st σ → M 0 L st σ) → (∀ L st σ, bX5_bringDue_2 w s_X7_addSondes s_X5_put M Kn L st σ → M 2 L st σ) → (∀ L st σ, bX5_bringDue_43 w s_X7_addSondes s_X5_put M Kn L st σ → M 43 L st σ) → (∀ L st σ, bX5_bringDue_50 w s_X7_addSondes s_X5_put M Kn L st σ → M 50 L st σ) → (∀ L st σ, bX5_bringDue_104 w s_X7_addSondes s_X5_put M Kn L st σ → M 104 L st σ) → M 0 (ab_pd 5 (ab_xl As)) [] σ) : ab_Met l yX5_bringDue (Cond.code yX5_bringDue cX5_bringDue 5 (some .int)) 3 mc w σ As Kn Kx := by
  refine ab_enter (by decide) hl hI hlen (by decide) ?_
  intro p e R s m args below meth c C hno hr
  exact h _ (sd_iconst C (x := nI 0) dX5_bringDue_0 (by decide +kernel) (sd_istore_n C (i := 3) dX5_bringDue_1 rfl (by decide) (fun _ _ _ h => h)))
    (sd_iload_n C (i := 3) dX5_bringDue_2 rfl (sd_aload_n C (i := 0) dX5_bringDue_3 rfl (sd_gf C (ci := 5) (k := 0) (r := (RX5, TX5, 4)) rfl (by decide) rfl wd_166 dX5_bringDue_4 (sd_icmp_ge C dX5_bringDue_7 (tgt := 43) (by decide) (fun _ _ _ h => h) (sd_aload_n C (i := 0) dX5_bringDue_10 rfl (sd_gr C (ci := 5) (k := 1) (r := (RX5, TX5, 4)) rfl (by decide) rfl wd_168 dX5_bringDue_11 (sd_iload_n C (i := 3) dX5_bringDue_14 rfl (sd_ia C dX5_bringDue_15 (sd_iload_n C (i := 1) dX5_bringDue_16 rfl (sd_icmp_ne C dX5_bringDue_17 (tgt := 43) (by decide) (fun _ _ _ h => h) (sd_aload_n C (i := 2) dX5_bringDue_20 rfl (sd_aload_n C (i := 0) dX5_bringDue_21 rfl (sd_gr C (ci := 5) (k := 2) (r := (RX5, TX5, 4)) rfl (by decide) rfl wd_169 dX5_bringDue_22 (sd_iload_n C (i := 3) dX5_bringDue_25 rfl (sd_ia C dX5_bringDue_26 (sd_aload_n C (i := 0) dX5_bringDue_27 rfl (sd_gr C (ci := 5) (k := 3) (r := (RX5, TX5, 4)) rfl (by decide) rfl wd_170 dX5_bringDue_28 (sd_iload_n C (i := 3) dX5_bringDue_31 rfl (sd_ia C dX5_bringDue_32 (sd_iconst C (x := nI 1) dX5_bringDue_33 (by decide +kernel) (sd_cV C ok_X7_addSondes (ci := 7) (row := (RX7, TX7, 8)) rfl rfl ⟨by decide, by decide, wd_551, wd_4, by decide +kernel⟩ wd_548 wd_549 wd_550 dX5_bringDue_34 (sd_iinc C (x := nI 1) dX5_bringDue_37 (by decide +kernel) (by decide) (sd_goto C dX5_bringDue_40 (tgt := 2) (by decide) (fun _ _ _ h => h))))))))))))))))))))))))
    (sd_iload_n C (i := 3) dX5_bringDue_43 rfl (sd_if_le C dX5_bringDue_44 (tgt := 104) (by decide) (fun _ _ _ h => h) (sd_iload_n C (i := 3) dX5_bringDue_47 rfl (sd_istore C dX5_bringDue_48 (by decide) (fun _ _ _ h => h)))))
    (sd_iload C dX5_bringDue_50 (sd_aload_n C (i := 0) dX5_bringDue_52 rfl (sd_gf C (ci := 5) (k := 0) (r := (RX5, TX5, 4)) rfl (by decide) rfl wd_166 dX5_bringDue_53 (sd_icmp_ge C dX5_bringDue_56 (tgt := 94) (by decide) (sd_aload_n C (i := 0) dX5_bringDue_94 rfl (sd_dup C dX5_bringDue_95 (sd_gf C (ci := 5) (k := 0) (r := (RX5, TX5, 4)) rfl (by decide) rfl wd_166 dX5_bringDue_96 (sd_iload_n C (i := 3) dX5_bringDue_99 rfl (sd_isub C dX5_bringDue_100 (sd_pf C (ci := 5) (k := 0) (r := (RX5, TX5, 4)) rfl (by decide) rfl rfl (by decide +kernel) wd_166 dX5_bringDue_101 (fun _ _ _ h => h))))))) (sd_aload_n C (i := 0) dX5_bringDue_59 rfl (sd_iload C dX5_bringDue_60 (sd_iload_n C (i := 3) dX5_bringDue_62 rfl (sd_isub C dX5_bringDue_63 (sd_aload_n C (i := 0) dX5_bringDue_64 rfl (sd_gr C (ci := 5) (k := 1) (r := (RX5, TX5, 4)) rfl (by decide) rfl wd_168 dX5_bringDue_65 (sd_iload C dX5_bringDue_68 (sd_ia C dX5_bringDue_70 (sd_aload_n C (i := 0) dX5_bringDue_71 rfl (sd_gr C (ci := 5) (k := 2) (r := (RX5, TX5, 4)) rfl (by decide) rfl wd_169 dX5_bringDue_72 (sd_iload C dX5_bringDue_75 (sd_ia C dX5_bringDue_77 (sd_aload_n C (i := 0) dX5_bringDue_78 rfl (sd_gr C (ci := 5) (k := 3) (r := (RX5, TX5, 4)) rfl (by decide) rfl wd_170 dX5_bringDue_79 (sd_iload C dX5_bringDue_82 (sd_ia C dX5_bringDue_84 (sd_cV C ok_X5_put (ci := 5) (row := (RX5, TX5, 4)) rfl rfl ⟨by decide, by decide, wd_556, wd_7, by decide +kernel⟩ wd_553 wd_555 ws_6 dX5_bringDue_85 (sd_iinc C (x := nI 1) dX5_bringDue_88 (by decide +kernel) (by decide) (sd_goto C dX5_bringDue_91 (tgt := 50) (by decide) (fun _ _ _ h => h))))))))))))))))))))))))
    (sd_iload_n C (i := 3) dX5_bringDue_104 rfl (sd_ir C hr dX5_bringDue_105))
theorem dX5_add_0 : decode cX5_add 0 = .ok (.aload_n 0, 1) := by decide +kernel
theorem dX5_add_1 : decode cX5_add 1 = .ok (.getfield 21, 3) := by decide +kernel
theorem dX5_add_4 : decode cX5_add 4 = .ok (.sipush 150, 3) := by decide +kernel
theorem dX5_add_7 : decode cX5_add 7 = .ok (.if_icmp .lt 4, 3) := by decide +kernel
theorem dX5_add_10 : decode cX5_add 10 = .ok (.return_, 1) := by decide +kernel
theorem dX5_add_11 : decode cX5_add 11 = .ok (.aload_n 0, 1) := by decide +kernel
theorem dX5_add_12 : decode cX5_add 12 = .ok (.getfield 21, 3) := by decide +kernel
theorem dX5_add_15 : decode cX5_add 15 = .ok (.istore 4, 2) := by decide +kernel
theorem dX5_add_17 : decode cX5_add 17 = .ok (.iload 4, 2) := by decide +kernel
theorem dX5_add_19 : decode cX5_add 19 = .ok (.ifCond .le 55, 3) := by decide +kernel
theorem dX5_add_22 : decode cX5_add 22 = .ok (.aload_n 0, 1) := by decide +kernel
theorem dX5_add_23 : decode cX5_add 23 = .ok (.getfield 11, 3) := by decide +kernel
theorem dX5_add_26 : decode cX5_add 26 = .ok (.iload 4, 2) := by decide +kernel
theorem dX5_add_28 : decode cX5_add 28 = .ok (.iconst 1, 1) := by decide +kernel
theorem dX5_add_29 : decode cX5_add 29 = .ok (.isub, 1) := by decide +kernel
theorem dX5_add_30 : decode cX5_add 30 = .ok (.iaload, 1) := by decide +kernel
theorem dX5_add_31 : decode cX5_add 31 = .ok (.iload_n 1, 1) := by decide +kernel
theorem dX5_add_32 : decode cX5_add 32 = .ok (.if_icmp .le 42, 3) := by decide +kernel
theorem dX5_add_35 : decode cX5_add 35 = .ok (.aload_n 0, 1) := by decide +kernel
theorem dX5_add_36 : decode cX5_add 36 = .ok (.iload 4, 2) := by decide +kernel
theorem dX5_add_38 : decode cX5_add 38 = .ok (.aload_n 0, 1) := by decide +kernel
theorem dX5_add_39 : decode cX5_add 39 = .ok (.getfield 11, 3) := by decide +kernel
theorem dX5_add_42 : decode cX5_add 42 = .ok (.iload 4, 2) := by decide +kernel
theorem dX5_add_44 : decode cX5_add 44 = .ok (.iconst 1, 1) := by decide +kernel
theorem dX5_add_45 : decode cX5_add 45 = .ok (.isub, 1) := by decide +kernel
theorem dX5_add_46 : decode cX5_add 46 = .ok (.iaload, 1) := by decide +kernel
theorem dX5_add_47 : decode cX5_add 47 = .ok (.aload_n 0, 1) := by decide +kernel
theorem dX5_add_48 : decode cX5_add 48 = .ok (.getfield 15, 3) := by decide +kernel
theorem dX5_add_51 : decode cX5_add 51 = .ok (.iload 4, 2) := by decide +kernel
theorem dX5_add_53 : decode cX5_add 53 = .ok (.iconst 1, 1) := by decide +kernel
theorem dX5_add_54 : decode cX5_add 54 = .ok (.isub, 1) := by decide +kernel
theorem dX5_add_55 : decode cX5_add 55 = .ok (.iaload, 1) := by decide +kernel
theorem dX5_add_56 : decode cX5_add 56 = .ok (.aload_n 0, 1) := by decide +kernel
theorem dX5_add_57 : decode cX5_add 57 = .ok (.getfield 18, 3) := by decide +kernel
theorem dX5_add_60 : decode cX5_add 60 = .ok (.iload 4, 2) := by decide +kernel
theorem dX5_add_62 : decode cX5_add 62 = .ok (.iconst 1, 1) := by decide +kernel
theorem dX5_add_63 : decode cX5_add 63 = .ok (.isub, 1) := by decide +kernel
theorem dX5_add_64 : decode cX5_add 64 = .ok (.iaload, 1) := by decide +kernel
theorem dX5_add_65 : decode cX5_add 65 = .ok (.invokevirtual 29, 3) := by decide +kernel
theorem dX5_add_68 : decode cX5_add 68 = .ok (.iinc 4 (-1), 3) := by decide +kernel
theorem dX5_add_71 : decode cX5_add 71 = .ok (.goto (-54), 3) := by decide +kernel
theorem dX5_add_74 : decode cX5_add 74 = .ok (.aload_n 0, 1) := by decide +kernel
theorem dX5_add_75 : decode cX5_add 75 = .ok (.iload 4, 2) := by decide +kernel
theorem dX5_add_77 : decode cX5_add 77 = .ok (.iload_n 1, 1) := by decide +kernel
theorem dX5_add_78 : decode cX5_add 78 = .ok (.iload_n 2, 1) := by decide +kernel
theorem dX5_add_79 : decode cX5_add 79 = .ok (.iload_n 3, 1) := by decide +kernel
theorem dX5_add_80 : decode cX5_add 80 = .ok (.invokevirtual 29, 3) := by decide +kernel
theorem dX5_add_83 : decode cX5_add 83 = .ok (.aload_n 0, 1) := by decide +kernel
theorem dX5_add_84 : decode cX5_add 84 = .ok (.dup, 1) := by decide +kernel
theorem dX5_add_85 : decode cX5_add 85 = .ok (.getfield 21, 3) := by decide +kernel
theorem dX5_add_88 : decode cX5_add 88 = .ok (.iconst 1, 1) := by decide +kernel
theorem dX5_add_89 : decode cX5_add 89 = .ok (.iadd, 1) := by decide +kernel
theorem dX5_add_90 : decode cX5_add 90 = .ok (.putfield 21, 3) := by decide +kernel
theorem dX5_add_93 : decode cX5_add 93 = .ok (.return_, 1) := by decide +kernel
def bX5_add_0 (w : ab_W) (s_X5_put : ab_S) (M : Nat → ab_P) (Kn : Option Value → ab_H → Prop) : ab_P := ab_ald 0 (ab_gf w 5 0 (ab_ci (nI 150) (ab_if2 (fun x y => x < y) (ab_ald 0 (ab_gf w 5 0 (ab_ist 4 (M 17)))) (ab_vr Kn))))
def bX5_add_17 (w : ab_W) (s_X5_put : ab_S) (M : Nat → ab_P) (Kn : Option Value → ab_H → Prop) : ab_P := ab_ild 4 (ab_if1 (fun x => x ≤ 0) (M 74) (ab_ald 0 (ab_gr w 5 1 (ab_ild 4 (ab_ci (nI 1) (ab_b2 (fun x y => x - y) (ab_ia w 11 (ab_ild 1 (ab_if2 (fun x y => x ≤ y) (M 74) (ab_ald 0 (ab_ild 4 (ab_ald 0 (ab_gr w 5 1 (ab_ild 4 (ab_ci (nI 1) (ab_b2 (fun x y => x - y) (ab_ia w 11 (ab_ald 0 (ab_gr w 5 2 (ab_ild 4 (ab_ci (nI 1) (ab_b2 (fun x y => x - y) (ab_ia w 11 (ab_ald 0 (ab_gr w 5 3 (ab_ild 4 (ab_ci (nI 1) (ab_b2 (fun x y => x - y) (ab_ia w 11 (ab_cV w 5 5 s_X5_put (ab_inc 4 (-1) (M 17))))))))))))))))))))))))))))))))
def bX5_add_74 (w : ab_W) (s_X5_put : ab_S) (M : Nat → ab_P) (Kn : Option Value → ab_H → Prop) : ab_P := ab_ald 0 (ab_ild 4 (ab_ild 1 (ab_ild 2 (ab_ild 3 (ab_cV w 5 5 s_X5_put (ab_ald 0 (ab_dup (ab_gf w 5 0 (ab_ci (nI 1) (ab_b2 (fun x y => x + y) (ab_pf w 5 0 (ab_vr Kn))))))))))))
set_option maxRecDepth 20000 in
set_option maxHeartbeats 2000000 in
theorem vc_X5_add {l : Launch} (hl : l.stackTraces = false) {w : ab_W} (hI : ab_Inj w) {mc : Nat} {σ : ab_H} {As : List Value} {Kn : Option Value → ab_H → Prop} {Kx : String → ab_H → Prop} {s_X5_put : ab_S} (ok_X5_put : ab_OkN l yX5_put (Cond.code yX5_put cX5_put 5 none) 1 s_X5_put) (hlen : (ab_xl As).length ≤ 5) (h : ∀ M : Nat → ab_P, (∀ L st σ, bX5_add_0 w s_X5_put M Kn L st σ → M 0 L st σ) → (∀ L st σ, bX5_add_17 w s_X5_put M Kn L st σ → M 17 L st σ) → (∀ L st σ, bX5_add_74 w s_X5_put M Kn L st σ → M 74 L st σ) → M 0 (ab_pd 5 (ab_xl As)) [] σ) : ab_Met l yX5_add (Cond.code yX5_add cX5_add 5 none) 2 mc w σ As Kn Kx := by
  refine ab_enter (by decide) hl hI hlen (by decide) ?_
  intro p e R s m args below meth c C hno hr
  exact h _ (sd_aload_n C (i := 0) dX5_add_0 rfl (sd_gf C (ci := 5) (k := 0) (r := (RX5, TX5, 4)) rfl (by decide) rfl wd_166 dX5_add_1 (sd_sipush C (x := nI 150) dX5_add_4 (by decide +kernel) (sd_icmp_lt C dX5_add_7 (tgt := 11) (by decide) (sd_aload_n C (i := 0) dX5_add_11 rfl (sd_gf C (ci := 5) (k := 0) (r := (RX5, TX5, 4)) rfl (by decide) rfl wd_166 dX5_add_12 (sd_istore C dX5_add_15 (by decide) (fun _ _ _ h => h)))) (sd_vr C hr dX5_add_10)))))
    (sd_iload C dX5_add_17 (sd_if_le C dX5_add_19 (tgt := 74) (by decide) (fun _ _ _ h => h) (sd_aload_n C (i := 0) dX5_add_22 rfl (sd_gr C (ci := 5) (k := 1) (r := (RX5, TX5, 4)) rfl (by decide) rfl wd_168 dX5_add_23 (sd_iload C dX5_add_26 (sd_iconst C (x := nI 1) dX5_add_28 (by decide +kernel) (sd_isub C dX5_add_29 (sd_ia C dX5_add_30 (sd_iload_n C (i := 1) dX5_add_31 rfl (sd_icmp_le C dX5_add_32 (tgt := 74) (by decide) (fun _ _ _ h => h) (sd_aload_n C (i := 0) dX5_add_35 rfl (sd_iload C dX5_add_36 (sd_aload_n C (i := 0) dX5_add_38 rfl (sd_gr C (ci := 5) (k := 1) (r := (RX5, TX5, 4)) rfl (by decide) rfl wd_168 dX5_add_39 (sd_iload C dX5_add_42 (sd_iconst C (x := nI 1) dX5_add_44 (by decide +kernel) (sd_isub C dX5_add_45 (sd_ia C dX5_add_46 (sd_aload_n C (i := 0) dX5_add_47 rfl (sd_gr C (ci := 5) (k := 2) (r := (RX5, TX5, 4)) rfl (by decide) rfl wd_169 dX5_add_48 (sd_iload C dX5_add_51 (sd_iconst C (x := nI 1) dX5_add_53 (by decide +kernel) (sd_isub C dX5_add_54 (sd_ia C dX5_add_55 (sd_aload_n C (i := 0) dX5_add_56 rfl (sd_gr C (ci := 5) (k := 3) (r := (RX5, TX5, 4)) rfl (by decide) rfl wd_170 dX5_add_57 (sd_iload C dX5_add_60 (sd_iconst C (x := nI 1) dX5_add_62 (by decide +kernel) (sd_isub C dX5_add_63 (sd_ia C dX5_add_64 (sd_cV C ok_X5_put (ci := 5) (row := (RX5, TX5, 4)) rfl rfl ⟨by decide, by decide, wd_556, wd_7, by decide +kernel⟩ wd_553 wd_555 ws_6 dX5_add_65 (sd_iinc C (x := -1) dX5_add_68 (by decide +kernel) (by decide) (sd_goto C dX5_add_71 (tgt := 17) (by decide) (fun _ _ _ h => h))))))))))))))))))))))))))))))))))
    (sd_aload_n C (i := 0) dX5_add_74 rfl (sd_iload C dX5_add_75 (sd_iload_n C (i := 1) dX5_add_77 rfl (sd_iload_n C (i := 2) dX5_add_78 rfl (sd_iload_n C (i := 3) dX5_add_79 rfl (sd_cV C ok_X5_put (ci := 5) (row := (RX5, TX5, 4)) rfl rfl ⟨by decide, by decide, wd_556, wd_7, by decide +kernel⟩ wd_553 wd_555 ws_6 dX5_add_80 (sd_aload_n C (i := 0) dX5_add_83 rfl (sd_dup C dX5_add_84 (sd_gf C (ci := 5) (k := 0) (r := (RX5, TX5, 4)) rfl (by decide) rfl wd_166 dX5_add_85 (sd_iconst C (x := nI 1) dX5_add_88 (by decide +kernel) (sd_iadd C dX5_add_89 (sd_pf C (ci := 5) (k := 0) (r := (RX5, TX5, 4)) rfl (by decide) rfl rfl (by decide +kernel) wd_166 dX5_add_90 (sd_vr C hr dX5_add_93)))))))))))))
theorem dX5_numberOf_0 : decode cX5_numberOf 0 = .ok (.iload_n 1, 1) := by decide +kernel
theorem dX5_numberOf_1 : decode cX5_numberOf 1 = .ok (.iconst 0, 1) := by decide +kernel
theorem dX5_numberOf_2 : decode cX5_numberOf 2 = .ok (.aload_n 0, 1) := by decide +kernel
theorem dX5_numberOf_3 : decode cX5_numberOf 3 = .ok (.getfield 21, 3) := by decide +kernel
theorem dX5_numberOf_6 : decode cX5_numberOf 6 = .ok (.iconst 1, 1) := by decide +kernel
theorem dX5_numberOf_7 : decode cX5_numberOf 7 = .ok (.isub, 1) := by decide +kernel
theorem dX5_numberOf_8 : decode cX5_numberOf 8 = .ok (.invokestatic 39, 3) := by decide +kernel
theorem dX5_numberOf_11 : decode cX5_numberOf 11 = .ok (.ifCond .ne 5, 3) := by decide +kernel
theorem dX5_numberOf_14 : decode cX5_numberOf 14 = .ok (.iconst (-1), 1) := by decide +kernel
theorem dX5_numberOf_15 : decode cX5_numberOf 15 = .ok (.ireturn, 1) := by decide +kernel
theorem dX5_numberOf_16 : decode cX5_numberOf 16 = .ok (.iload_n 2, 1) := by decide +kernel
theorem dX5_numberOf_17 : decode cX5_numberOf 17 = .ok (.lookupswitch 41 #[(0, 27), (1, 34)], 27) := by decide +kernel
theorem dX5_numberOf_44 : decode cX5_numberOf 44 = .ok (.aload_n 0, 1) := by decide +kernel
theorem dX5_numberOf_45 : decode cX5_numberOf 45 = .ok (.getfield 11, 3) := by decide +kernel
theorem dX5_numberOf_48 : decode cX5_numberOf 48 = .ok (.iload_n 1, 1) := by decide +kernel
theorem dX5_numberOf_49 : decode cX5_numberOf 49 = .ok (.iaload, 1) := by decide +kernel
theorem dX5_numberOf_50 : decode cX5_numberOf 50 = .ok (.ireturn, 1) := by decide +kernel
theorem dX5_numberOf_51 : decode cX5_numberOf 51 = .ok (.aload_n 0, 1) := by decide +kernel
theorem dX5_numberOf_52 : decode cX5_numberOf 52 = .ok (.getfield 15, 3) := by decide +kernel
theorem dX5_numberOf_55 : decode cX5_numberOf 55 = .ok (.iload_n 1, 1) := by decide +kernel
theorem dX5_numberOf_56 : decode cX5_numberOf 56 = .ok (.iaload, 1) := by decide +kernel
theorem dX5_numberOf_57 : decode cX5_numberOf 57 = .ok (.ireturn, 1) := by decide +kernel
theorem dX5_numberOf_58 : decode cX5_numberOf 58 = .ok (.aload_n 0, 1) := by decide +kernel
theorem dX5_numberOf_59 : decode cX5_numberOf 59 = .ok (.getfield 18, 3) := by decide +kernel
theorem dX5_numberOf_62 : decode cX5_numberOf 62 = .ok (.iload_n 1, 1) := by decide +kernel
theorem dX5_numberOf_63 : decode cX5_numberOf 63 = .ok (.iaload, 1) := by decide +kernel
theorem dX5_numberOf_64 : decode cX5_numberOf 64 = .ok (.ireturn, 1) := by decide +kernel
def bX5_numberOf_0 (w : ab_W) (s_X9_within : ab_S) (M : Nat → ab_P) (Kn : Option Value → ab_H → Prop) : ab_P := ab_ild 1 (ab_ci (nI 0) (ab_ald 0 (ab_gf w 5 0 (ab_ci (nI 1) (ab_b2 (fun x y => x - y) (ab_cN w 3 s_X9_within (ab_if1 (fun x => ¬ x = 0) (ab_ild 2 (ab_sw [(nI 0, ab_ald 0 (ab_gr w 5 1 (ab_ild 1 (ab_ia w 11 (ab_ir Kn))))), (nI 1, ab_ald 0 (ab_gr w 5 2 (ab_ild 1 (ab_ia w 11 (ab_ir Kn)))))] (ab_ald 0 (ab_gr w 5 3 (ab_ild 1 (ab_ia w 11 (ab_ir Kn))))))) (ab_ci (-1) (ab_ir Kn)))))))))
set_option maxRecDepth 20000 in
set_option maxHeartbeats 2000000 in
theorem vc_X5_numberOf {l : Launch} (hl : l.stackTraces = false) {w : ab_W} (hI : ab_Inj w) {mc : Nat} {σ : ab_H} {As : List Value} {Kn : Option Value → ab_H → Prop} {Kx : String → ab_H → Prop} {s_X9_within : ab_S} (ok_X9_within : ab_OkN l yX9_within (Cond.code yX9_within cX9_within 3 (some .boolean)) 1 s_X9_within) (hlen : (ab_xl As).length ≤ 3) (h : ∀ M : Nat → ab_P, (∀ L st σ, bX5_numberOf_0 w s_X9_within M Kn L st σ → M 0 L st σ) → M 0 (ab_pd 3 (ab_xl As)) [] σ) : ab_Met l yX5_numberOf (Cond.code yX5_numberOf cX5_numberOf 3 (some .int)) 2 mc w σ As Kn Kx := by
  refine ab_enter (by decide) hl hI hlen (by decide) ?_
  intro p e R s m args below meth c C hno hr
  exact h _ (sd_iload_n C (i := 1) dX5_numberOf_0 rfl (sd_iconst C (x := nI 0) dX5_numberOf_1 (by decide +kernel) (sd_aload_n C (i := 0) dX5_numberOf_2 rfl (sd_gf C (ci := 5) (k := 0) (r := (RX5, TX5, 4)) rfl (by decide) rfl wd_166 dX5_numberOf_3 (sd_iconst C (x := nI 1) dX5_numberOf_6 (by decide +kernel) (sd_isub C dX5_numberOf_7 (sd_cSN C ok_X9_within ⟨by decide, by decide, wd_477, wd_1, by decide +kernel⟩ wn_773 wd_476 dX5_numberOf_8 (sd_if_ne C dX5_numberOf_11 (tgt := 16) (by decide) (sd_iload_n C (i := 2) dX5_numberOf_16 rfl (sd_lookup C (td := 58) dX5_numberOf_17 (by decide +kernel) (by decide +kernel : _ = ([nI 0, nI 1] : List Int32).map (fun q => q.toInt)) (List.forall_mem_cons.mpr ⟨⟨27, 44, (by decide +kernel : Op.lookupswitch.offset (#[(0, 27), (1, 34)] : Array (Int × Int)).toList 41 (nI 0 : Int32).toInt = 27), (by decide), (sd_aload_n C (i := 0) dX5_numberOf_44 rfl (sd_gr C (ci := 5) (k := 1) (r := (RX5, TX5, 4)) rfl (by decide) rfl wd_168 dX5_numberOf_45 (sd_iload_n C (i := 1) dX5_numberOf_48 rfl (sd_ia C dX5_numberOf_49 (sd_ir C hr dX5_numberOf_50)))))⟩, (List.forall_mem_cons.mpr ⟨⟨34, 51, (by decide +kernel : Op.lookupswitch.offset (#[(0, 27), (1, 34)] : Array (Int × Int)).toList 41 (nI 1 : Int32).toInt = 34), (by decide), (sd_aload_n C (i := 0) dX5_numberOf_51 rfl (sd_gr C (ci := 5) (k := 2) (r := (RX5, TX5, 4)) rfl (by decide) rfl wd_169 dX5_numberOf_52 (sd_iload_n C (i := 1) dX5_numberOf_55 rfl (sd_ia C dX5_numberOf_56 (sd_ir C hr dX5_numberOf_57)))))⟩, (fun _ h => absurd h List.not_mem_nil)⟩)⟩) (by decide) (sd_aload_n C (i := 0) dX5_numberOf_58 rfl (sd_gr C (ci := 5) (k := 3) (r := (RX5, TX5, 4)) rfl (by decide) rfl wd_170 dX5_numberOf_59 (sd_iload_n C (i := 1) dX5_numberOf_62 rfl (sd_ia C dX5_numberOf_63 (sd_ir C hr dX5_numberOf_64))))))) (sd_iconst C (x := -1) dX5_numberOf_14 (by decide +kernel) (sd_ir C hr dX5_numberOf_15))))))))))
