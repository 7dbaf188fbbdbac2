theorem dX7_copyFrom_0 : decode cX7_copyFrom 0 = .ok (.aload_n 0, 1) := by decide +kernel
theorem dX7_copyFrom_1 : decode cX7_copyFrom 1 = .ok (.aload_n 1, 1) := by decide +kernel
theorem dX7_copyFrom_2 : decode cX7_copyFrom 2 = .ok (.getfield 33, 3) := by decide +kernel
theorem dX7_copyFrom_5 : decode cX7_copyFrom 5 = .ok (.putfield 33, 3) := by decide +kernel
theorem dX7_copyFrom_8 : decode cX7_copyFrom 8 = .ok (.aload_n 1, 1) := by decide +kernel
theorem dX7_copyFrom_9 : decode cX7_copyFrom 9 = .ok (.getfield 9, 3) := by decide +kernel
theorem dX7_copyFrom_12 : decode cX7_copyFrom 12 = .ok (.aload_n 0, 1) := by decide +kernel
theorem dX7_copyFrom_13 : decode cX7_copyFrom 13 = .ok (.getfield 9, 3) := by decide +kernel
theorem dX7_copyFrom_16 : decode cX7_copyFrom 16 = .ok (.invokestatic 37, 3) := by decide +kernel
theorem dX7_copyFrom_19 : decode cX7_copyFrom 19 = .ok (.aload_n 1, 1) := by decide +kernel
theorem dX7_copyFrom_20 : decode cX7_copyFrom 20 = .ok (.getfield 15, 3) := by decide +kernel
theorem dX7_copyFrom_23 : decode cX7_copyFrom 23 = .ok (.aload_n 0, 1) := by decide +kernel
theorem dX7_copyFrom_24 : decode cX7_copyFrom 24 = .ok (.getfield 15, 3) := by decide +kernel
theorem dX7_copyFrom_27 : decode cX7_copyFrom 27 = .ok (.invokestatic 37, 3) := by decide +kernel
theorem dX7_copyFrom_30 : decode cX7_copyFrom 30 = .ok (.aload_n 1, 1) := by decide +kernel
theorem dX7_copyFrom_31 : decode cX7_copyFrom 31 = .ok (.getfield 18, 3) := by decide +kernel
theorem dX7_copyFrom_34 : decode cX7_copyFrom 34 = .ok (.aload_n 0, 1) := by decide +kernel
theorem dX7_copyFrom_35 : decode cX7_copyFrom 35 = .ok (.getfield 18, 3) := by decide +kernel
theorem dX7_copyFrom_38 : decode cX7_copyFrom 38 = .ok (.invokestatic 37, 3) := by decide +kernel
theorem dX7_copyFrom_41 : decode cX7_copyFrom 41 = .ok (.aload_n 1, 1) := by decide +kernel
theorem dX7_copyFrom_42 : decode cX7_copyFrom 42 = .ok (.getfield 21, 3) := by decide +kernel
theorem dX7_copyFrom_45 : decode cX7_copyFrom 45 = .ok (.aload_n 0, 1) := by decide +kernel
theorem dX7_copyFrom_46 : decode cX7_copyFrom 46 = .ok (.getfield 21, 3) := by decide +kernel
theorem dX7_copyFrom_49 : decode cX7_copyFrom 49 = .ok (.invokestatic 37, 3) := by decide +kernel
theorem dX7_copyFrom_52 : decode cX7_copyFrom 52 = .ok (.aload_n 1, 1) := by decide +kernel
theorem dX7_copyFrom_53 : decode cX7_copyFrom 53 = .ok (.getfield 24, 3) := by decide +kernel
theorem dX7_copyFrom_56 : decode cX7_copyFrom 56 = .ok (.aload_n 0, 1) := by decide +kernel
theorem dX7_copyFrom_57 : decode cX7_copyFrom 57 = .ok (.getfield 24, 3) := by decide +kernel
theorem dX7_copyFrom_60 : decode cX7_copyFrom 60 = .ok (.invokestatic 37, 3) := by decide +kernel
theorem dX7_copyFrom_63 : decode cX7_copyFrom 63 = .ok (.aload_n 1, 1) := by decide +kernel
theorem dX7_copyFrom_64 : decode cX7_copyFrom 64 = .ok (.getfield 27, 3) := by decide +kernel
theorem dX7_copyFrom_67 : decode cX7_copyFrom 67 = .ok (.aload_n 0, 1) := by decide +kernel
theorem dX7_copyFrom_68 : decode cX7_copyFrom 68 = .ok (.getfield 27, 3) := by decide +kernel
theorem dX7_copyFrom_71 : decode cX7_copyFrom 71 = .ok (.invokestatic 37, 3) := by decide +kernel
theorem dX7_copyFrom_74 : decode cX7_copyFrom 74 = .ok (.aload_n 1, 1) := by decide +kernel
theorem dX7_copyFrom_75 : decode cX7_copyFrom 75 = .ok (.getfield 30, 3) := by decide +kernel
theorem dX7_copyFrom_78 : decode cX7_copyFrom 78 = .ok (.aload_n 0, 1) := by decide +kernel
theorem dX7_copyFrom_79 : decode cX7_copyFrom 79 = .ok (.getfield 30, 3) := by decide +kernel
theorem dX7_copyFrom_82 : decode cX7_copyFrom 82 = .ok (.invokestatic 37, 3) := by decide +kernel
theorem dX7_copyFrom_85 : decode cX7_copyFrom 85 = .ok (.return_, 1) := by decide +kernel
def bX7_copyFrom_0 (w : ab_W) (s_X9_copyRow : ab_S) (M : Nat → ab_P) (Kn : Option Value → ab_H → Prop) : ab_P := ab_ald 0 (ab_ald 1 (ab_gf w 7 0 (ab_pf w 7 0 (ab_ald 1 (ab_gr w 7 1 (ab_ald 0 (ab_gr w 7 1 (ab_cN w 2 s_X9_copyRow (ab_ald 1 (ab_gr w 7 2 (ab_ald 0 (ab_gr w 7 2 (ab_cN w 2 s_X9_copyRow (ab_ald 1 (ab_gr w 7 3 (ab_ald 0 (ab_gr w 7 3 (ab_cN w 2 s_X9_copyRow (ab_ald 1 (ab_gr w 7 4 (ab_ald 0 (ab_gr w 7 4 (ab_cN w 2 s_X9_copyRow (ab_ald 1 (ab_gr w 7 5 (ab_ald 0 (ab_gr w 7 5 (ab_cN w 2 s_X9_copyRow (ab_ald 1 (ab_gr w 7 6 (ab_ald 0 (ab_gr w 7 6 (ab_cN w 2 s_X9_copyRow (ab_ald 1 (ab_gr w 7 7 (ab_ald 0 (ab_gr w 7 7 (ab_cN w 2 s_X9_copyRow (ab_vr Kn)))))))))))))))))))))))))))))))))))))))
set_option maxRecDepth 20000 in
set_option maxHeartbeats 2000000 in
theorem vc_X7_copyFrom {l : Launch} (hl : l.stackTraces = false) {w : ab_W} (hI : ab_Inj w) {mc : Nat} {σ : ab_H} {As : List Value} {Kn : Option Value → ab_H → Prop} {Kx : String → ab_H → Prop} {s_X9_copyRow : ab_S} (ok_X9_copyRow : ab_OkN l yX9_copyRow (Cond.code yX9_copyRow cX9_copyRow 2 none) 2 s_X9_copyRow) (hlen : (ab_xl As).length ≤ 2) (h : ∀ M : Nat → ab_P, (∀ L st σ, bX7_copyFrom_0 w s_X9_copyRow M Kn L st σ → M 0 L st σ) → M 0 (ab_pd 2 (ab_xl As)) [] σ) : ab_Met l yX7_copyFrom (Cond.code yX7_copyFrom cX7_copyFrom 2 none) 3 mc w σ As Kn Kx := by
  refine ab_enter (by decide) hl hI hlen (by decide) ?_
  intro p e R s m args below meth c C hno hr
  exact h _ (sd_aload_n C (i := 0) dX7_copyFrom_0 rfl (sd_aload_n C (i := 1) dX7_copyFrom_1 rfl (sd_gf C (ci := 7) (k := 0) (r := (RX7, TX7, 8)) rfl (by decide) rfl wd_66 dX7_copyFrom_2 (sd_pf C (ci := 7) (k := 0) (r := (RX7, TX7, 8)) rfl (by decide) rfl rfl (by decide +kernel) wd_66 dX7_copyFrom_5 (sd_aload_n C (i := 1) dX7_copyFrom_8 rfl (sd_gr C (ci := 7) (k := 1) (r := (RX7, TX7, 8)) rfl (by decide) rfl wd_69 dX7_copyFrom_9 (sd_aload_n C (i := 0) dX7_copyFrom_12 rfl (sd_gr C (ci := 7) (k := 1) (r := (RX7, TX7, 8)) rfl (by decide) rfl wd_69 dX7_copyFrom_13 (sd_cSN C ok_X9_copyRow ⟨by decide, by decide, wd_429, wd_1, by decide +kernel⟩ wn_427 wd_428 dX7_copyFrom_16 (sd_aload_n C (i := 1) dX7_copyFrom_19 rfl (sd_gr C (ci := 7) (k := 2) (r := (RX7, TX7, 8)) rfl (by decide) rfl wd_72 dX7_copyFrom_20 (sd_aload_n C (i := 0) dX7_copyFrom_23 rfl (sd_gr C (ci := 7) (k := 2) (r := (RX7, TX7, 8)) rfl (by decide) rfl wd_72 dX7_copyFrom_24 (sd_cSN C ok_X9_copyRow ⟨by decide, by decide, wd_429, wd_1, by decide +kernel⟩ wn_427 wd_428 dX7_copyFrom_27 (sd_aload_n C (i := 1) dX7_copyFrom_30 rfl (sd_gr C (ci := 7) (k := 3) (r := (RX7, TX7, 8)) rfl (by decide) rfl wd_75 dX7_copyFrom_31 (sd_aload_n C (i := 0) dX7_copyFrom_34 rfl (sd_gr C (ci := 7) (k := 3) (r := (RX7, TX7, 8)) rfl (by decide) rfl wd_75 dX7_copyFrom_35 (sd_cSN C ok_X9_copyRow ⟨by decide, by decide, wd_429, wd_1, by decide +kernel⟩ wn_427 wd_428 dX7_copyFrom_38 (sd_aload_n C (i := 1) dX7_copyFrom_41 rfl (sd_gr C (ci := 7) (k := 4) (r := (RX7, TX7, 8)) rfl (by decide) rfl wd_78 dX7_copyFrom_42 (sd_aload_n C (i := 0) dX7_copyFrom_45 rfl (sd_gr C (ci := 7) (k := 4) (r := (RX7, TX7, 8)) rfl (by decide) rfl wd_78 dX7_copyFrom_46 (sd_cSN C ok_X9_copyRow ⟨by decide, by decide, wd_429, wd_1, by decide +kernel⟩ wn_427 wd_428 dX7_copyFrom_49 (sd_aload_n C (i := 1) dX7_copyFrom_52 rfl (sd_gr C (ci := 7) (k := 5) (r := (RX7, TX7, 8)) rfl (by decide) rfl wd_81 dX7_copyFrom_53 (sd_aload_n C (i := 0) dX7_copyFrom_56 rfl (sd_gr C (ci := 7) (k := 5) (r := (RX7, TX7, 8)) rfl (by decide) rfl wd_81 dX7_copyFrom_57 (sd_cSN C ok_X9_copyRow ⟨by decide, by decide, wd_429, wd_1, by decide +kernel⟩ wn_427 wd_428 dX7_copyFrom_60 (sd_aload_n C (i := 1) dX7_copyFrom_63 rfl (sd_gr C (ci := 7) (k := 6) (r := (RX7, TX7, 8)) rfl (by decide) rfl wd_84 dX7_copyFrom_64 (sd_aload_n C (i := 0) dX7_copyFrom_67 rfl (sd_gr C (ci := 7) (k := 6) (r := (RX7, TX7, 8)) rfl (by decide) rfl wd_84 dX7_copyFrom_68 (sd_cSN C ok_X9_copyRow ⟨by decide, by decide, wd_429, wd_1, by decide +kernel⟩ wn_427 wd_428 dX7_copyFrom_71 (sd_aload_n C (i := 1) dX7_copyFrom_74 rfl (sd_gr C (ci := 7) (k := 7) (r := (RX7, TX7, 8)) rfl (by decide) rfl wd_87 dX7_copyFrom_75 (sd_aload_n C (i := 0) dX7_copyFrom_78 rfl (sd_gr C (ci := 7) (k := 7) (r := (RX7, TX7, 8)) rfl (by decide) rfl wd_87 dX7_copyFrom_79 (sd_cSN C ok_X9_copyRow ⟨by decide, by decide, wd_429, wd_1, by decide +kernel⟩ wn_427 wd_428 dX7_copyFrom_82 (sd_vr C hr dX7_copyFrom_85))))))))))))))))))))))))))))))))))))))))
theorem dX7_add_0 : decode cX7_add 0 = .ok (.aload_n 0, 1) := by decide +kernel
theorem dX7_add_1 : decode cX7_add 1 = .ok (.getfield 33, 3) := by decide +kernel
theorem dX7_add_4 : decode cX7_add 4 = .ok (.iconst 5, 1) := by decide +kernel
theorem dX7_add_5 : decode cX7_add 5 = .ok (.if_icmp .ge 43, 3) := by decide +kernel
theorem dX7_add_8 : decode cX7_add 8 = .ok (.aload_n 0, 1) := by decide +kernel
theorem dX7_add_9 : decode cX7_add 9 = .ok (.getfield 9, 3) := by decide +kernel
theorem dX7_add_12 : decode cX7_add 12 = .ok (.aload_n 0, 1) := by decide +kernel
theorem dX7_add_13 : decode cX7_add 13 = .ok (.getfield 33, 3) := by decide +kernel
theorem dX7_add_16 : decode cX7_add 16 = .ok (.iload_n 1, 1) := by decide +kernel
theorem dX7_add_17 : decode cX7_add 17 = .ok (.iastore, 1) := by decide +kernel
theorem dX7_add_18 : decode cX7_add 18 = .ok (.aload_n 0, 1) := by decide +kernel
theorem dX7_add_19 : decode cX7_add 19 = .ok (.getfield 15, 3) := by decide +kernel
theorem dX7_add_22 : decode cX7_add 22 = .ok (.aload_n 0, 1) := by decide +kernel
theorem dX7_add_23 : decode cX7_add 23 = .ok (.getfield 33, 3) := by decide +kernel
theorem dX7_add_26 : decode cX7_add 26 = .ok (.iload_n 2, 1) := by decide +kernel
theorem dX7_add_27 : decode cX7_add 27 = .ok (.iastore, 1) := by decide +kernel
theorem dX7_add_28 : decode cX7_add 28 = .ok (.aload_n 0, 1) := by decide +kernel
theorem dX7_add_29 : decode cX7_add 29 = .ok (.getfield 18, 3) := by decide +kernel
theorem dX7_add_32 : decode cX7_add 32 = .ok (.aload_n 0, 1) := by decide +kernel
theorem dX7_add_33 : decode cX7_add 33 = .ok (.getfield 33, 3) := by decide +kernel
theorem dX7_add_36 : decode cX7_add 36 = .ok (.iload_n 3, 1) := by decide +kernel
theorem dX7_add_37 : decode cX7_add 37 = .ok (.iastore, 1) := by decide +kernel
theorem dX7_add_38 : decode cX7_add 38 = .ok (.aload_n 0, 1) := by decide +kernel
theorem dX7_add_39 : decode cX7_add 39 = .ok (.dup, 1) := by decide +kernel
theorem dX7_add_40 : decode cX7_add 40 = .ok (.getfield 33, 3) := by decide +kernel
theorem dX7_add_43 : decode cX7_add 43 = .ok (.iconst 1, 1) := by decide +kernel
theorem dX7_add_44 : decode cX7_add 44 = .ok (.iadd, 1) := by decide +kernel
theorem dX7_add_45 : decode cX7_add 45 = .ok (.putfield 33, 3) := by decide +kernel
theorem dX7_add_48 : decode cX7_add 48 = .ok (.return_, 1) := by decide +kernel
def bX7_add_0 (w : ab_W) (M : Nat → ab_P) (Kn : Option Value → ab_H → Prop) : ab_P := ab_ald 0 (ab_gf w 7 0 (ab_ci (nI 5) (ab_if2 (fun x y => y ≤ x) (M 48) (ab_ald 0 (ab_gr w 7 1 (ab_ald 0 (ab_gf w 7 0 (ab_ild 1 (ab_is w (ab_ald 0 (ab_gr w 7 2 (ab_ald 0 (ab_gf w 7 0 (ab_ild 2 (ab_is w (ab_ald 0 (ab_gr w 7 3 (ab_ald 0 (ab_gf w 7 0 (ab_ild 3 (ab_is w (ab_ald 0 (ab_dup (ab_gf w 7 0 (ab_ci (nI 1) (ab_b2 (fun x y => x + y) (ab_pf w 7 0 (M 48))))))))))))))))))))))))))))
def bX7_add_48 (w : ab_W) (M : Nat → ab_P) (Kn : Option Value → ab_H → Prop) : ab_P := ab_vr Kn
set_option maxRecDepth 20000 in
set_option maxHeartbeats 2000000 in
theorem vc_X7_add {l : Launch} (hl : l.stackTraces = false) {w : ab_W} (hI : ab_Inj w) {mc : Nat} {σ : ab_H} {As : List Value} {Kn : Option Value → ab_H → Prop} {Kx : String → ab_H → Prop} (hlen : (ab_xl As).length ≤ 4) (h : ∀ M : Nat → ab_P, (∀ L st σ, bX7_add_0 w M Kn L st σ → M 0 L st σ) → (∀ L st σ, bX7_add_48 w M Kn L st σ → M 48 L st σ) → M 0 (ab_pd 4 (ab_xl As)) [] σ) : ab_Met l yX7_add (Cond.code yX7_add cX7_add 4 none) 1 mc w σ As Kn Kx := by
  refine ab_enter (by decide) hl hI hlen (by decide) ?_
  intro p e R s m args below meth c C hno hr
  exact h _ (sd_aload_n C (i := 0) dX7_add_0 rfl (sd_gf C (ci := 7) (k := 0) (r := (RX7, TX7, 8)) rfl (by decide) rfl wd_66 dX7_add_1 (sd_iconst C (x := nI 5) dX7_add_4 (by decide +kernel) (sd_icmp_ge C dX7_add_5 (tgt := 48) (by decide) (fun _ _ _ h => h) (sd_aload_n C (i := 0) dX7_add_8 rfl (sd_gr C (ci := 7) (k := 1) (r := (RX7, TX7, 8)) rfl (by decide) rfl wd_69 dX7_add_9 (sd_aload_n C (i := 0) dX7_add_12 rfl (sd_gf C (ci := 7) (k := 0) (r := (RX7, TX7, 8)) rfl (by decide) rfl wd_66 dX7_add_13 (sd_iload_n C (i := 1) dX7_add_16 rfl (sd_is C dX7_add_17 (sd_aload_n C (i := 0) dX7_add_18 rfl (sd_gr C (ci := 7) (k := 2) (r := (RX7, TX7, 8)) rfl (by decide) rfl wd_72 dX7_add_19 (sd_aload_n C (i := 0) dX7_add_22 rfl (sd_gf C (ci := 7) (k := 0) (r := (RX7, TX7, 8)) rfl (by decide) rfl wd_66 dX7_add_23 (sd_iload_n C (i := 2) dX7_add_26 rfl (sd_is C dX7_add_27 (sd_aload_n C (i := 0) dX7_add_28 rfl (sd_gr C (ci := 7) (k := 3) (r := (RX7, TX7, 8)) rfl (by decide) rfl wd_75 dX7_add_29 (sd_aload_n C (i := 0) dX7_add_32 rfl (sd_gf C (ci := 7) (k := 0) (r := (RX7, TX7, 8)) rfl (by decide) rfl wd_66 dX7_add_33 (sd_iload_n C (i := 3) dX7_add_36 rfl (sd_is C dX7_add_37 (sd_aload_n C (i := 0) dX7_add_38 rfl (sd_dup C dX7_add_39 (sd_gf C (ci := 7) (k := 0) (r := (RX7, TX7, 8)) rfl (by decide) rfl wd_66 dX7_add_40 (sd_iconst C (x := nI 1) dX7_add_43 (by decide +kernel) (sd_iadd C dX7_add_44 (sd_pf C (ci := 7) (k := 0) (r := (RX7, TX7, 8)) rfl (by decide) rfl rfl (by decide +kernel) wd_66 dX7_add_45 (fun _ _ _ h => h)))))))))))))))))))))))))))))
    (sd_vr C hr dX7_add_48)
theorem dX7_has_0 : decode cX7_has 0 = .ok (.iload_n 1, 1) := by decide +kernel
theorem dX7_has_1 : decode cX7_has 1 = .ok (.ifCond .lt 15, 3) := by decide +kernel
theorem dX7_has_4 : decode cX7_has 4 = .ok (.iload_n 1, 1) := by decide +kernel
theorem dX7_has_5 : decode cX7_has 5 = .ok (.aload_n 0, 1) := by decide +kernel
theorem dX7_has_6 : decode cX7_has 6 = .ok (.getfield 33, 3) := by decide +kernel
theorem dX7_has_9 : decode cX7_has 9 = .ok (.if_icmp .ge 7, 3) := by decide +kernel
theorem dX7_has_12 : decode cX7_has 12 = .ok (.iconst 1, 1) := by decide +kernel
theorem dX7_has_13 : decode cX7_has 13 = .ok (.goto 4, 3) := by decide +kernel
theorem dX7_has_16 : decode cX7_has 16 = .ok (.iconst 0, 1) := by decide +kernel
theorem dX7_has_17 : decode cX7_has 17 = .ok (.ireturn, 1) := by decide +kernel
def bX7_has_0 (w : ab_W) (M : Nat → ab_P) (Kn : Option Value → ab_H → Prop) : ab_P := ab_ild 1 (ab_if1 (fun x => x < 0) (M 16) (ab_ild 1 (ab_ald 0 (ab_gf w 7 0 (ab_if2 (fun x y => y ≤ x) (M 16) (ab_ci (nI 1) (M 17)))))))
def bX7_has_16 (w : ab_W) (M : Nat → ab_P) (Kn : Option Value → ab_H → Prop) : ab_P := ab_ci (nI 0) (M 17)
def bX7_has_17 (w : ab_W) (M : Nat → ab_P) (Kn : Option Value → ab_H → Prop) : ab_P := ab_zr Kn
set_option maxRecDepth 20000 in
set_option maxHeartbeats 2000000 in
theorem vc_X7_has {l : Launch} (hl : l.stackTraces = false) {w : ab_W} (hI : ab_Inj w) {mc : Nat} {σ : ab_H} {As : List Value} {Kn : Option Value → ab_H → Prop} {Kx : String → ab_H → Prop} (hlen : (ab_xl As).length ≤ 2) (h : ∀ M : Nat → ab_P, (∀ L st σ, bX7_has_0 w M Kn L st σ → M 0 L st σ) → (∀ L st σ, bX7_has_16 w M Kn L st σ → M 16 L st σ) → (∀ L st σ, bX7_has_17 w M Kn L st σ → M 17 L st σ) → M 0 (ab_pd 2 (ab_xl As)) [] σ) : ab_Met l yX7_has (Cond.code yX7_has cX7_has 2 (some .boolean)) 1 mc w σ As Kn Kx := by
  refine ab_enter (by decide) hl hI hlen (by decide) ?_
  intro p e R s m args below meth c C hno hr
  exact h _ (sd_iload_n C (i := 1) dX7_has_0 rfl (sd_if_lt C dX7_has_1 (tgt := 16) (by decide) (fun _ _ _ h => h) (sd_iload_n C (i := 1) dX7_has_4 rfl (sd_aload_n C (i := 0) dX7_has_5 rfl (sd_gf C (ci := 7) (k := 0) (r := (RX7, TX7, 8)) rfl (by decide) rfl wd_66 dX7_has_6 (sd_icmp_ge C dX7_has_9 (tgt := 16) (by decide) (fun _ _ _ h => h) (sd_iconst C (x := nI 1) dX7_has_12 (by decide +kernel) (sd_goto C dX7_has_13 (tgt := 17) (by decide) (fun _ _ _ h => h)))))))))
    (sd_iconst C (x := nI 0) dX7_has_16 (by decide +kernel) (fun _ _ _ h => h))
    (sd_zr C hr dX7_has_17)
theorem dX7_receive_0 : decode cX7_receive 0 = .ok (.aload_n 0, 1) := by decide +kernel
theorem dX7_receive_1 : decode cX7_receive 1 = .ok (.iload_n 1, 1) := by decide +kernel
theorem dX7_receive_2 : decode cX7_receive 2 = .ok (.invokevirtual 41, 3) := by decide +kernel
theorem dX7_receive_5 : decode cX7_receive 5 = .ok (.ifCond .eq 25, 3) := by decide +kernel
theorem dX7_receive_8 : decode cX7_receive 8 = .ok (.aload_n 0, 1) := by decide +kernel
theorem dX7_receive_9 : decode cX7_receive 9 = .ok (.getfield 21, 3) := by decide +kernel
theorem dX7_receive_12 : decode cX7_receive 12 = .ok (.iload_n 1, 1) := by decide +kernel
theorem dX7_receive_13 : decode cX7_receive 13 = .ok (.dup2, 1) := by decide +kernel
theorem dX7_receive_14 : decode cX7_receive 14 = .ok (.iaload, 1) := by decide +kernel
theorem dX7_receive_15 : decode cX7_receive 15 = .ok (.iload_n 2, 1) := by decide +kernel
theorem dX7_receive_16 : decode cX7_receive 16 = .ok (.iadd, 1) := by decide +kernel
theorem dX7_receive_17 : decode cX7_receive 17 = .ok (.iastore, 1) := by decide +kernel
theorem dX7_receive_18 : decode cX7_receive 18 = .ok (.aload_n 0, 1) := by decide +kernel
theorem dX7_receive_19 : decode cX7_receive 19 = .ok (.getfield 30, 3) := by decide +kernel
theorem dX7_receive_22 : decode cX7_receive 22 = .ok (.iload_n 1, 1) := by decide +kernel
theorem dX7_receive_23 : decode cX7_receive 23 = .ok (.iconst 5, 1) := by decide +kernel
theorem dX7_receive_24 : decode cX7_receive 24 = .ok (.imul, 1) := by decide +kernel
theorem dX7_receive_25 : decode cX7_receive 25 = .ok (.dup2, 1) := by decide +kernel
theorem dX7_receive_26 : decode cX7_receive 26 = .ok (.iaload, 1) := by decide +kernel
theorem dX7_receive_27 : decode cX7_receive 27 = .ok (.iload_n 3, 1) := by decide +kernel
theorem dX7_receive_28 : decode cX7_receive 28 = .ok (.iadd, 1) := by decide +kernel
theorem dX7_receive_29 : decode cX7_receive 29 = .ok (.iastore, 1) := by decide +kernel
theorem dX7_receive_30 : decode cX7_receive 30 = .ok (.return_, 1) := by decide +kernel
def bX7_receive_0 (w : ab_W) (s_X7_has : ab_S) (M : Nat → ab_P) (Kn : Option Value → ab_H → Prop) : ab_P := ab_ald 0 (ab_ild 1 (ab_cV w 2 7 s_X7_has (ab_if1 (fun x => x = 0) (M 30) (ab_ald 0 (ab_gr w 7 4 (ab_ild 1 (ab_dup2 (ab_ia w 11 (ab_ild 2 (ab_b2 (fun x y => x + y) (ab_is w (ab_ald 0 (ab_gr w 7 7 (ab_ild 1 (ab_ci (nI 5) (ab_b2 (fun x y => x * y) (ab_dup2 (ab_ia w 11 (ab_ild 3 (ab_b2 (fun x y => x + y) (ab_is w (M 30))))))))))))))))))))))
def bX7_receive_30 (w : ab_W) (s_X7_has : ab_S) (M : Nat → ab_P) (Kn : Option Value → ab_H → Prop) : ab_P := ab_vr Kn
set_option maxRecDepth 20000 in
set_option maxHeartbeats 2000000 in
theorem vc_X7_receive {l : Launch} (hl : l.stackTraces = false) {w : ab_W} (hI : ab_Inj w) {mc : Nat} {σ : ab_H} {As : List Value} {Kn : Option Value → ab_H → Prop} {Kx : String → ab_H → Prop} {s_X7_has : ab_S} (ok_X7_has : ab_OkN l yX7_has (Cond.code yX7_has cX7_has 2 (some .boolean)) 1 s_X7_has) (hlen : (ab_xl As).length ≤ 4) (h : ∀ M : Nat → ab_P, (∀ L st σ, bX7_receive_0 w s_X7_has M Kn L st σ → M 0 L st σ) → (∀ L st σ, bX7_receive_30 w s_X7_has M Kn L st σ → M 30 L st σ) → M 0 (ab_pd 4 (ab_xl As)) [] σ) : ab_Met l yX7_receive (Cond.code yX7_receive cX7_receive 4 none) 2 mc w σ As Kn Kx := by
  refine ab_enter (by decide) hl hI hlen (by decide) ?_
  intro p e R s m args below meth c C hno hr
  exact h _ (sd_aload_n C (i := 0) dX7_receive_0 rfl (sd_iload_n C (i := 1) dX7_receive_1 rfl (sd_cV C ok_X7_has (ci := 7) (row := (RX7, TX7, 8)) rfl rfl ⟨by decide, by decide, wd_489, wd_4, by decide +kernel⟩ wd_486 wd_487 wd_488 dX7_receive_2 (sd_if_eq C dX7_receive_5 (tgt := 30) (by decide) (fun _ _ _ h => h) (sd_aload_n C (i := 0) dX7_receive_8 rfl (sd_gr C (ci := 7) (k := 4) (r := (RX7, TX7, 8)) rfl (by decide) rfl wd_78 dX7_receive_9 (sd_iload_n C (i := 1) dX7_receive_12 rfl (sd_dup2 C dX7_receive_13 (sd_ia C dX7_receive_14 (sd_iload_n C (i := 2) dX7_receive_15 rfl (sd_iadd C dX7_receive_16 (sd_is C dX7_receive_17 (sd_aload_n C (i := 0) dX7_receive_18 rfl (sd_gr C (ci := 7) (k := 7) (r := (RX7, TX7, 8)) rfl (by decide) rfl wd_87 dX7_receive_19 (sd_iload_n C (i := 1) dX7_receive_22 rfl (sd_iconst C (x := nI 5) dX7_receive_23 (by decide +kernel) (sd_imul C dX7_receive_24 (sd_dup2 C dX7_receive_25 (sd_ia C dX7_receive_26 (sd_iload_n C (i := 3) dX7_receive_27 rfl (sd_iadd C dX7_receive_28 (sd_is C dX7_receive_29 (fun _ _ _ h => h)))))))))))))))))))))))
    (sd_vr C hr dX7_receive_30)
theorem dX7_mostFlownOf_0 : decode cX7_mostFlownOf 0 = .ok (.iconst 4, 1) := by decide +kernel
theorem dX7_mostFlownOf_1 : decode cX7_mostFlownOf 1 = .ok (.istore_n 2, 1) := by decide +kernel
theorem dX7_mostFlownOf_2 : decode cX7_mostFlownOf 2 = .ok (.iload_n 2, 1) := by decide +kernel
theorem dX7_mostFlownOf_3 : decode cX7_mostFlownOf 3 = .ok (.ifCond .lt 32, 3) := by decide +kernel
theorem dX7_mostFlownOf_6 : decode cX7_mostFlownOf 6 = .ok (.aload_n 0, 1) := by decide +kernel
theorem dX7_mostFlownOf_7 : decode cX7_mostFlownOf 7 = .ok (.iload_n 1, 1) := by decide +kernel
theorem dX7_mostFlownOf_8 : decode cX7_mostFlownOf 8 = .ok (.invokevirtual 41, 3) := by decide +kernel
theorem dX7_mostFlownOf_11 : decode cX7_mostFlownOf 11 = .ok (.ifCond .eq 24, 3) := by decide +kernel
theorem dX7_mostFlownOf_14 : decode cX7_mostFlownOf 14 = .ok (.aload_n 0, 1) := by decide +kernel
theorem dX7_mostFlownOf_15 : decode cX7_mostFlownOf 15 = .ok (.getfield 30, 3) := by decide +kernel
theorem dX7_mostFlownOf_18 : decode cX7_mostFlownOf 18 = .ok (.iload_n 1, 1) := by decide +kernel
theorem dX7_mostFlownOf_19 : decode cX7_mostFlownOf 19 = .ok (.iconst 5, 1) := by decide +kernel
theorem dX7_mostFlownOf_20 : decode cX7_mostFlownOf 20 = .ok (.imul, 1) := by decide +kernel
theorem dX7_mostFlownOf_21 : decode cX7_mostFlownOf 21 = .ok (.iload_n 2, 1) := by decide +kernel
theorem dX7_mostFlownOf_22 : decode cX7_mostFlownOf 22 = .ok (.iadd, 1) := by decide +kernel
theorem dX7_mostFlownOf_23 : decode cX7_mostFlownOf 23 = .ok (.iaload, 1) := by decide +kernel
theorem dX7_mostFlownOf_24 : decode cX7_mostFlownOf 24 = .ok (.ifCond .le 5, 3) := by decide +kernel
theorem dX7_mostFlownOf_27 : decode cX7_mostFlownOf 27 = .ok (.iload_n 2, 1) := by decide +kernel
theorem dX7_mostFlownOf_28 : decode cX7_mostFlownOf 28 = .ok (.ireturn, 1) := by decide +kernel
theorem dX7_mostFlownOf_29 : decode cX7_mostFlownOf 29 = .ok (.iinc 2 (-1), 3) := by decide +kernel
theorem dX7_mostFlownOf_32 : decode cX7_mostFlownOf 32 = .ok (.goto (-30), 3) := by decide +kernel
theorem dX7_mostFlownOf_35 : decode cX7_mostFlownOf 35 = .ok (.iconst (-1), 1) := by decide +kernel
theorem dX7_mostFlownOf_36 : decode cX7_mostFlownOf 36 = .ok (.ireturn, 1) := by decide +kernel
def bX7_mostFlownOf_0 (w : ab_W) (s_X7_has : ab_S) (M : Nat → ab_P) (Kn : Option Value → ab_H → Prop) : ab_P := ab_ci (nI 4) (ab_ist 2 (M 2))
def bX7_mostFlownOf_2 (w : ab_W) (s_X7_has : ab_S) (M : Nat → ab_P) (Kn : Option Value → ab_H → Prop) : ab_P := ab_ild 2 (ab_if1 (fun x => x < 0) (M 35) (ab_ald 0 (ab_ild 1 (ab_cV w 2 7 s_X7_has (ab_if1 (fun x => x = 0) (M 35) (ab_ald 0 (ab_gr w 7 7 (ab_ild 1 (ab_ci (nI 5) (ab_b2 (fun x y => x * y) (ab_ild 2 (ab_b2 (fun x y => x + y) (ab_ia w 11 (ab_if1 (fun x => x ≤ 0) (ab_inc 2 (-1) (M 2)) (ab_ild 2 (ab_ir Kn))))))))))))))))
def bX7_mostFlownOf_35 (w : ab_W) (s_X7_has : ab_S) (M : Nat → ab_P) (Kn : Option Value → ab_H → Prop) : ab_P := ab_ci (-1) (ab_ir Kn)
set_option maxRecDepth 20000 in
set_option maxHeartbeats 2000000 in
theorem vc_X7_mostFlownOf {l : Launch} (hl : l.stackTraces = false) {w : ab_W} (hI : ab_Inj w) {mc : Nat} {σ : ab_H} {As : List Value} {Kn : Option Value → ab_H → Prop} {Kx : String → ab_H → Prop} {s_X7_has : ab_S} (ok_X7_has : ab_OkN l yX7_has (Cond.code yX7_has cX7_has 2 (some .boolean)) 1 s_X7_has) (hlen : (ab_xl As).length ≤ 3) (h : ∀ M : Nat → ab_P, (∀ L st σ, bX7_mostFlownOf_0 w s_X7_has M Kn L st σ → M 0 L st σ) → (∀ L st σ, bX7_mostFlownOf_2 w s_X7_has M Kn L st σ → M 2 L st σ) → (∀ L st σ, bX7_mostFlownOf_35 w s_X7_has M Kn L st σ → M 35 L st σ) → M 0 (ab_pd 3 (ab_xl As)) [] σ) : ab_Met l yX7_mostFlownOf (Cond.code yX7_mostFlownOf cX7_mostFlownOf 3 (some .int)) 2 mc w σ As Kn Kx := by
  refine ab_enter (by decide) hl hI hlen (by decide) ?_
  intro p e R s m args below meth c C hno hr
  exact h _ (sd_iconst C (x := nI 4) dX7_mostFlownOf_0 (by decide +kernel) (sd_istore_n C (i := 2) dX7_mostFlownOf_1 rfl (by decide) (fun _ _ _ h => h)))
    (sd_iload_n C (i := 2) dX7_mostFlownOf_2 rfl (sd_if_lt C dX7_mostFlownOf_3 (tgt := 35) (by decide) (fun _ _ _ h => h) (sd_aload_n C (i := 0) dX7_mostFlownOf_6 rfl (sd_iload_n C (i := 1) dX7_mostFlownOf_7 rfl (sd_cV C ok_X7_has (ci := 7) (row := (RX7, TX7, 8)) rfl rfl ⟨by decide, by decide, wd_489, wd_4, by decide +kernel⟩ wd_486 wd_487 wd_488 dX7_mostFlownOf_8 (sd_if_eq C dX7_mostFlownOf_11 (tgt := 35) (by decide) (fun _ _ _ h => h) (sd_aload_n C (i := 0) dX7_mostFlownOf_14 rfl (sd_gr C (ci := 7) (k := 7) (r := (RX7, TX7, 8)) rfl (by decide) rfl wd_87 dX7_mostFlownOf_15 (sd_iload_n C (i := 1) dX7_mostFlownOf_18 rfl (sd_iconst C (x := nI 5) dX7_mostFlownOf_19 (by decide +kernel) (sd_imul C dX7_mostFlownOf_20 (sd_iload_n C (i := 2) dX7_mostFlownOf_21 rfl (sd_iadd C dX7_mostFlownOf_22 (sd_ia C dX7_mostFlownOf_23 (sd_if_le C dX7_mostFlownOf_24 (tgt := 29) (by decide) (sd_iinc C (x := -1) dX7_mostFlownOf_29 (by decide +kernel) (by decide) (sd_goto C dX7_mostFlownOf_32 (tgt := 2) (by decide) (fun _ _ _ h => h))) (sd_iload_n C (i := 2) dX7_mostFlownOf_27 rfl (sd_ir C hr dX7_mostFlownOf_28)))))))))))))))))
    (sd_iconst C (x := -1) dX7_mostFlownOf_35 (by decide +kernel) (sd_ir C hr dX7_mostFlownOf_36))
theorem dX7_addSondes_0 : decode cX7_addSondes 0 = .ok (.aload_n 0, 1) := by decide +kernel
theorem dX7_addSondes_1 : decode cX7_addSondes 1 = .ok (.iload_n 1, 1) := by decide +kernel
theorem dX7_addSondes_2 : decode cX7_addSondes 2 = .ok (.invokevirtual 41, 3) := by decide +kernel
theorem dX7_addSondes_5 : decode cX7_addSondes 5 = .ok (.ifCond .eq 26, 3) := by decide +kernel
theorem dX7_addSondes_8 : decode cX7_addSondes 8 = .ok (.iload_n 2, 1) := by decide +kernel
theorem dX7_addSondes_9 : decode cX7_addSondes 9 = .ok (.iconst 0, 1) := by decide +kernel
theorem dX7_addSondes_10 : decode cX7_addSondes 10 = .ok (.iconst 4, 1) := by decide +kernel
theorem dX7_addSondes_11 : decode cX7_addSondes 11 = .ok (.invokestatic 45, 3) := by decide +kernel
theorem dX7_addSondes_14 : decode cX7_addSondes 14 = .ok (.ifCond .eq 17, 3) := by decide +kernel
theorem dX7_addSondes_17 : decode cX7_addSondes 17 = .ok (.aload_n 0, 1) := by decide +kernel
theorem dX7_addSondes_18 : decode cX7_addSondes 18 = .ok (.getfield 30, 3) := by decide +kernel
theorem dX7_addSondes_21 : decode cX7_addSondes 21 = .ok (.iload_n 1, 1) := by decide +kernel
theorem dX7_addSondes_22 : decode cX7_addSondes 22 = .ok (.iconst 5, 1) := by decide +kernel
theorem dX7_addSondes_23 : decode cX7_addSondes 23 = .ok (.imul, 1) := by decide +kernel
theorem dX7_addSondes_24 : decode cX7_addSondes 24 = .ok (.iload_n 2, 1) := by decide +kernel
theorem dX7_addSondes_25 : decode cX7_addSondes 25 = .ok (.iadd, 1) := by decide +kernel
theorem dX7_addSondes_26 : decode cX7_addSondes 26 = .ok (.dup2, 1) := by decide +kernel
theorem dX7_addSondes_27 : decode cX7_addSondes 27 = .ok (.iaload, 1) := by decide +kernel
theorem dX7_addSondes_28 : decode cX7_addSondes 28 = .ok (.iload_n 3, 1) := by decide +kernel
theorem dX7_addSondes_29 : decode cX7_addSondes 29 = .ok (.iadd, 1) := by decide +kernel
theorem dX7_addSondes_30 : decode cX7_addSondes 30 = .ok (.iastore, 1) := by decide +kernel
theorem dX7_addSondes_31 : decode cX7_addSondes 31 = .ok (.return_, 1) := by decide +kernel
def bX7_addSondes_0 (w : ab_W) (s_X7_has : ab_S) (s_X9_within : ab_S) (M : Nat → ab_P) (Kn : Option Value → ab_H → Prop) : ab_P := ab_ald 0 (ab_ild 1 (ab_cV w 2 7 s_X7_has (ab_if1 (fun x => x = 0) (M 31) (ab_ild 2 (ab_ci (nI 0) (ab_ci (nI 4) (ab_cN w 3 s_X9_within (ab_if1 (fun x => x = 0) (M 31) (ab_ald 0 (ab_gr w 7 7 (ab_ild 1 (ab_ci (nI 5) (ab_b2 (fun x y => x * y) (ab_ild 2 (ab_b2 (fun x y => x + y) (ab_dup2 (ab_ia w 11 (ab_ild 3 (ab_b2 (fun x y => x + y) (ab_is w (M 31)))))))))))))))))))))
def bX7_addSondes_31 (w : ab_W) (s_X7_has : ab_S) (s_X9_within : ab_S) (M : Nat → ab_P) (Kn : Option Value → ab_H → Prop) : ab_P := ab_vr Kn
set_option maxRecDepth 20000 in
set_option maxHeartbeats 2000000 in
theorem vc_X7_addSondes {l : Launch} (hl : l.stackTraces = false) {w : ab_W} (hI : ab_Inj w) {mc : Nat} {σ : ab_H} {As : List Value} {Kn : Option Value → ab_H → Prop} {Kx : String → ab_H → Prop} {s_X7_has : ab_S} (ok_X7_has : ab_OkN l yX7_has (Cond.code yX7_has cX7_has 2 (some .boolean)) 1 s_X7_has) {s_X9_within : ab_S} (ok_X9_within : ab_OkN l yX9_within (Cond.code yX9_within cX9_within 3 (some .boolean)) 1 s_X9_within) (hlen : (ab_xl As).length ≤ 4) (h : ∀ M : Nat → ab_P, (∀ L st σ, bX7_addSondes_0 w s_X7_has s_X9_within M Kn L st σ → M 0 L st σ) → (∀ L st σ, bX7_addSondes_31 w s_X7_has s_X9_within M Kn L st σ → M 31 L st σ) → M 0 (ab_pd 4 (ab_xl As)) [] σ) : ab_Met l yX7_addSondes (Cond.code yX7_addSondes cX7_addSondes 4 none) 2 mc w σ As Kn Kx := by
  refine ab_enter (by decide) hl hI hlen (by decide) ?_
  intro p e R s m args below meth c C hno hr
  exact h _ (sd_aload_n C (i := 0) dX7_addSondes_0 rfl (sd_iload_n C (i := 1) dX7_addSondes_1 rfl (sd_cV C ok_X7_has (ci := 7) (row := (RX7, TX7, 8)) rfl rfl ⟨by decide, by decide, wd_489, wd_4, by decide +kernel⟩ wd_486 wd_487 wd_488 dX7_addSondes_2 (sd_if_eq C dX7_addSondes_5 (tgt := 31) (by decide) (fun _ _ _ h => h) (sd_iload_n C (i := 2) dX7_addSondes_8 rfl (sd_iconst C (x := nI 0) dX7_addSondes_9 (by decide +kernel) (sd_iconst C (x := nI 4) dX7_addSondes_10 (by decide +kernel) (sd_cSN C ok_X9_within ⟨by decide, by decide, wd_477, wd_1, by decide +kernel⟩ wn_552 wd_476 dX7_addSondes_11 (sd_if_eq C dX7_addSondes_14 (tgt := 31) (by decide) (fun _ _ _ h => h) (sd_aload_n C (i := 0) dX7_addSondes_17 rfl (sd_gr C (ci := 7) (k := 7) (r := (RX7, TX7, 8)) rfl (by decide) rfl wd_87 dX7_addSondes_18 (sd_iload_n C (i := 1) dX7_addSondes_21 rfl (sd_iconst C (x := nI 5) dX7_addSondes_22 (by decide +kernel) (sd_imul C dX7_addSondes_23 (sd_iload_n C (i := 2) dX7_addSondes_24 rfl (sd_iadd C dX7_addSondes_25 (sd_dup2 C dX7_addSondes_26 (sd_ia C dX7_addSondes_27 (sd_iload_n C (i := 3) dX7_addSondes_28 rfl (sd_iadd C dX7_addSondes_29 (sd_is C dX7_addSondes_30 (fun _ _ _ h => h))))))))))))))))))))))
    (sd_vr C hr dX7_addSondes_31)
theorem dX7_nearestTo_0 : decode cX7_nearestTo 0 = .ok (.iconst (-1), 1) := by decide +kernel
theorem dX7_nearestTo_1 : decode cX7_nearestTo 1 = .ok (.istore_n 2, 1) := by decide +kernel
theorem dX7_nearestTo_2 : decode cX7_nearestTo 2 = .ok (.bipush 100, 2) := by decide +kernel
theorem dX7_nearestTo_4 : decode cX7_nearestTo 4 = .ok (.istore_n 3, 1) := by decide +kernel
theorem dX7_nearestTo_5 : decode cX7_nearestTo 5 = .ok (.iconst 0, 1) := by decide +kernel
theorem dX7_nearestTo_6 : decode cX7_nearestTo 6 = .ok (.istore 4, 2) := by decide +kernel
theorem dX7_nearestTo_8 : decode cX7_nearestTo 8 = .ok (.iload 4, 2) := by decide +kernel
theorem dX7_nearestTo_10 : decode cX7_nearestTo 10 = .ok (.aload_n 0, 1) := by decide +kernel
theorem dX7_nearestTo_11 : decode cX7_nearestTo 11 = .ok (.getfield 33, 3) := by decide +kernel
theorem dX7_nearestTo_14 : decode cX7_nearestTo 14 = .ok (.if_icmp .ge 35, 3) := by decide +kernel
theorem dX7_nearestTo_17 : decode cX7_nearestTo 17 = .ok (.aload_n 0, 1) := by decide +kernel
theorem dX7_nearestTo_18 : decode cX7_nearestTo 18 = .ok (.getfield 9, 3) := by decide +kernel
theorem dX7_nearestTo_21 : decode cX7_nearestTo 21 = .ok (.iload 4, 2) := by decide +kernel
theorem dX7_nearestTo_23 : decode cX7_nearestTo 23 = .ok (.iaload, 1) := by decide +kernel
theorem dX7_nearestTo_24 : decode cX7_nearestTo 24 = .ok (.iload_n 1, 1) := by decide +kernel
theorem dX7_nearestTo_25 : decode cX7_nearestTo 25 = .ok (.isub, 1) := by decide +kernel
theorem dX7_nearestTo_26 : decode cX7_nearestTo 26 = .ok (.invokestatic 53, 3) := by decide +kernel
theorem dX7_nearestTo_29 : decode cX7_nearestTo 29 = .ok (.istore 5, 2) := by decide +kernel
theorem dX7_nearestTo_31 : decode cX7_nearestTo 31 = .ok (.iload 5, 2) := by decide +kernel
theorem dX7_nearestTo_33 : decode cX7_nearestTo 33 = .ok (.iload_n 3, 1) := by decide +kernel
theorem dX7_nearestTo_34 : decode cX7_nearestTo 34 = .ok (.if_icmp .ge 9, 3) := by decide +kernel
theorem dX7_nearestTo_37 : decode cX7_nearestTo 37 = .ok (.iload 4, 2) := by decide +kernel
theorem dX7_nearestTo_39 : decode cX7_nearestTo 39 = .ok (.istore_n 2, 1) := by decide +kernel
theorem dX7_nearestTo_40 : decode cX7_nearestTo 40 = .ok (.iload 5, 2) := by decide +kernel
theorem dX7_nearestTo_42 : decode cX7_nearestTo 42 = .ok (.istore_n 3, 1) := by decide +kernel
theorem dX7_nearestTo_43 : decode cX7_nearestTo 43 = .ok (.iinc 4 1, 3) := by decide +kernel
theorem dX7_nearestTo_46 : decode cX7_nearestTo 46 = .ok (.goto (-38), 3) := by decide +kernel
theorem dX7_nearestTo_49 : decode cX7_nearestTo 49 = .ok (.iload_n 2, 1) := by decide +kernel
theorem dX7_nearestTo_50 : decode cX7_nearestTo 50 = .ok (.ireturn, 1) := by decide +kernel
def bX7_nearestTo_0 (w : ab_W) (M : Nat → ab_P) (Kn : Option Value → ab_H → Prop) : ab_P := ab_ci (-1) (ab_ist 2 (ab_ci (nI 100) (ab_ist 3 (ab_ci (nI 0) (ab_ist 4 (M 8))))))
def bX7_nearestTo_8 (w : ab_W) (M : Nat → ab_P) (Kn : Option Value → ab_H → Prop) : ab_P := ab_ild 4 (ab_ald 0 (ab_gf w 7 0 (ab_if2 (fun x y => y ≤ x) (ab_ild 2 (ab_ir Kn)) (ab_ald 0 (ab_gr w 7 1 (ab_ild 4 (ab_ia w 11 (ab_ild 1 (ab_b2 (fun x y => x - y) (ab_mth1 (fun x => if 0 ≤ x then x else 0 - x) (ab_ist 5 (ab_ild 5 (ab_ild 3 (ab_if2 (fun x y => y ≤ x) (M 43) (ab_ild 4 (ab_ist 2 (ab_ild 5 (ab_ist 3 (M 43)))))))))))))))))))
def bX7_nearestTo_43 (w : ab_W) (M : Nat → ab_P) (Kn : Option Value → ab_H → Prop) : ab_P := ab_inc 4 (nI 1) (M 8)
set_option maxRecDepth 20000 in
set_option maxHeartbeats 2000000 in
theorem vc_X7_nearestTo {l : Launch} (hl : l.stackTraces = false) {w : ab_W} (hI : ab_Inj w) {mc : Nat} {σ : ab_H} {As : List Value} {Kn : Option Value → ab_H → Prop} {Kx : String → ab_H → Prop} (hlen : (ab_xl As).length ≤ 6) (h : ∀ M : Nat → ab_P, (∀ L st σ, bX7_nearestTo_0 w M Kn L st σ → M 0 L st σ) → (∀ L st σ, bX7_nearestTo_8 w M Kn L st σ → M 8 L st σ) → (∀ L st σ, bX7_nearestTo_43 w M Kn L st σ → M 43 L st σ) → M 0 (ab_pd 6 (ab_xl As)) [] σ) : ab_Met l yX7_nearestTo (Cond.code yX7_nearestTo cX7_nearestTo 6 (some .int)) 2 mc w σ As Kn Kx := by
  refine ab_enter (by decide) hl hI hlen (by decide) ?_
  intro p e R s m args below meth c C hno hr
  exact h _ (sd_iconst C (x := -1) dX7_nearestTo_0 (by decide +kernel) (sd_istore_n C (i := 2) dX7_nearestTo_1 rfl (by decide) (sd_bipush C (x := nI 100) dX7_nearestTo_2 (by decide +kernel) (sd_istore_n C (i := 3) dX7_nearestTo_4 rfl (by decide) (sd_iconst C (x := nI 0) dX7_nearestTo_5 (by decide +kernel) (sd_istore C dX7_nearestTo_6 (by decide) (fun _ _ _ h => h)))))))
    (sd_iload C dX7_nearestTo_8 (sd_aload_n C (i := 0) dX7_nearestTo_10 rfl (sd_gf C (ci := 7) (k := 0) (r := (RX7, TX7, 8)) rfl (by decide) rfl wd_66 dX7_nearestTo_11 (sd_icmp_ge C dX7_nearestTo_14 (tgt := 49) (by decide) (sd_iload_n C (i := 2) dX7_nearestTo_49 rfl (sd_ir C hr dX7_nearestTo_50)) (sd_aload_n C (i := 0) dX7_nearestTo_17 rfl (sd_gr C (ci := 7) (k := 1) (r := (RX7, TX7, 8)) rfl (by decide) rfl wd_69 dX7_nearestTo_18 (sd_iload C dX7_nearestTo_21 (sd_ia C dX7_nearestTo_23 (sd_iload_n C (i := 1) dX7_nearestTo_24 rfl (sd_isub C dX7_nearestTo_25 (sd_mabs C wd_596 wd_590 wd_16 wd_591 dX7_nearestTo_26 (sd_istore C dX7_nearestTo_29 (by decide) (sd_iload C dX7_nearestTo_31 (sd_iload_n C (i := 3) dX7_nearestTo_33 rfl (sd_icmp_ge C dX7_nearestTo_34 (tgt := 43) (by decide) (fun _ _ _ h => h) (sd_iload C dX7_nearestTo_37 (sd_istore_n C (i := 2) dX7_nearestTo_39 rfl (by decide) (sd_iload C dX7_nearestTo_40 (sd_istore_n C (i := 3) dX7_nearestTo_42 rfl (by decide) (fun _ _ _ h => h))))))))))))))))))))
    (sd_iinc C (x := nI 1) dX7_nearestTo_43 (by decide +kernel) (by decide) (sd_goto C dX7_nearestTo_46 (tgt := 8) (by decide) (fun _ _ _ h => h)))
theorem dX7_sondesWith_0 : decode cX7_sondesWith 0 = .ok (.aload_n 0, 1) := by decide +kernel
theorem dX7_sondesWith_1 : decode cX7_sondesWith 1 = .ok (.iload_n 1, 1) := by decide +kernel
theorem dX7_sondesWith_2 : decode cX7_sondesWith 2 = .ok (.invokevirtual 41, 3) := by decide +kernel
theorem dX7_sondesWith_5 : decode cX7_sondesWith 5 = .ok (.ifCond .eq 16, 3) := by decide +kernel
theorem dX7_sondesWith_8 : decode cX7_sondesWith 8 = .ok (.iload_n 2, 1) := by decide +kernel
theorem dX7_sondesWith_9 : decode cX7_sondesWith 9 = .ok (.iconst 0, 1) := by decide +kernel
theorem dX7_sondesWith_10 : decode cX7_sondesWith 10 = .ok (.iconst 4, 1) := by decide +kernel
theorem dX7_sondesWith_11 : decode cX7_sondesWith 11 = .ok (.invokestatic 45, 3) := by decide +kernel
theorem dX7_sondesWith_14 : decode cX7_sondesWith 14 = .ok (.ifCond .eq 7, 3) := by decide +kernel
theorem dX7_sondesWith_17 : decode cX7_sondesWith 17 = .ok (.iconst 1, 1) := by decide +kernel
theorem dX7_sondesWith_18 : decode cX7_sondesWith 18 = .ok (.goto 4, 3) := by decide +kernel
theorem dX7_sondesWith_21 : decode cX7_sondesWith 21 = .ok (.iconst 0, 1) := by decide +kernel
theorem dX7_sondesWith_22 : decode cX7_sondesWith 22 = .ok (.istore_n 3, 1) := by decide +kernel
theorem dX7_sondesWith_23 : decode cX7_sondesWith 23 = .ok (.iload_n 3, 1) := by decide +kernel
theorem dX7_sondesWith_24 : decode cX7_sondesWith 24 = .ok (.ifCond .eq 16, 3) := by decide +kernel
theorem dX7_sondesWith_27 : decode cX7_sondesWith 27 = .ok (.aload_n 0, 1) := by decide +kernel
theorem dX7_sondesWith_28 : decode cX7_sondesWith 28 = .ok (.getfield 30, 3) := by decide +kernel
theorem dX7_sondesWith_31 : decode cX7_sondesWith 31 = .ok (.iload_n 1, 1) := by decide +kernel
theorem dX7_sondesWith_32 : decode cX7_sondesWith 32 = .ok (.iconst 5, 1) := by decide +kernel
theorem dX7_sondesWith_33 : decode cX7_sondesWith 33 = .ok (.imul, 1) := by decide +kernel
theorem dX7_sondesWith_34 : decode cX7_sondesWith 34 = .ok (.iload_n 2, 1) := by decide +kernel
theorem dX7_sondesWith_35 : decode cX7_sondesWith 35 = .ok (.iadd, 1) := by decide +kernel
theorem dX7_sondesWith_36 : decode cX7_sondesWith 36 = .ok (.iaload, 1) := by decide +kernel
theorem dX7_sondesWith_37 : decode cX7_sondesWith 37 = .ok (.goto 4, 3) := by decide +kernel
theorem dX7_sondesWith_40 : decode cX7_sondesWith 40 = .ok (.iconst 0, 1) := by decide +kernel
theorem dX7_sondesWith_41 : decode cX7_sondesWith 41 = .ok (.ireturn, 1) := by decide +kernel
def bX7_sondesWith_0 (w : ab_W) (s_X7_has : ab_S) (s_X9_within : ab_S) (M : Nat → ab_P) (Kn : Option Value → ab_H → Prop) : ab_P := ab_ald 0 (ab_ild 1 (ab_cV w 2 7 s_X7_has (ab_if1 (fun x => x = 0) (M 21) (ab_ild 2 (ab_ci (nI 0) (ab_ci (nI 4) (ab_cN w 3 s_X9_within (ab_if1 (fun x => x = 0) (M 21) (ab_ci (nI 1) (M 22))))))))))
def bX7_sondesWith_21 (w : ab_W) (s_X7_has : ab_S) (s_X9_within : ab_S) (M : Nat → ab_P) (Kn : Option Value → ab_H → Prop) : ab_P := ab_ci (nI 0) (M 22)
def bX7_sondesWith_22 (w : ab_W) (s_X7_has : ab_S) (s_X9_within : ab_S) (M : Nat → ab_P) (Kn : Option Value → ab_H → Prop) : ab_P := ab_ist 3 (ab_ild 3 (ab_if1 (fun x => x = 0) (ab_ci (nI 0) (M 41)) (ab_ald 0 (ab_gr w 7 7 (ab_ild 1 (ab_ci (nI 5) (ab_b2 (fun x y => x * y) (ab_ild 2 (ab_b2 (fun x y => x + y) (ab_ia w 11 (M 41)))))))))))
def bX7_sondesWith_41 (w : ab_W) (s_X7_has : ab_S) (s_X9_within : ab_S) (M : Nat → ab_P) (Kn : Option Value → ab_H → Prop) : ab_P := ab_ir Kn
set_option maxRecDepth 20000 in
set_option maxHeartbeats 2000000 in
theorem vc_X7_sondesWith {l : Launch} (hl : l.stackTraces = false) {w : ab_W} (hI : ab_Inj w) {mc : Nat} {σ : ab_H} {As : List Value} {Kn : Option Value → ab_H → Prop} {Kx : String → ab_H → Prop} {s_X7_has : ab_S} (ok_X7_has : ab_OkN l yX7_has (Cond.code yX7_has cX7_has 2 (some .boolean)) 1 s_X7_has) {s_X9_within : ab_S} (ok_X9_within : ab_OkN l yX9_within (Cond.code yX9_within cX9_within 3 (some .boolean)) 1 s_X9_within) (hlen : (ab_xl As).length ≤ 4) (h : ∀ M : Nat → ab_P, (∀ L st σ, bX7_sondesWith_0 w s_X7_has s_X9_within M Kn L st σ → M 0 L st σ) → (∀ L st σ, bX7_sondesWith_21 w s_X7_has s_X9_within M Kn L st σ → M 21 L st σ) → (∀ L st σ, bX7_sondesWith_22 w s_X7_has s_X9_within M Kn L st σ → M 22 L st σ) → (∀ L st σ, bX7_sondesWith_41 w s_X7_has s_X9_within M Kn L st σ → M 41 L st σ) → M 0 (ab_pd 4 (ab_xl As)) [] σ) : ab_Met l yX7_sondesWith (Cond.code yX7_sondesWith cX7_sondesWith 4 (some .int)) 2 mc w σ As Kn Kx := by
  refine ab_enter (by decide) hl hI hlen (by decide) ?_
  intro p e R s m args below meth c C hno hr
  exact h _ (sd_aload_n C (i := 0) dX7_sondesWith_0 rfl (sd_iload_n C (i := 1) dX7_sondesWith_1 rfl (sd_cV C ok_X7_has (ci := 7) (row := (RX7, TX7, 8)) rfl rfl ⟨by decide, by decide, wd_489, wd_4, by decide +kernel⟩ wd_486 wd_487 wd_488 dX7_sondesWith_2 (sd_if_eq C dX7_sondesWith_5 (tgt := 21) (by decide) (fun _ _ _ h => h) (sd_iload_n C (i := 2) dX7_sondesWith_8 rfl (sd_iconst C (x := nI 0) dX7_sondesWith_9 (by decide +kernel) (sd_iconst C (x := nI 4) dX7_sondesWith_10 (by decide +kernel) (sd_cSN C ok_X9_within ⟨by decide, by decide, wd_477, wd_1, by decide +kernel⟩ wn_552 wd_476 dX7_sondesWith_11 (sd_if_eq C dX7_sondesWith_14 (tgt := 21) (by decide) (fun _ _ _ h => h) (sd_iconst C (x := nI 1) dX7_sondesWith_17 (by decide +kernel) (sd_goto C dX7_sondesWith_18 (tgt := 22) (by decide) (fun _ _ _ h => h))))))))))))
    (sd_iconst C (x := nI 0) dX7_sondesWith_21 (by decide +kernel) (fun _ _ _ h => h))
    (sd_istore_n C (i := 3) dX7_sondesWith_22 rfl (by decide) (sd_iload_n C (i := 3) dX7_sondesWith_23 rfl (sd_if_eq C dX7_sondesWith_24 (tgt := 40) (by decide) (sd_iconst C (x := nI 0) dX7_sondesWith_40 (by decide +kernel) (fun _ _ _ h => h)) (sd_aload_n C (i := 0) dX7_sondesWith_27 rfl (sd_gr C (ci := 7) (k := 7) (r := (RX7, TX7, 8)) rfl (by decide) rfl wd_87 dX7_sondesWith_28 (sd_iload_n C (i := 1) dX7_sondesWith_31 rfl (sd_iconst C (x := nI 5) dX7_sondesWith_32 (by decide +kernel) (sd_imul C dX7_sondesWith_33 (sd_iload_n C (i := 2) dX7_sondesWith_34 rfl (sd_iadd C dX7_sondesWith_35 (sd_ia C dX7_sondesWith_36 (sd_goto C dX7_sondesWith_37 (tgt := 41) (by decide) (fun _ _ _ h => h)))))))))))))
    (sd_ir C hr dX7_sondesWith_41)
theorem dX7_sondesOf_0 : decode cX7_sondesOf 0 = .ok (.iconst 0, 1) := by decide +kernel
theorem dX7_sondesOf_1 : decode cX7_sondesOf 1 = .ok (.istore_n 2, 1) := by decide +kernel
theorem dX7_sondesOf_2 : decode cX7_sondesOf 2 = .ok (.iconst 0, 1) := by decide +kernel
theorem dX7_sondesOf_3 : decode cX7_sondesOf 3 = .ok (.istore_n 3, 1) := by decide +kernel
theorem dX7_sondesOf_4 : decode cX7_sondesOf 4 = .ok (.iload_n 3, 1) := by decide +kernel
theorem dX7_sondesOf_5 : decode cX7_sondesOf 5 = .ok (.iconst 5, 1) := by decide +kernel
theorem dX7_sondesOf_6 : decode cX7_sondesOf 6 = .ok (.if_icmp .ge 30, 3) := by decide +kernel
theorem dX7_sondesOf_9 : decode cX7_sondesOf 9 = .ok (.aload_n 0, 1) := by decide +kernel
theorem dX7_sondesOf_10 : decode cX7_sondesOf 10 = .ok (.iload_n 1, 1) := by decide +kernel
theorem dX7_sondesOf_11 : decode cX7_sondesOf 11 = .ok (.invokevirtual 41, 3) := by decide +kernel
theorem dX7_sondesOf_14 : decode cX7_sondesOf 14 = .ok (.ifCond .eq 22, 3) := by decide +kernel
theorem dX7_sondesOf_17 : decode cX7_sondesOf 17 = .ok (.iload_n 2, 1) := by decide +kernel
theorem dX7_sondesOf_18 : decode cX7_sondesOf 18 = .ok (.aload_n 0, 1) := by decide +kernel
theorem dX7_sondesOf_19 : decode cX7_sondesOf 19 = .ok (.getfield 30, 3) := by decide +kernel
theorem dX7_sondesOf_22 : decode cX7_sondesOf 22 = .ok (.iload_n 1, 1) := by decide +kernel
theorem dX7_sondesOf_23 : decode cX7_sondesOf 23 = .ok (.iconst 5, 1) := by decide +kernel
theorem dX7_sondesOf_24 : decode cX7_sondesOf 24 = .ok (.imul, 1) := by decide +kernel
theorem dX7_sondesOf_25 : decode cX7_sondesOf 25 = .ok (.iload_n 3, 1) := by decide +kernel
theorem dX7_sondesOf_26 : decode cX7_sondesOf 26 = .ok (.iadd, 1) := by decide +kernel
theorem dX7_sondesOf_27 : decode cX7_sondesOf 27 = .ok (.iaload, 1) := by decide +kernel
theorem dX7_sondesOf_28 : decode cX7_sondesOf 28 = .ok (.iadd, 1) := by decide +kernel
theorem dX7_sondesOf_29 : decode cX7_sondesOf 29 = .ok (.istore_n 2, 1) := by decide +kernel
theorem dX7_sondesOf_30 : decode cX7_sondesOf 30 = .ok (.iinc 3 1, 3) := by decide +kernel
theorem dX7_sondesOf_33 : decode cX7_sondesOf 33 = .ok (.goto (-29), 3) := by decide +kernel
theorem dX7_sondesOf_36 : decode cX7_sondesOf 36 = .ok (.iload_n 2, 1) := by decide +kernel
theorem dX7_sondesOf_37 : decode cX7_sondesOf 37 = .ok (.ireturn, 1) := by decide +kernel
def bX7_sondesOf_0 (w : ab_W) (s_X7_has : ab_S) (M : Nat → ab_P) (Kn : Option Value → ab_H → Prop) : ab_P := ab_ci (nI 0) (ab_ist 2 (ab_ci (nI 0) (ab_ist 3 (M 4))))
def bX7_sondesOf_4 (w : ab_W) (s_X7_has : ab_S) (M : Nat → ab_P) (Kn : Option Value → ab_H → Prop) : ab_P := ab_ild 3 (ab_ci (nI 5) (ab_if2 (fun x y => y ≤ x) (M 36) (ab_ald 0 (ab_ild 1 (ab_cV w 2 7 s_X7_has (ab_if1 (fun x => x = 0) (M 36) (ab_ild 2 (ab_ald 0 (ab_gr w 7 7 (ab_ild 1 (ab_ci (nI 5) (ab_b2 (fun x y => x * y) (ab_ild 3 (ab_b2 (fun x y => x + y) (ab_ia w 11 (ab_b2 (fun x y => x + y) (ab_ist 2 (ab_inc 3 (nI 1) (M 4)))))))))))))))))))
def bX7_sondesOf_36 (w : ab_W) (s_X7_has : ab_S) (M : Nat → ab_P) (Kn : Option Value → ab_H → Prop) : ab_P := ab_ild 2 (ab_ir Kn)
set_option maxRecDepth 20000 in
set_option maxHeartbeats 2000000 in
theorem vc_X7_sondesOf {l : Launch} (hl : l.stackTraces = false) {w : ab_W} (hI : ab_Inj w) {mc : Nat} {σ : ab_H} {As : List Value} {Kn : Option Value → ab_H → Prop} {Kx : String → ab_H → Prop} {s_X7_has : ab_S} (ok_X7_has : ab_OkN l yX7_has (Cond.code yX7_has cX7_has 2 (some .boolean)) 1 s_X7_has) (hlen : (ab_xl As).length ≤ 4) (h : ∀ M : Nat → ab_P, (∀ L st σ, bX7_sondesOf_0 w s_X7_has M Kn L st σ → M 0 L st σ) → (∀ L st σ, bX7_sondesOf_4 w s_X7_has M Kn L st σ → M 4 L st σ) → (∀ L st σ, bX7_sondesOf_36 w s_X7_has M Kn L st σ → M 36 L st σ) → M 0 (ab_pd 4 (ab_xl As)) [] σ) : ab_Met l yX7_sondesOf (Cond.code yX7_sondesOf cX7_sondesOf 4 (some .int)) 2 mc w σ As Kn Kx := by
  refine ab_enter (by decide) hl hI hlen (by decide) ?_
  intro p e R s m args below meth c C hno hr
  exact h _ (sd_iconst C (x := nI 0) dX7_sondesOf_0 (by decide +kernel) (sd_istore_n C (i := 2) dX7_sondesOf_1 rfl (by decide) (sd_iconst C (x := nI 0) dX7_sondesOf_2 (by decide +kernel) (sd_istore_n C (i := 3) dX7_sondesOf_3 rfl (by decide) (fun _ _ _ h => h)))))
    (sd_iload_n C (i := 3) dX7_sondesOf_4 rfl (sd_iconst C (x := nI 5) dX7_sondesOf_5 (by decide +kernel) (sd_icmp_ge C dX7_sondesOf_6 (tgt := 36) (by decide) (fun _ _ _ h => h) (sd_aload_n C (i := 0) dX7_sondesOf_9 rfl (sd_iload_n C (i := 1) dX7_sondesOf_10 rfl (sd_cV C ok_X7_has (ci := 7) (row := (RX7, TX7, 8)) rfl rfl ⟨by decide, by decide, wd_489, wd_4, by decide +kernel⟩ wd_486 wd_487 wd_488 dX7_sondesOf_11 (sd_if_eq C dX7_sondesOf_14 (tgt := 36) (by decide) (fun _ _ _ h => h) (sd_iload_n C (i := 2) dX7_sondesOf_17 rfl (sd_aload_n C (i := 0) dX7_sondesOf_18 rfl (sd_gr C (ci := 7) (k := 7) (r := (RX7, TX7, 8)) rfl (by decide) rfl wd_87 dX7_sondesOf_19 (sd_iload_n C (i := 1) dX7_sondesOf_22 rfl (sd_iconst C (x := nI 5) dX7_sondesOf_23 (by decide +kernel) (sd_imul C dX7_sondesOf_24 (sd_iload_n C (i := 3) dX7_sondesOf_25 rfl (sd_iadd C dX7_sondesOf_26 (sd_ia C dX7_sondesOf_27 (sd_iadd C dX7_sondesOf_28 (sd_istore_n C (i := 2) dX7_sondesOf_29 rfl (by decide) (sd_iinc C (x := nI 1) dX7_sondesOf_30 (by decide +kernel) (by decide) (sd_goto C dX7_sondesOf_33 (tgt := 4) (by decide) (fun _ _ _ h => h)))))))))))))))))))))
    (sd_iload_n C (i := 2) dX7_sondesOf_36 rfl (sd_ir C hr dX7_sondesOf_37))
theorem dX7_sondesOfAll_0 : decode cX7_sondesOfAll 0 = .ok (.iconst 0, 1) := by decide +kernel
theorem dX7_sondesOfAll_1 : decode cX7_sondesOfAll 1 = .ok (.istore_n 1, 1) := by decide +kernel
theorem dX7_sondesOfAll_2 : decode cX7_sondesOfAll 2 = .ok (.iconst 0, 1) := by decide +kernel
theorem dX7_sondesOfAll_3 : decode cX7_sondesOfAll 3 = .ok (.istore_n 2, 1) := by decide +kernel
theorem dX7_sondesOfAll_4 : decode cX7_sondesOfAll 4 = .ok (.iload_n 2, 1) := by decide +kernel
theorem dX7_sondesOfAll_5 : decode cX7_sondesOfAll 5 = .ok (.aload_n 0, 1) := by decide +kernel
theorem dX7_sondesOfAll_6 : decode cX7_sondesOfAll 6 = .ok (.getfield 33, 3) := by decide +kernel
theorem dX7_sondesOfAll_9 : decode cX7_sondesOfAll 9 = .ok (.if_icmp .ge 17, 3) := by decide +kernel
theorem dX7_sondesOfAll_12 : decode cX7_sondesOfAll 12 = .ok (.iload_n 1, 1) := by decide +kernel
theorem dX7_sondesOfAll_13 : decode cX7_sondesOfAll 13 = .ok (.aload_n 0, 1) := by decide +kernel
theorem dX7_sondesOfAll_14 : decode cX7_sondesOfAll 14 = .ok (.iload_n 2, 1) := by decide +kernel
theorem dX7_sondesOfAll_15 : decode cX7_sondesOfAll 15 = .ok (.invokevirtual 49, 3) := by decide +kernel
theorem dX7_sondesOfAll_18 : decode cX7_sondesOfAll 18 = .ok (.iadd, 1) := by decide +kernel
theorem dX7_sondesOfAll_19 : decode cX7_sondesOfAll 19 = .ok (.istore_n 1, 1) := by decide +kernel
theorem dX7_sondesOfAll_20 : decode cX7_sondesOfAll 20 = .ok (.iinc 2 1, 3) := by decide +kernel
theorem dX7_sondesOfAll_23 : decode cX7_sondesOfAll 23 = .ok (.goto (-19), 3) := by decide +kernel
theorem dX7_sondesOfAll_26 : decode cX7_sondesOfAll 26 = .ok (.iload_n 1, 1) := by decide +kernel
theorem dX7_sondesOfAll_27 : decode cX7_sondesOfAll 27 = .ok (.ireturn, 1) := by decide +kernel
def bX7_sondesOfAll_0 (w : ab_W) (s_X7_sondesOf : ab_S) (M : Nat → ab_P) (Kn : Option Value → ab_H → Prop) : ab_P := ab_ci (nI 0) (ab_ist 1 (ab_ci (nI 0) (ab_ist 2 (M 4))))
def bX7_sondesOfAll_4 (w : ab_W) (s_X7_sondesOf : ab_S) (M : Nat → ab_P) (Kn : Option Value → ab_H → Prop) : ab_P := ab_ild 2 (ab_ald 0 (ab_gf w 7 0 (ab_if2 (fun x y => y ≤ x) (ab_ild 1 (ab_ir Kn)) (ab_ild 1 (ab_ald 0 (ab_ild 2 (ab_cV w 2 7 s_X7_sondesOf (ab_b2 (fun x y => x + y) (ab_ist 1 (ab_inc 2 (nI 1) (M 4)))))))))))
set_option maxRecDepth 20000 in
set_option maxHeartbeats 2000000 in
theorem vc_X7_sondesOfAll {l : Launch} (hl : l.stackTraces = false) {w : ab_W} (hI : ab_Inj w) {mc : Nat} {σ : ab_H} {As : List Value} {Kn : Option Value → ab_H → Prop} {Kx : String → ab_H → Prop} {s_X7_sondesOf : ab_S} (ok_X7_sondesOf : ab_OkN l yX7_sondesOf (Cond.code yX7_sondesOf cX7_sondesOf 4 (some .int)) 2 s_X7_sondesOf) (hlen : (ab_xl As).length ≤ 3) (h : ∀ M : Nat → ab_P, (∀ L st σ, bX7_sondesOfAll_0 w s_X7_sondesOf M Kn L st σ → M 0 L st σ) → (∀ L st σ, bX7_sondesOfAll_4 w s_X7_sondesOf M Kn L st σ → M 4 L st σ) → M 0 (ab_pd 3 (ab_xl As)) [] σ) : ab_Met l yX7_sondesOfAll (Cond.code yX7_sondesOfAll cX7_sondesOfAll 3 (some .int)) 3 mc w σ As Kn Kx := by
  refine ab_enter (by decide) hl hI hlen (by decide) ?_
  intro p e R s m args below meth c C hno hr
  exact h _ (sd_iconst C (x := nI 0) dX7_sondesOfAll_0 (by decide +kernel) (sd_istore_n C (i := 1) dX7_sondesOfAll_1 rfl (by decide) (sd_iconst C (x := nI 0) dX7_sondesOfAll_2 (by decide +kernel) (sd_istore_n C (i := 2) dX7_sondesOfAll_3 rfl (by decide) (fun _ _ _ h => h)))))
    (sd_iload_n C (i := 2) dX7_sondesOfAll_4 rfl (sd_aload_n C (i := 0) dX7_sondesOfAll_5 rfl (sd_gf C (ci := 7) (k := 0) (r := (RX7, TX7, 8)) rfl (by decide) rfl wd_66 dX7_sondesOfAll_6 (sd_icmp_ge C dX7_sondesOfAll_9 (tgt := 26) (by decide) (sd_iload_n C (i := 1) dX7_sondesOfAll_26 rfl (sd_ir C hr dX7_sondesOfAll_27)) (sd_iload_n C (i := 1) dX7_sondesOfAll_12 rfl (sd_aload_n C (i := 0) dX7_sondesOfAll_13 rfl (sd_iload_n C (i := 2) dX7_sondesOfAll_14 rfl (sd_cV C ok_X7_sondesOf (ci := 7) (row := (RX7, TX7, 8)) rfl rfl ⟨by decide, by decide, wd_667, wd_4, by decide +kernel⟩ wd_664 wd_665 wd_666 dX7_sondesOfAll_15 (sd_iadd C dX7_sondesOfAll_18 (sd_istore_n C (i := 1) dX7_sondesOfAll_19 rfl (by decide) (sd_iinc C (x := nI 1) dX7_sondesOfAll_20 (by decide +kernel) (by decide) (sd_goto C dX7_sondesOfAll_23 (tgt := 4) (by decide) (fun _ _ _ h => h)))))))))))))
