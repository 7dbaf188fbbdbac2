theorem dX2_forget_0 : decode cX2_forget 0 = .ok (.aload_n 0, 1) := by decide +kernel
theorem dX2_forget_1 : decode cX2_forget 1 = .ok (.iconst 0, 1) := by decide +kernel
theorem dX2_forget_2 : decode cX2_forget 2 = .ok (.putfield 18, 3) := by decide +kernel
theorem dX2_forget_5 : decode cX2_forget 5 = .ok (.aload_n 0, 1) := by decide +kernel
theorem dX2_forget_6 : decode cX2_forget 6 = .ok (.iconst 0, 1) := by decide +kernel
theorem dX2_forget_7 : decode cX2_forget 7 = .ok (.putfield 22, 3) := by decide +kernel
theorem dX2_forget_10 : decode cX2_forget 10 = .ok (.return_, 1) := by decide +kernel
def bX2_forget_0 (w : ab_W) (M : Nat → ab_P) (Kn : Option Value → ab_H → Prop) : ab_P := ab_ald 0 (ab_ci (nI 0) (ab_pf w 2 0 (ab_ald 0 (ab_ci (nI 0) (ab_pf w 2 1 (ab_vr Kn))))))
set_option maxRecDepth 20000 in
set_option maxHeartbeats 2000000 in
theorem vc_X2_forget {l : Launch} (hl : l.stackTraces = false) {w : ab_W} (hI : ab_Inj w) {mc : Nat} {σ : ab_H} {As : List Value} {Kn : Option Value → ab_H → Prop} {Kx : String → ab_H → Prop} (hlen : (ab_xl As).length ≤ 1) (h : ∀ M : Nat → ab_P, (∀ L st σ, bX2_forget_0 w M Kn L st σ → M 0 L st σ) → M 0 (ab_pd 1 (ab_xl As)) [] σ) : ab_Met l yX2_forget (Cond.code yX2_forget cX2_forget 1 none) 1 mc w σ As Kn Kx := by
  refine ab_enter (by decide) hl hI hlen (by decide) ?_
  intro p e R s m args below meth c C hno hr
  exact h _ (sd_aload_n C (i := 0) dX2_forget_0 rfl (sd_iconst C (x := nI 0) dX2_forget_1 (by decide +kernel) (sd_pf C (ci := 2) (k := 0) (r := (RX2, TX2, 3)) rfl (by decide) rfl rfl (by decide +kernel) wd_265 dX2_forget_2 (sd_aload_n C (i := 0) dX2_forget_5 rfl (sd_iconst C (x := nI 0) dX2_forget_6 (by decide +kernel) (sd_pf C (ci := 2) (k := 1) (r := (RX2, TX2, 3)) rfl (by decide) rfl rfl (by decide +kernel) wd_267 dX2_forget_7 (sd_vr C hr dX2_forget_10)))))))
theorem dX2_remember_0 : decode cX2_remember 0 = .ok (.aload_n 0, 1) := by decide +kernel
theorem dX2_remember_1 : decode cX2_remember 1 = .ok (.getfield 11, 3) := by decide +kernel
theorem dX2_remember_4 : decode cX2_remember 4 = .ok (.aload_n 0, 1) := by decide +kernel
theorem dX2_remember_5 : decode cX2_remember 5 = .ok (.getfield 22, 3) := by decide +kernel
theorem dX2_remember_8 : decode cX2_remember 8 = .ok (.aload_n 0, 1) := by decide +kernel
theorem dX2_remember_9 : decode cX2_remember 9 = .ok (.getfield 18, 3) := by decide +kernel
theorem dX2_remember_12 : decode cX2_remember 12 = .ok (.iadd, 1) := by decide +kernel
theorem dX2_remember_13 : decode cX2_remember 13 = .ok (.bipush 14, 2) := by decide +kernel
theorem dX2_remember_15 : decode cX2_remember 15 = .ok (.irem, 1) := by decide +kernel
theorem dX2_remember_16 : decode cX2_remember 16 = .ok (.aaload, 1) := by decide +kernel
theorem dX2_remember_17 : decode cX2_remember 17 = .ok (.astore_n 2, 1) := by decide +kernel
theorem dX2_remember_18 : decode cX2_remember 18 = .ok (.aload_n 2, 1) := by decide +kernel
theorem dX2_remember_19 : decode cX2_remember 19 = .ok (.ifnull 8, 3) := by decide +kernel
theorem dX2_remember_22 : decode cX2_remember 22 = .ok (.aload_n 2, 1) := by decide +kernel
theorem dX2_remember_23 : decode cX2_remember 23 = .ok (.aload_n 1, 1) := by decide +kernel
theorem dX2_remember_24 : decode cX2_remember 24 = .ok (.invokevirtual 25, 3) := by decide +kernel
theorem dX2_remember_27 : decode cX2_remember 27 = .ok (.aload_n 0, 1) := by decide +kernel
theorem dX2_remember_28 : decode cX2_remember 28 = .ok (.getfield 18, 3) := by decide +kernel
theorem dX2_remember_31 : decode cX2_remember 31 = .ok (.bipush 14, 2) := by decide +kernel
theorem dX2_remember_33 : decode cX2_remember 33 = .ok (.if_icmp .ge 16, 3) := by decide +kernel
theorem dX2_remember_36 : decode cX2_remember 36 = .ok (.aload_n 0, 1) := by decide +kernel
theorem dX2_remember_37 : decode cX2_remember 37 = .ok (.dup, 1) := by decide +kernel
theorem dX2_remember_38 : decode cX2_remember 38 = .ok (.getfield 18, 3) := by decide +kernel
theorem dX2_remember_41 : decode cX2_remember 41 = .ok (.iconst 1, 1) := by decide +kernel
theorem dX2_remember_42 : decode cX2_remember 42 = .ok (.iadd, 1) := by decide +kernel
theorem dX2_remember_43 : decode cX2_remember 43 = .ok (.putfield 18, 3) := by decide +kernel
theorem dX2_remember_46 : decode cX2_remember 46 = .ok (.goto 16, 3) := by decide +kernel
theorem dX2_remember_49 : decode cX2_remember 49 = .ok (.aload_n 0, 1) := by decide +kernel
theorem dX2_remember_50 : decode cX2_remember 50 = .ok (.aload_n 0, 1) := by decide +kernel
theorem dX2_remember_51 : decode cX2_remember 51 = .ok (.getfield 22, 3) := by decide +kernel
theorem dX2_remember_54 : decode cX2_remember 54 = .ok (.iconst 1, 1) := by decide +kernel
theorem dX2_remember_55 : decode cX2_remember 55 = .ok (.iadd, 1) := by decide +kernel
theorem dX2_remember_56 : decode cX2_remember 56 = .ok (.bipush 14, 2) := by decide +kernel
theorem dX2_remember_58 : decode cX2_remember 58 = .ok (.irem, 1) := by decide +kernel
theorem dX2_remember_59 : decode cX2_remember 59 = .ok (.putfield 22, 3) := by decide +kernel
theorem dX2_remember_62 : decode cX2_remember 62 = .ok (.return_, 1) := by decide +kernel
def bX2_remember_0 (w : ab_W) (s_X3_copyFrom : ab_S) (M : Nat → ab_P) (Kn : Option Value → ab_H → Prop) : ab_P := ab_ald 0 (ab_gr w 2 1 (ab_ald 0 (ab_gf w 2 1 (ab_ald 0 (ab_gf w 2 0 (ab_b2 (fun x y => x + y) (ab_ci (nI 14) (ab_d2 (fun x y => x - x / y * y) (ab_aa w (ab_ast 2 (ab_ald 2 (ab_nn (ab_ald 2 (ab_ald 1 (ab_cV w 2 3 s_X3_copyFrom (ab_ald 0 (ab_gf w 2 0 (ab_ci (nI 14) (ab_if2 (fun x y => y ≤ x) (ab_ald 0 (ab_ald 0 (ab_gf w 2 1 (ab_ci (nI 1) (ab_b2 (fun x y => x + y) (ab_ci (nI 14) (ab_d2 (fun x y => x - x / y * y) (ab_pf w 2 1 (M 62))))))))) (ab_ald 0 (ab_dup (ab_gf w 2 0 (ab_ci (nI 1) (ab_b2 (fun x y => x + y) (ab_pf w 2 0 (M 62))))))))))))))))))))))))))
def bX2_remember_62 (w : ab_W) (s_X3_copyFrom : ab_S) (M : Nat → ab_P) (Kn : Option Value → ab_H → Prop) : ab_P := ab_vr Kn
set_option maxRecDepth 20000 in
set_option maxHeartbeats 2000000 in
theorem vc_X2_remember {l : Launch} (hl : l.stackTraces = false) {w : ab_W} (hI : ab_Inj w) {mc : Nat} {σ : ab_H} {As : List Value} {Kn : Option Value → ab_H → Prop} {Kx : String → ab_H → Prop} {s_X3_copyFrom : ab_S} (ok_X3_copyFrom : ab_OkN l yX3_copyFrom (Cond.code yX3_copyFrom cX3_copyFrom 2 none) 4 s_X3_copyFrom) (hlen : (ab_xl As).length ≤ 3) (h : ∀ M : Nat → ab_P, (∀ L st σ, bX2_remember_0 w s_X3_copyFrom M Kn L st σ → M 0 L st σ) → (∀ L st σ, bX2_remember_62 w s_X3_copyFrom M Kn L st σ → M 62 L st σ) → M 0 (ab_pd 3 (ab_xl As)) [] σ) : ab_Met l yX2_remember (Cond.code yX2_remember cX2_remember 3 none) 5 mc w σ As Kn Kx := by
  refine ab_enter (by decide) hl hI hlen (by decide) ?_
  intro p e R s m args below meth c C hno hr
  exact h _ (sd_aload_n C (i := 0) dX2_remember_0 rfl (sd_gr C (ci := 2) (k := 2) (r := (RX2, TX2, 3)) rfl (by decide) rfl wd_268 dX2_remember_1 (sd_aload_n C (i := 0) dX2_remember_4 rfl (sd_gf C (ci := 2) (k := 1) (r := (RX2, TX2, 3)) rfl (by decide) rfl wd_267 dX2_remember_5 (sd_aload_n C (i := 0) dX2_remember_8 rfl (sd_gf C (ci := 2) (k := 0) (r := (RX2, TX2, 3)) rfl (by decide) rfl wd_265 dX2_remember_9 (sd_iadd C dX2_remember_12 (sd_bipush C (x := nI 14) dX2_remember_13 (by decide +kernel) (sd_irem C dX2_remember_15 (sd_aa C dX2_remember_16 (sd_astore_n C (i := 2) dX2_remember_17 rfl (by decide) (sd_aload_n C (i := 2) dX2_remember_18 rfl (sd_ifnull C dX2_remember_19 (sd_aload_n C (i := 2) dX2_remember_22 rfl (sd_aload_n C (i := 1) dX2_remember_23 rfl (sd_cV C ok_X3_copyFrom (ci := 3) (row := (RX3, TX3, 13)) rfl rfl ⟨by decide, by decide, wd_422, wd_3, by decide +kernel⟩ wd_794 wd_420 wd_421 dX2_remember_24 (sd_aload_n C (i := 0) dX2_remember_27 rfl (sd_gf C (ci := 2) (k := 0) (r := (RX2, TX2, 3)) rfl (by decide) rfl wd_265 dX2_remember_28 (sd_bipush C (x := nI 14) dX2_remember_31 (by decide +kernel) (sd_icmp_ge C dX2_remember_33 (tgt := 49) (by decide) (sd_aload_n C (i := 0) dX2_remember_49 rfl (sd_aload_n C (i := 0) dX2_remember_50 rfl (sd_gf C (ci := 2) (k := 1) (r := (RX2, TX2, 3)) rfl (by decide) rfl wd_267 dX2_remember_51 (sd_iconst C (x := nI 1) dX2_remember_54 (by decide +kernel) (sd_iadd C dX2_remember_55 (sd_bipush C (x := nI 14) dX2_remember_56 (by decide +kernel) (sd_irem C dX2_remember_58 (sd_pf C (ci := 2) (k := 1) (r := (RX2, TX2, 3)) rfl (by decide) rfl rfl (by decide +kernel) wd_267 dX2_remember_59 (fun _ _ _ h => h))))))))) (sd_aload_n C (i := 0) dX2_remember_36 rfl (sd_dup C dX2_remember_37 (sd_gf C (ci := 2) (k := 0) (r := (RX2, TX2, 3)) rfl (by decide) rfl wd_265 dX2_remember_38 (sd_iconst C (x := nI 1) dX2_remember_41 (by decide +kernel) (sd_iadd C dX2_remember_42 (sd_pf C (ci := 2) (k := 0) (r := (RX2, TX2, 3)) rfl (by decide) rfl rfl (by decide +kernel) wd_265 dX2_remember_43 (sd_goto C dX2_remember_46 (tgt := 62) (by decide) (fun _ _ _ h => h))))))))))))))))))))))))))))
    (sd_vr C hr dX2_remember_62)
theorem dX2_takeBack_0 : decode cX2_takeBack 0 = .ok (.aload_n 0, 1) := by decide +kernel
theorem dX2_takeBack_1 : decode cX2_takeBack 1 = .ok (.getfield 18, 3) := by decide +kernel
theorem dX2_takeBack_4 : decode cX2_takeBack 4 = .ok (.ifCond .le 40, 3) := by decide +kernel
theorem dX2_takeBack_7 : decode cX2_takeBack 7 = .ok (.aload_n 0, 1) := by decide +kernel
theorem dX2_takeBack_8 : decode cX2_takeBack 8 = .ok (.dup, 1) := by decide +kernel
theorem dX2_takeBack_9 : decode cX2_takeBack 9 = .ok (.getfield 18, 3) := by decide +kernel
theorem dX2_takeBack_12 : decode cX2_takeBack 12 = .ok (.iconst 1, 1) := by decide +kernel
theorem dX2_takeBack_13 : decode cX2_takeBack 13 = .ok (.isub, 1) := by decide +kernel
theorem dX2_takeBack_14 : decode cX2_takeBack 14 = .ok (.putfield 18, 3) := by decide +kernel
theorem dX2_takeBack_17 : decode cX2_takeBack 17 = .ok (.aload_n 0, 1) := by decide +kernel
theorem dX2_takeBack_18 : decode cX2_takeBack 18 = .ok (.getfield 11, 3) := by decide +kernel
theorem dX2_takeBack_21 : decode cX2_takeBack 21 = .ok (.aload_n 0, 1) := by decide +kernel
theorem dX2_takeBack_22 : decode cX2_takeBack 22 = .ok (.getfield 22, 3) := by decide +kernel
theorem dX2_takeBack_25 : decode cX2_takeBack 25 = .ok (.aload_n 0, 1) := by decide +kernel
theorem dX2_takeBack_26 : decode cX2_takeBack 26 = .ok (.getfield 18, 3) := by decide +kernel
theorem dX2_takeBack_29 : decode cX2_takeBack 29 = .ok (.iadd, 1) := by decide +kernel
theorem dX2_takeBack_30 : decode cX2_takeBack 30 = .ok (.bipush 14, 2) := by decide +kernel
theorem dX2_takeBack_32 : decode cX2_takeBack 32 = .ok (.irem, 1) := by decide +kernel
theorem dX2_takeBack_33 : decode cX2_takeBack 33 = .ok (.aaload, 1) := by decide +kernel
theorem dX2_takeBack_34 : decode cX2_takeBack 34 = .ok (.astore_n 2, 1) := by decide +kernel
theorem dX2_takeBack_35 : decode cX2_takeBack 35 = .ok (.aload_n 2, 1) := by decide +kernel
theorem dX2_takeBack_36 : decode cX2_takeBack 36 = .ok (.ifnull 8, 3) := by decide +kernel
theorem dX2_takeBack_39 : decode cX2_takeBack 39 = .ok (.aload_n 1, 1) := by decide +kernel
theorem dX2_takeBack_40 : decode cX2_takeBack 40 = .ok (.aload_n 2, 1) := by decide +kernel
theorem dX2_takeBack_41 : decode cX2_takeBack 41 = .ok (.invokevirtual 25, 3) := by decide +kernel
theorem dX2_takeBack_44 : decode cX2_takeBack 44 = .ok (.return_, 1) := by decide +kernel
def bX2_takeBack_0 (w : ab_W) (s_X3_copyFrom : ab_S) (M : Nat → ab_P) (Kn : Option Value → ab_H → Prop) : ab_P := ab_ald 0 (ab_gf w 2 0 (ab_if1 (fun x => x ≤ 0) (M 44) (ab_ald 0 (ab_dup (ab_gf w 2 0 (ab_ci (nI 1) (ab_b2 (fun x y => x - y) (ab_pf w 2 0 (ab_ald 0 (ab_gr w 2 1 (ab_ald 0 (ab_gf w 2 1 (ab_ald 0 (ab_gf w 2 0 (ab_b2 (fun x y => x + y) (ab_ci (nI 14) (ab_d2 (fun x y => x - x / y * y) (ab_aa w (ab_ast 2 (ab_ald 2 (ab_nn (ab_ald 1 (ab_ald 2 (ab_cV w 2 3 s_X3_copyFrom (M 44)))))))))))))))))))))))))
def bX2_takeBack_44 (w : ab_W) (s_X3_copyFrom : ab_S) (M : Nat → ab_P) (Kn : Option Value → ab_H → Prop) : ab_P := ab_vr Kn
set_option maxRecDepth 20000 in
set_option maxHeartbeats 2000000 in
theorem vc_X2_takeBack {l : Launch} (hl : l.stackTraces = false) {w : ab_W} (hI : ab_Inj w) {mc : Nat} {σ : ab_H} {As : List Value} {Kn : Option Value → ab_H → Prop} {Kx : String → ab_H → Prop} {s_X3_copyFrom : ab_S} (ok_X3_copyFrom : ab_OkN l yX3_copyFrom (Cond.code yX3_copyFrom cX3_copyFrom 2 none) 4 s_X3_copyFrom) (hlen : (ab_xl As).length ≤ 3) (h : ∀ M : Nat → ab_P, (∀ L st σ, bX2_takeBack_0 w s_X3_copyFrom M Kn L st σ → M 0 L st σ) → (∀ L st σ, bX2_takeBack_44 w s_X3_copyFrom M Kn L st σ → M 44 L st σ) → M 0 (ab_pd 3 (ab_xl As)) [] σ) : ab_Met l yX2_takeBack (Cond.code yX2_takeBack cX2_takeBack 3 none) 5 mc w σ As Kn Kx := by
  refine ab_enter (by decide) hl hI hlen (by decide) ?_
  intro p e R s m args below meth c C hno hr
  exact h _ (sd_aload_n C (i := 0) dX2_takeBack_0 rfl (sd_gf C (ci := 2) (k := 0) (r := (RX2, TX2, 3)) rfl (by decide) rfl wd_265 dX2_takeBack_1 (sd_if_le C dX2_takeBack_4 (tgt := 44) (by decide) (fun _ _ _ h => h) (sd_aload_n C (i := 0) dX2_takeBack_7 rfl (sd_dup C dX2_takeBack_8 (sd_gf C (ci := 2) (k := 0) (r := (RX2, TX2, 3)) rfl (by decide) rfl wd_265 dX2_takeBack_9 (sd_iconst C (x := nI 1) dX2_takeBack_12 (by decide +kernel) (sd_isub C dX2_takeBack_13 (sd_pf C (ci := 2) (k := 0) (r := (RX2, TX2, 3)) rfl (by decide) rfl rfl (by decide +kernel) wd_265 dX2_takeBack_14 (sd_aload_n C (i := 0) dX2_takeBack_17 rfl (sd_gr C (ci := 2) (k := 2) (r := (RX2, TX2, 3)) rfl (by decide) rfl wd_268 dX2_takeBack_18 (sd_aload_n C (i := 0) dX2_takeBack_21 rfl (sd_gf C (ci := 2) (k := 1) (r := (RX2, TX2, 3)) rfl (by decide) rfl wd_267 dX2_takeBack_22 (sd_aload_n C (i := 0) dX2_takeBack_25 rfl (sd_gf C (ci := 2) (k := 0) (r := (RX2, TX2, 3)) rfl (by decide) rfl wd_265 dX2_takeBack_26 (sd_iadd C dX2_takeBack_29 (sd_bipush C (x := nI 14) dX2_takeBack_30 (by decide +kernel) (sd_irem C dX2_takeBack_32 (sd_aa C dX2_takeBack_33 (sd_astore_n C (i := 2) dX2_takeBack_34 rfl (by decide) (sd_aload_n C (i := 2) dX2_takeBack_35 rfl (sd_ifnull C dX2_takeBack_36 (sd_aload_n C (i := 1) dX2_takeBack_39 rfl (sd_aload_n C (i := 2) dX2_takeBack_40 rfl (sd_cV C ok_X3_copyFrom (ci := 3) (row := (RX3, TX3, 13)) rfl rfl ⟨by decide, by decide, wd_422, wd_3, by decide +kernel⟩ wd_794 wd_420 wd_421 dX2_takeBack_41 (fun _ _ _ h => h))))))))))))))))))))))))))
    (sd_vr C hr dX2_takeBack_44)
