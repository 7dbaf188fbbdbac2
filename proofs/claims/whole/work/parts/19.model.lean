theorem dX10_thrown_0 : decode cX10_thrown 0 = .ok (.aload_n 0, 1) := by decide +kernel
theorem dX10_thrown_1 : decode cX10_thrown 1 = .ok (.getfield 36, 3) := by decide +kernel
theorem dX10_thrown_4 : decode cX10_thrown 4 = .ok (.ireturn, 1) := by decide +kernel
def bX10_thrown_0 (w : ab_W) (M : Nat → ab_P) (Kn : Option Value → ab_H → Prop) : ab_P := ab_ald 0 (ab_gf w 10 0 (ab_ir Kn))
set_option maxRecDepth 20000 in
set_option maxHeartbeats 2000000 in
theorem vc_X10_thrown {l : Launch} (hl : l.stackTraces = false) {w : ab_W} (hI : ab_Inj w) {mc : Nat} {σ : ab_H} {As : List Value} {Kn : Option Value → ab_H → Prop} {Kx : String → ab_H → Prop} (hlen : (ab_xl As).length ≤ 1) (h : ∀ M : Nat → ab_P, (∀ L st σ, bX10_thrown_0 w M Kn L st σ → M 0 L st σ) → M 0 (ab_pd 1 (ab_xl As)) [] σ) : ab_Met l yX10_thrown (Cond.code yX10_thrown cX10_thrown 1 (some .int)) 1 mc w σ As Kn Kx := by
  refine ab_enter (by decide) hl hI hlen (by decide) ?_
  intro p e R s m args below meth c C hno hr
  exact h _ (sd_aload_n C (i := 0) dX10_thrown_0 rfl (sd_gf C (ci := 10) (k := 0) (r := (RX10, TX10, 15)) rfl (by decide) rfl wd_988 dX10_thrown_1 (sd_ir C hr dX10_thrown_4)))
theorem dX10_refused_0 : decode cX10_refused 0 = .ok (.aload_n 0, 1) := by decide +kernel
theorem dX10_refused_1 : decode cX10_refused 1 = .ok (.iload_n 1, 1) := by decide +kernel
theorem dX10_refused_2 : decode cX10_refused 2 = .ok (.putfield 36, 3) := by decide +kernel
theorem dX10_refused_5 : decode cX10_refused 5 = .ok (.iload_n 1, 1) := by decide +kernel
theorem dX10_refused_6 : decode cX10_refused 6 = .ok (.ifCond .le 7, 3) := by decide +kernel
theorem dX10_refused_9 : decode cX10_refused 9 = .ok (.iconst 1, 1) := by decide +kernel
theorem dX10_refused_10 : decode cX10_refused 10 = .ok (.goto 4, 3) := by decide +kernel
theorem dX10_refused_13 : decode cX10_refused 13 = .ok (.iconst 0, 1) := by decide +kernel
theorem dX10_refused_14 : decode cX10_refused 14 = .ok (.ireturn, 1) := by decide +kernel
def bX10_refused_0 (w : ab_W) (M : Nat → ab_P) (Kn : Option Value → ab_H → Prop) : ab_P := ab_ald 0 (ab_ild 1 (ab_pf w 10 0 (ab_ild 1 (ab_if1 (fun x => x ≤ 0) (ab_ci (nI 0) (M 14)) (ab_ci (nI 1) (M 14))))))
def bX10_refused_14 (w : ab_W) (M : Nat → ab_P) (Kn : Option Value → ab_H → Prop) : ab_P := ab_zr Kn
set_option maxRecDepth 20000 in
set_option maxHeartbeats 2000000 in
theorem vc_X10_refused {l : Launch} (hl : l.stackTraces = false) {w : ab_W} (hI : ab_Inj w) {mc : Nat} {σ : ab_H} {As : List Value} {Kn : Option Value → ab_H → Prop} {Kx : String → ab_H → Prop} (hlen : (ab_xl As).length ≤ 2) (h : ∀ M : Nat → ab_P, (∀ L st σ, bX10_refused_0 w M Kn L st σ → M 0 L st σ) → (∀ L st σ, bX10_refused_14 w M Kn L st σ → M 14 L st σ) → M 0 (ab_pd 2 (ab_xl As)) [] σ) : ab_Met l yX10_refused (Cond.code yX10_refused cX10_refused 2 (some .boolean)) 1 mc w σ As Kn Kx := by
  refine ab_enter (by decide) hl hI hlen (by decide) ?_
  intro p e R s m args below meth c C hno hr
  exact h _ (sd_aload_n C (i := 0) dX10_refused_0 rfl (sd_iload_n C (i := 1) dX10_refused_1 rfl (sd_pf C (ci := 10) (k := 0) (r := (RX10, TX10, 15)) rfl (by decide) rfl rfl (by decide +kernel) wd_988 dX10_refused_2 (sd_iload_n C (i := 1) dX10_refused_5 rfl (sd_if_le C dX10_refused_6 (tgt := 13) (by decide) (sd_iconst C (x := nI 0) dX10_refused_13 (by decide +kernel) (fun _ _ _ h => h)) (sd_iconst C (x := nI 1) dX10_refused_9 (by decide +kernel) (sd_goto C dX10_refused_10 (tgt := 14) (by decide) (fun _ _ _ h => h))))))))
    (sd_zr C hr dX10_refused_14)
theorem dX10_in_0 : decode cX10_in 0 = .ok (.lload_n 0, 1) := by decide +kernel
theorem dX10_in_1 : decode cX10_in 1 = .ok (.lload_n 2, 1) := by decide +kernel
theorem dX10_in_2 : decode cX10_in 2 = .ok (.lcmp, 1) := by decide +kernel
theorem dX10_in_3 : decode cX10_in 3 = .ok (.ifCond .lt 14, 3) := by decide +kernel
theorem dX10_in_6 : decode cX10_in 6 = .ok (.lload_n 0, 1) := by decide +kernel
theorem dX10_in_7 : decode cX10_in 7 = .ok (.lload 4, 2) := by decide +kernel
theorem dX10_in_9 : decode cX10_in 9 = .ok (.lcmp, 1) := by decide +kernel
theorem dX10_in_10 : decode cX10_in 10 = .ok (.ifCond .gt 7, 3) := by decide +kernel
theorem dX10_in_13 : decode cX10_in 13 = .ok (.iconst 1, 1) := by decide +kernel
theorem dX10_in_14 : decode cX10_in 14 = .ok (.goto 4, 3) := by decide +kernel
theorem dX10_in_17 : decode cX10_in 17 = .ok (.iconst 0, 1) := by decide +kernel
theorem dX10_in_18 : decode cX10_in 18 = .ok (.ireturn, 1) := by decide +kernel
def bX10_in_0 (w : ab_W) (M : Nat → ab_P) (Kn : Option Value → ab_H → Prop) : ab_P := ab_lld 0 (ab_lld 2 (ab_lcmp (ab_if1 (fun x => x < 0) (M 17) (ab_lld 0 (ab_lld 4 (ab_lcmp (ab_if1 (fun x => 0 < x) (M 17) (ab_ci (nI 1) (M 18)))))))))
def bX10_in_17 (w : ab_W) (M : Nat → ab_P) (Kn : Option Value → ab_H → Prop) : ab_P := ab_ci (nI 0) (M 18)
def bX10_in_18 (w : ab_W) (M : Nat → ab_P) (Kn : Option Value → ab_H → Prop) : ab_P := ab_zr Kn
set_option maxRecDepth 20000 in
set_option maxHeartbeats 2000000 in
theorem vc_X10_in {l : Launch} (hl : l.stackTraces = false) {w : ab_W} (hI : ab_Inj w) {mc : Nat} {σ : ab_H} {As : List Value} {Kn : Option Value → ab_H → Prop} {Kx : String → ab_H → Prop} (hlen : (ab_xl As).length ≤ 6) (h : ∀ M : Nat → ab_P, (∀ L st σ, bX10_in_0 w M Kn L st σ → M 0 L st σ) → (∀ L st σ, bX10_in_17 w M Kn L st σ → M 17 L st σ) → (∀ L st σ, bX10_in_18 w M Kn L st σ → M 18 L st σ) → M 0 (ab_pd 6 (ab_xl As)) [] σ) : ab_Met l yX10_in (Cond.code yX10_in cX10_in 6 (some .boolean)) 1 mc w σ As Kn Kx := by
  refine ab_enter (by decide) hl hI hlen (by decide) ?_
  intro p e R s m args below meth c C hno hr
  exact h _ (sd_lload_n C (i := 0) dX10_in_0 rfl (sd_lload_n C (i := 2) dX10_in_1 rfl (sd_lcmp C dX10_in_2 (sd_if_lt C dX10_in_3 (tgt := 17) (by decide) (fun _ _ _ h => h) (sd_lload_n C (i := 0) dX10_in_6 rfl (sd_lload C dX10_in_7 (sd_lcmp C dX10_in_9 (sd_if_gt C dX10_in_10 (tgt := 17) (by decide) (fun _ _ _ h => h) (sd_iconst C (x := nI 1) dX10_in_13 (by decide +kernel) (sd_goto C dX10_in_14 (tgt := 18) (by decide) (fun _ _ _ h => h)))))))))))
    (sd_iconst C (x := nI 0) dX10_in_17 (by decide +kernel) (fun _ _ _ h => h))
    (sd_zr C hr dX10_in_18)
theorem dX10_copy_0 : decode cX10_copy 0 = .ok (.iconst 0, 1) := by decide +kernel
theorem dX10_copy_1 : decode cX10_copy 1 = .ok (.istore 5, 2) := by decide +kernel
theorem dX10_copy_3 : decode cX10_copy 3 = .ok (.iload 5, 2) := by decide +kernel
theorem dX10_copy_5 : decode cX10_copy 5 = .ok (.iload 4, 2) := by decide +kernel
theorem dX10_copy_7 : decode cX10_copy 7 = .ok (.if_icmp .ge 21, 3) := by decide +kernel
theorem dX10_copy_10 : decode cX10_copy 10 = .ok (.aload_n 2, 1) := by decide +kernel
theorem dX10_copy_11 : decode cX10_copy 11 = .ok (.iload_n 3, 1) := by decide +kernel
theorem dX10_copy_12 : decode cX10_copy 12 = .ok (.iload 5, 2) := by decide +kernel
theorem dX10_copy_14 : decode cX10_copy 14 = .ok (.iadd, 1) := by decide +kernel
theorem dX10_copy_15 : decode cX10_copy 15 = .ok (.aload_n 0, 1) := by decide +kernel
theorem dX10_copy_16 : decode cX10_copy 16 = .ok (.iload_n 1, 1) := by decide +kernel
theorem dX10_copy_17 : decode cX10_copy 17 = .ok (.iload 5, 2) := by decide +kernel
theorem dX10_copy_19 : decode cX10_copy 19 = .ok (.iadd, 1) := by decide +kernel
theorem dX10_copy_20 : decode cX10_copy 20 = .ok (.iaload, 1) := by decide +kernel
theorem dX10_copy_21 : decode cX10_copy 21 = .ok (.iastore, 1) := by decide +kernel
theorem dX10_copy_22 : decode cX10_copy 22 = .ok (.iinc 5 1, 3) := by decide +kernel
theorem dX10_copy_25 : decode cX10_copy 25 = .ok (.goto (-22), 3) := by decide +kernel
theorem dX10_copy_28 : decode cX10_copy 28 = .ok (.return_, 1) := by decide +kernel
def bX10_copy_0 (w : ab_W) (M : Nat → ab_P) (Kn : Option Value → ab_H → Prop) : ab_P := ab_ci (nI 0) (ab_ist 5 (M 3))
def bX10_copy_3 (w : ab_W) (M : Nat → ab_P) (Kn : Option Value → ab_H → Prop) : ab_P := ab_ild 5 (ab_ild 4 (ab_if2 (fun x y => y ≤ x) (ab_vr Kn) (ab_ald 2 (ab_ild 3 (ab_ild 5 (ab_b2 (fun x y => x + y) (ab_ald 0 (ab_ild 1 (ab_ild 5 (ab_b2 (fun x y => x + y) (ab_ia w 11 (ab_is w (ab_inc 5 (nI 1) (M 3))))))))))))))
set_option maxRecDepth 20000 in
set_option maxHeartbeats 2000000 in
theorem vc_X10_copy {l : Launch} (hl : l.stackTraces = false) {w : ab_W} (hI : ab_Inj w) {mc : Nat} {σ : ab_H} {As : List Value} {Kn : Option Value → ab_H → Prop} {Kx : String → ab_H → Prop} (hlen : (ab_xl As).length ≤ 6) (h : ∀ M : Nat → ab_P, (∀ L st σ, bX10_copy_0 w M Kn L st σ → M 0 L st σ) → (∀ L st σ, bX10_copy_3 w M Kn L st σ → M 3 L st σ) → M 0 (ab_pd 6 (ab_xl As)) [] σ) : ab_Met l yX10_copy (Cond.code yX10_copy cX10_copy 6 none) 1 mc w σ As Kn Kx := by
  refine ab_enter (by decide) hl hI hlen (by decide) ?_
  intro p e R s m args below meth c C hno hr
  exact h _ (sd_iconst C (x := nI 0) dX10_copy_0 (by decide +kernel) (sd_istore C dX10_copy_1 (by decide) (fun _ _ _ h => h)))
    (sd_iload C dX10_copy_3 (sd_iload C dX10_copy_5 (sd_icmp_ge C dX10_copy_7 (tgt := 28) (by decide) (sd_vr C hr dX10_copy_28) (sd_aload_n C (i := 2) dX10_copy_10 rfl (sd_iload_n C (i := 3) dX10_copy_11 rfl (sd_iload C dX10_copy_12 (sd_iadd C dX10_copy_14 (sd_aload_n C (i := 0) dX10_copy_15 rfl (sd_iload_n C (i := 1) dX10_copy_16 rfl (sd_iload C dX10_copy_17 (sd_iadd C dX10_copy_19 (sd_ia C dX10_copy_20 (sd_is C dX10_copy_21 (sd_iinc C (x := nI 1) dX10_copy_22 (by decide +kernel) (by decide) (sd_goto C dX10_copy_25 (tgt := 3) (by decide) (fun _ _ _ h => h))))))))))))))))
theorem dX10_tenTo_0 : decode cX10_tenTo 0 = .ok (.lconst 1, 1) := by decide +kernel
theorem dX10_tenTo_1 : decode cX10_tenTo 1 = .ok (.lstore_n 1, 1) := by decide +kernel
theorem dX10_tenTo_2 : decode cX10_tenTo 2 = .ok (.iconst 0, 1) := by decide +kernel
theorem dX10_tenTo_3 : decode cX10_tenTo 3 = .ok (.istore_n 3, 1) := by decide +kernel
theorem dX10_tenTo_4 : decode cX10_tenTo 4 = .ok (.iload_n 3, 1) := by decide +kernel
theorem dX10_tenTo_5 : decode cX10_tenTo 5 = .ok (.iload_n 0, 1) := by decide +kernel
theorem dX10_tenTo_6 : decode cX10_tenTo 6 = .ok (.if_icmp .ge 15, 3) := by decide +kernel
theorem dX10_tenTo_9 : decode cX10_tenTo 9 = .ok (.lload_n 1, 1) := by decide +kernel
theorem dX10_tenTo_10 : decode cX10_tenTo 10 = .ok (.ldc2_w 40, 3) := by decide +kernel
theorem dX10_tenTo_13 : decode cX10_tenTo 13 = .ok (.lmul, 1) := by decide +kernel
theorem dX10_tenTo_14 : decode cX10_tenTo 14 = .ok (.lstore_n 1, 1) := by decide +kernel
theorem dX10_tenTo_15 : decode cX10_tenTo 15 = .ok (.iinc 3 1, 3) := by decide +kernel
theorem dX10_tenTo_18 : decode cX10_tenTo 18 = .ok (.goto (-14), 3) := by decide +kernel
theorem dX10_tenTo_21 : decode cX10_tenTo 21 = .ok (.lload_n 1, 1) := by decide +kernel
theorem dX10_tenTo_22 : decode cX10_tenTo 22 = .ok (.lreturn, 1) := by decide +kernel
def bX10_tenTo_0 (w : ab_W) (M : Nat → ab_P) (Kn : Option Value → ab_H → Prop) : ab_P := ab_cl (lN 1) (ab_lst 1 (ab_ci (nI 0) (ab_ist 3 (M 4))))
def bX10_tenTo_4 (w : ab_W) (M : Nat → ab_P) (Kn : Option Value → ab_H → Prop) : ab_P := ab_ild 3 (ab_ild 0 (ab_if2 (fun x y => y ≤ x) (ab_lld 1 (ab_lr Kn)) (ab_lld 1 (ab_cl (10) (ab_l2 (fun x y => x * y) (ab_lst 1 (ab_inc 3 (nI 1) (M 4))))))))
set_option maxRecDepth 20000 in
set_option maxHeartbeats 2000000 in
theorem vc_X10_tenTo {l : Launch} (hl : l.stackTraces = false) {w : ab_W} (hI : ab_Inj w) {mc : Nat} {σ : ab_H} {As : List Value} {Kn : Option Value → ab_H → Prop} {Kx : String → ab_H → Prop} (hlen : (ab_xl As).length ≤ 4) (h : ∀ M : Nat → ab_P, (∀ L st σ, bX10_tenTo_0 w M Kn L st σ → M 0 L st σ) → (∀ L st σ, bX10_tenTo_4 w M Kn L st σ → M 4 L st σ) → M 0 (ab_pd 4 (ab_xl As)) [] σ) : ab_Met l yX10_tenTo (Cond.code yX10_tenTo cX10_tenTo 4 (some .long)) 1 mc w σ As Kn Kx := by
  refine ab_enter (by decide) hl hI hlen (by decide) ?_
  intro p e R s m args below meth c C hno hr
  exact h _ (sd_lconst C (x := lN 1) dX10_tenTo_0 (by decide +kernel) (sd_lstore_n C (i := 1) dX10_tenTo_1 rfl (by decide) (sd_iconst C (x := nI 0) dX10_tenTo_2 (by decide +kernel) (sd_istore_n C (i := 3) dX10_tenTo_3 rfl (by decide) (fun _ _ _ h => h)))))
    (sd_iload_n C (i := 3) dX10_tenTo_4 rfl (sd_iload_n C (i := 0) dX10_tenTo_5 rfl (sd_icmp_ge C dX10_tenTo_6 (tgt := 21) (by decide) (sd_lload_n C (i := 1) dX10_tenTo_21 rfl (sd_lr C hr dX10_tenTo_22)) (sd_lload_n C (i := 1) dX10_tenTo_9 rfl (sd_ldc2 C (x := 10) dX10_tenTo_10 wd_1348 (sd_lmul C dX10_tenTo_13 (sd_lstore_n C (i := 1) dX10_tenTo_14 rfl (by decide) (sd_iinc C (x := nI 1) dX10_tenTo_15 (by decide +kernel) (by decide) (sd_goto C dX10_tenTo_18 (tgt := 4) (by decide) (fun _ _ _ h => h))))))))))
theorem dX10_clean_0 : decode cX10_clean 0 = .ok (.iconst 0, 1) := by decide +kernel
theorem dX10_clean_1 : decode cX10_clean 1 = .ok (.istore_n 1, 1) := by decide +kernel
theorem dX10_clean_2 : decode cX10_clean 2 = .ok (.iload_n 1, 1) := by decide +kernel
theorem dX10_clean_3 : decode cX10_clean 3 = .ok (.sipush 304, 3) := by decide +kernel
theorem dX10_clean_6 : decode cX10_clean 6 = .ok (.if_icmp .ge 13, 3) := by decide +kernel
theorem dX10_clean_9 : decode cX10_clean 9 = .ok (.aload_n 0, 1) := by decide +kernel
theorem dX10_clean_10 : decode cX10_clean 10 = .ok (.iload_n 1, 1) := by decide +kernel
theorem dX10_clean_11 : decode cX10_clean 11 = .ok (.iconst 0, 1) := by decide +kernel
theorem dX10_clean_12 : decode cX10_clean 12 = .ok (.iastore, 1) := by decide +kernel
theorem dX10_clean_13 : decode cX10_clean 13 = .ok (.iinc 1 1, 3) := by decide +kernel
theorem dX10_clean_16 : decode cX10_clean 16 = .ok (.goto (-14), 3) := by decide +kernel
theorem dX10_clean_19 : decode cX10_clean 19 = .ok (.aload_n 0, 1) := by decide +kernel
theorem dX10_clean_20 : decode cX10_clean 20 = .ok (.bipush 12, 2) := by decide +kernel
theorem dX10_clean_22 : decode cX10_clean 22 = .ok (.iconst 4, 1) := by decide +kernel
theorem dX10_clean_23 : decode cX10_clean 23 = .ok (.iastore, 1) := by decide +kernel
theorem dX10_clean_24 : decode cX10_clean 24 = .ok (.aload_n 0, 1) := by decide +kernel
theorem dX10_clean_25 : decode cX10_clean 25 = .ok (.bipush 13, 2) := by decide +kernel
theorem dX10_clean_27 : decode cX10_clean 27 = .ok (.iconst 3, 1) := by decide +kernel
theorem dX10_clean_28 : decode cX10_clean 28 = .ok (.iastore, 1) := by decide +kernel
theorem dX10_clean_29 : decode cX10_clean 29 = .ok (.aload_n 0, 1) := by decide +kernel
theorem dX10_clean_30 : decode cX10_clean 30 = .ok (.bipush 14, 2) := by decide +kernel
theorem dX10_clean_32 : decode cX10_clean 32 = .ok (.iconst 2, 1) := by decide +kernel
theorem dX10_clean_33 : decode cX10_clean 33 = .ok (.iastore, 1) := by decide +kernel
theorem dX10_clean_34 : decode cX10_clean 34 = .ok (.aload_n 0, 1) := by decide +kernel
theorem dX10_clean_35 : decode cX10_clean 35 = .ok (.bipush 15, 2) := by decide +kernel
theorem dX10_clean_37 : decode cX10_clean 37 = .ok (.bipush 20, 2) := by decide +kernel
theorem dX10_clean_39 : decode cX10_clean 39 = .ok (.iastore, 1) := by decide +kernel
theorem dX10_clean_40 : decode cX10_clean 40 = .ok (.aload_n 0, 1) := by decide +kernel
theorem dX10_clean_41 : decode cX10_clean 41 = .ok (.bipush 16, 2) := by decide +kernel
theorem dX10_clean_43 : decode cX10_clean 43 = .ok (.iconst 5, 1) := by decide +kernel
theorem dX10_clean_44 : decode cX10_clean 44 = .ok (.iastore, 1) := by decide +kernel
theorem dX10_clean_45 : decode cX10_clean 45 = .ok (.return_, 1) := by decide +kernel
def bX10_clean_0 (w : ab_W) (M : Nat → ab_P) (Kn : Option Value → ab_H → Prop) : ab_P := ab_ci (nI 0) (ab_ist 1 (M 2))
def bX10_clean_2 (w : ab_W) (M : Nat → ab_P) (Kn : Option Value → ab_H → Prop) : ab_P := ab_ild 1 (ab_ci (nI 304) (ab_if2 (fun x y => y ≤ x) (ab_ald 0 (ab_ci (nI 12) (ab_ci (nI 4) (ab_is w (ab_ald 0 (ab_ci (nI 13) (ab_ci (nI 3) (ab_is w (ab_ald 0 (ab_ci (nI 14) (ab_ci (nI 2) (ab_is w (ab_ald 0 (ab_ci (nI 15) (ab_ci (nI 20) (ab_is w (ab_ald 0 (ab_ci (nI 16) (ab_ci (nI 5) (ab_is w (ab_vr Kn))))))))))))))))))))) (ab_ald 0 (ab_ild 1 (ab_ci (nI 0) (ab_is w (ab_inc 1 (nI 1) (M 2))))))))
set_option maxRecDepth 20000 in
set_option maxHeartbeats 2000000 in
theorem vc_X10_clean {l : Launch} (hl : l.stackTraces = false) {w : ab_W} (hI : ab_Inj w) {mc : Nat} {σ : ab_H} {As : List Value} {Kn : Option Value → ab_H → Prop} {Kx : String → ab_H → Prop} (hlen : (ab_xl As).length ≤ 2) (h : ∀ M : Nat → ab_P, (∀ L st σ, bX10_clean_0 w M Kn L st σ → M 0 L st σ) → (∀ L st σ, bX10_clean_2 w M Kn L st σ → M 2 L st σ) → M 0 (ab_pd 2 (ab_xl As)) [] σ) : ab_Met l yX10_clean (Cond.code yX10_clean cX10_clean 2 none) 1 mc w σ As Kn Kx := by
  refine ab_enter (by decide) hl hI hlen (by decide) ?_
  intro p e R s m args below meth c C hno hr
  exact h _ (sd_iconst C (x := nI 0) dX10_clean_0 (by decide +kernel) (sd_istore_n C (i := 1) dX10_clean_1 rfl (by decide) (fun _ _ _ h => h)))
    (sd_iload_n C (i := 1) dX10_clean_2 rfl (sd_sipush C (x := nI 304) dX10_clean_3 (by decide +kernel) (sd_icmp_ge C dX10_clean_6 (tgt := 19) (by decide) (sd_aload_n C (i := 0) dX10_clean_19 rfl (sd_bipush C (x := nI 12) dX10_clean_20 (by decide +kernel) (sd_iconst C (x := nI 4) dX10_clean_22 (by decide +kernel) (sd_is C dX10_clean_23 (sd_aload_n C (i := 0) dX10_clean_24 rfl (sd_bipush C (x := nI 13) dX10_clean_25 (by decide +kernel) (sd_iconst C (x := nI 3) dX10_clean_27 (by decide +kernel) (sd_is C dX10_clean_28 (sd_aload_n C (i := 0) dX10_clean_29 rfl (sd_bipush C (x := nI 14) dX10_clean_30 (by decide +kernel) (sd_iconst C (x := nI 2) dX10_clean_32 (by decide +kernel) (sd_is C dX10_clean_33 (sd_aload_n C (i := 0) dX10_clean_34 rfl (sd_bipush C (x := nI 15) dX10_clean_35 (by decide +kernel) (sd_bipush C (x := nI 20) dX10_clean_37 (by decide +kernel) (sd_is C dX10_clean_39 (sd_aload_n C (i := 0) dX10_clean_40 rfl (sd_bipush C (x := nI 16) dX10_clean_41 (by decide +kernel) (sd_iconst C (x := nI 5) dX10_clean_43 (by decide +kernel) (sd_is C dX10_clean_44 (sd_vr C hr dX10_clean_45))))))))))))))))))))) (sd_aload_n C (i := 0) dX10_clean_9 rfl (sd_iload_n C (i := 1) dX10_clean_10 rfl (sd_iconst C (x := nI 0) dX10_clean_11 (by decide +kernel) (sd_is C dX10_clean_12 (sd_iinc C (x := nI 1) dX10_clean_13 (by decide +kernel) (by decide) (sd_goto C dX10_clean_16 (tgt := 2) (by decide) (fun _ _ _ h => h))))))))))
theorem dX10_remember_0 : decode cX10_remember 0 = .ok (.aload_n 0, 1) := by decide +kernel
theorem dX10_remember_1 : decode cX10_remember 1 = .ok (.getfield 42, 3) := by decide +kernel
theorem dX10_remember_4 : decode cX10_remember 4 = .ok (.bipush 14, 2) := by decide +kernel
theorem dX10_remember_6 : decode cX10_remember 6 = .ok (.if_icmp .ne 31, 3) := by decide +kernel
theorem dX10_remember_9 : decode cX10_remember 9 = .ok (.aload_n 0, 1) := by decide +kernel
theorem dX10_remember_10 : decode cX10_remember 10 = .ok (.getfield 22, 3) := by decide +kernel
theorem dX10_remember_13 : decode cX10_remember 13 = .ok (.sipush 304, 3) := by decide +kernel
theorem dX10_remember_16 : decode cX10_remember 16 = .ok (.aload_n 0, 1) := by decide +kernel
theorem dX10_remember_17 : decode cX10_remember 17 = .ok (.getfield 22, 3) := by decide +kernel
theorem dX10_remember_20 : decode cX10_remember 20 = .ok (.iconst 0, 1) := by decide +kernel
theorem dX10_remember_21 : decode cX10_remember 21 = .ok (.sipush 3952, 3) := by decide +kernel
theorem dX10_remember_24 : decode cX10_remember 24 = .ok (.invokestatic 45, 3) := by decide +kernel
theorem dX10_remember_27 : decode cX10_remember 27 = .ok (.aload_n 0, 1) := by decide +kernel
theorem dX10_remember_28 : decode cX10_remember 28 = .ok (.dup, 1) := by decide +kernel
theorem dX10_remember_29 : decode cX10_remember 29 = .ok (.getfield 42, 3) := by decide +kernel
theorem dX10_remember_32 : decode cX10_remember 32 = .ok (.iconst 1, 1) := by decide +kernel
theorem dX10_remember_33 : decode cX10_remember 33 = .ok (.isub, 1) := by decide +kernel
theorem dX10_remember_34 : decode cX10_remember 34 = .ok (.putfield 42, 3) := by decide +kernel
theorem dX10_remember_37 : decode cX10_remember 37 = .ok (.aload_n 0, 1) := by decide +kernel
theorem dX10_remember_38 : decode cX10_remember 38 = .ok (.getfield 16, 3) := by decide +kernel
theorem dX10_remember_41 : decode cX10_remember 41 = .ok (.iconst 0, 1) := by decide +kernel
theorem dX10_remember_42 : decode cX10_remember 42 = .ok (.aload_n 0, 1) := by decide +kernel
theorem dX10_remember_43 : decode cX10_remember 43 = .ok (.getfield 22, 3) := by decide +kernel
theorem dX10_remember_46 : decode cX10_remember 46 = .ok (.sipush 304, 3) := by decide +kernel
theorem dX10_remember_49 : decode cX10_remember 49 = .ok (.aload_n 0, 1) := by decide +kernel
theorem dX10_remember_50 : decode cX10_remember 50 = .ok (.getfield 42, 3) := by decide +kernel
theorem dX10_remember_53 : decode cX10_remember 53 = .ok (.imul, 1) := by decide +kernel
theorem dX10_remember_54 : decode cX10_remember 54 = .ok (.sipush 304, 3) := by decide +kernel
theorem dX10_remember_57 : decode cX10_remember 57 = .ok (.invokestatic 45, 3) := by decide +kernel
theorem dX10_remember_60 : decode cX10_remember 60 = .ok (.aload_n 0, 1) := by decide +kernel
theorem dX10_remember_61 : decode cX10_remember 61 = .ok (.dup, 1) := by decide +kernel
theorem dX10_remember_62 : decode cX10_remember 62 = .ok (.getfield 42, 3) := by decide +kernel
theorem dX10_remember_65 : decode cX10_remember 65 = .ok (.iconst 1, 1) := by decide +kernel
theorem dX10_remember_66 : decode cX10_remember 66 = .ok (.iadd, 1) := by decide +kernel
theorem dX10_remember_67 : decode cX10_remember 67 = .ok (.putfield 42, 3) := by decide +kernel
theorem dX10_remember_70 : decode cX10_remember 70 = .ok (.return_, 1) := by decide +kernel
def bX10_remember_0 (w : ab_W) (s_X10_copy : ab_S) (M : Nat → ab_P) (Kn : Option Value → ab_H → Prop) : ab_P := ab_ald 0 (ab_gf w 10 10 (ab_ci (nI 14) (ab_if2 (fun x y => ¬ x = y) (M 37) (ab_ald 0 (ab_gr w 10 5 (ab_ci (nI 304) (ab_ald 0 (ab_gr w 10 5 (ab_ci (nI 0) (ab_ci (nI 3952) (ab_cN w 5 s_X10_copy (ab_ald 0 (ab_dup (ab_gf w 10 10 (ab_ci (nI 1) (ab_b2 (fun x y => x - y) (ab_pf w 10 10 (M 37))))))))))))))))))
def bX10_remember_37 (w : ab_W) (s_X10_copy : ab_S) (M : Nat → ab_P) (Kn : Option Value → ab_H → Prop) : ab_P := ab_ald 0 (ab_gr w 10 3 (ab_ci (nI 0) (ab_ald 0 (ab_gr w 10 5 (ab_ci (nI 304) (ab_ald 0 (ab_gf w 10 10 (ab_b2 (fun x y => x * y) (ab_ci (nI 304) (ab_cN w 5 s_X10_copy (ab_ald 0 (ab_dup (ab_gf w 10 10 (ab_ci (nI 1) (ab_b2 (fun x y => x + y) (ab_pf w 10 10 (ab_vr Kn)))))))))))))))))
set_option maxRecDepth 20000 in
set_option maxHeartbeats 2000000 in
theorem vc_X10_remember {l : Launch} (hl : l.stackTraces = false) {w : ab_W} (hI : ab_Inj w) {mc : Nat} {σ : ab_H} {As : List Value} {Kn : Option Value → ab_H → Prop} {Kx : String → ab_H → Prop} {s_X10_copy : ab_S} (ok_X10_copy : ab_OkN l yX10_copy (Cond.code yX10_copy cX10_copy 6 none) 1 s_X10_copy) (hlen : (ab_xl As).length ≤ 1) (h : ∀ M : Nat → ab_P, (∀ L st σ, bX10_remember_0 w s_X10_copy M Kn L st σ → M 0 L st σ) → (∀ L st σ, bX10_remember_37 w s_X10_copy M Kn L st σ → M 37 L st σ) → M 0 (ab_pd 1 (ab_xl As)) [] σ) : ab_Met l yX10_remember (Cond.code yX10_remember cX10_remember 1 none) 2 mc w σ As Kn Kx := by
  refine ab_enter (by decide) hl hI hlen (by decide) ?_
  intro p e R s m args below meth c C hno hr
  exact h _ (sd_aload_n C (i := 0) dX10_remember_0 rfl (sd_gf C (ci := 10) (k := 10) (r := (RX10, TX10, 15)) rfl (by decide) rfl wd_998 dX10_remember_1 (sd_bipush C (x := nI 14) dX10_remember_4 (by decide +kernel) (sd_icmp_ne C dX10_remember_6 (tgt := 37) (by decide) (fun _ _ _ h => h) (sd_aload_n C (i := 0) dX10_remember_9 rfl (sd_gr C (ci := 10) (k := 9) (r := (RX10, TX10, 15)) rfl (by decide) rfl wd_997 dX10_remember_10 (sd_sipush C (x := nI 304) dX10_remember_13 (by decide +kernel) (sd_aload_n C (i := 0) dX10_remember_16 rfl (sd_gr C (ci := 10) (k := 9) (r := (RX10, TX10, 15)) rfl (by decide) rfl wd_997 dX10_remember_17 (sd_iconst C (x := nI 0) dX10_remember_20 (by decide +kernel) (sd_sipush C (x := nI 3952) dX10_remember_21 (by decide +kernel) (sd_cS C ok_X10_copy ⟨by decide, by decide, wd_1145, wd_11, by decide +kernel⟩ wd_1143 wd_1144 dX10_remember_24 (sd_aload_n C (i := 0) dX10_remember_27 rfl (sd_dup C dX10_remember_28 (sd_gf C (ci := 10) (k := 10) (r := (RX10, TX10, 15)) rfl (by decide) rfl wd_998 dX10_remember_29 (sd_iconst C (x := nI 1) dX10_remember_32 (by decide +kernel) (sd_isub C dX10_remember_33 (sd_pf C (ci := 10) (k := 10) (r := (RX10, TX10, 15)) rfl (by decide) rfl rfl (by decide +kernel) wd_998 dX10_remember_34 (fun _ _ _ h => h)))))))))))))))))))
    (sd_aload_n C (i := 0) dX10_remember_37 rfl (sd_gr C (ci := 10) (k := 7) (r := (RX10, TX10, 15)) rfl (by decide) rfl wd_995 dX10_remember_38 (sd_iconst C (x := nI 0) dX10_remember_41 (by decide +kernel) (sd_aload_n C (i := 0) dX10_remember_42 rfl (sd_gr C (ci := 10) (k := 9) (r := (RX10, TX10, 15)) rfl (by decide) rfl wd_997 dX10_remember_43 (sd_sipush C (x := nI 304) dX10_remember_46 (by decide +kernel) (sd_aload_n C (i := 0) dX10_remember_49 rfl (sd_gf C (ci := 10) (k := 10) (r := (RX10, TX10, 15)) rfl (by decide) rfl wd_998 dX10_remember_50 (sd_imul C dX10_remember_53 (sd_sipush C (x := nI 304) dX10_remember_54 (by decide +kernel) (sd_cS C ok_X10_copy ⟨by decide, by decide, wd_1145, wd_11, by decide +kernel⟩ wd_1143 wd_1144 dX10_remember_57 (sd_aload_n C (i := 0) dX10_remember_60 rfl (sd_dup C dX10_remember_61 (sd_gf C (ci := 10) (k := 10) (r := (RX10, TX10, 15)) rfl (by decide) rfl wd_998 dX10_remember_62 (sd_iconst C (x := nI 1) dX10_remember_65 (by decide +kernel) (sd_iadd C dX10_remember_66 (sd_pf C (ci := 10) (k := 10) (r := (RX10, TX10, 15)) rfl (by decide) rfl rfl (by decide +kernel) wd_998 dX10_remember_67 (sd_vr C hr dX10_remember_70))))))))))))))))))
theorem dX10_tryIt_0 : decode cX10_tryIt 0 = .ok (.aload_n 0, 1) := by decide +kernel
theorem dX10_tryIt_1 : decode cX10_tryIt 1 = .ok (.getfield 16, 3) := by decide +kernel
theorem dX10_tryIt_4 : decode cX10_tryIt 4 = .ok (.iconst 0, 1) := by decide +kernel
theorem dX10_tryIt_5 : decode cX10_tryIt 5 = .ok (.aload_n 0, 1) := by decide +kernel
theorem dX10_tryIt_6 : decode cX10_tryIt 6 = .ok (.getfield 19, 3) := by decide +kernel
theorem dX10_tryIt_9 : decode cX10_tryIt 9 = .ok (.iconst 0, 1) := by decide +kernel
theorem dX10_tryIt_10 : decode cX10_tryIt 10 = .ok (.sipush 304, 3) := by decide +kernel
theorem dX10_tryIt_13 : decode cX10_tryIt 13 = .ok (.invokestatic 45, 3) := by decide +kernel
theorem dX10_tryIt_16 : decode cX10_tryIt 16 = .ok (.aload_n 0, 1) := by decide +kernel
theorem dX10_tryIt_17 : decode cX10_tryIt 17 = .ok (.iconst (-1), 1) := by decide +kernel
theorem dX10_tryIt_18 : decode cX10_tryIt 18 = .ok (.putfield 49, 3) := by decide +kernel
theorem dX10_tryIt_21 : decode cX10_tryIt 21 = .ok (.return_, 1) := by decide +kernel
def bX10_tryIt_0 (w : ab_W) (s_X10_copy : ab_S) (M : Nat → ab_P) (Kn : Option Value → ab_H → Prop) : ab_P := ab_ald 0 (ab_gr w 10 3 (ab_ci (nI 0) (ab_ald 0 (ab_gr w 10 4 (ab_ci (nI 0) (ab_ci (nI 304) (ab_cN w 5 s_X10_copy (ab_ald 0 (ab_ci (-1) (ab_pf w 10 13 (ab_vr Kn)))))))))))
set_option maxRecDepth 20000 in
set_option maxHeartbeats 2000000 in
theorem vc_X10_tryIt {l : Launch} (hl : l.stackTraces = false) {w : ab_W} (hI : ab_Inj w) {mc : Nat} {σ : ab_H} {As : List Value} {Kn : Option Value → ab_H → Prop} {Kx : String → ab_H → Prop} {s_X10_copy : ab_S} (ok_X10_copy : ab_OkN l yX10_copy (Cond.code yX10_copy cX10_copy 6 none) 1 s_X10_copy) (hlen : (ab_xl As).length ≤ 1) (h : ∀ M : Nat → ab_P, (∀ L st σ, bX10_tryIt_0 w s_X10_copy M Kn L st σ → M 0 L st σ) → M 0 (ab_pd 1 (ab_xl As)) [] σ) : ab_Met l yX10_tryIt (Cond.code yX10_tryIt cX10_tryIt 1 none) 2 mc w σ As Kn Kx := by
  refine ab_enter (by decide) hl hI hlen (by decide) ?_
  intro p e R s m args below meth c C hno hr
  exact h _ (sd_aload_n C (i := 0) dX10_tryIt_0 rfl (sd_gr C (ci := 10) (k := 7) (r := (RX10, TX10, 15)) rfl (by decide) rfl wd_995 dX10_tryIt_1 (sd_iconst C (x := nI 0) dX10_tryIt_4 (by decide +kernel) (sd_aload_n C (i := 0) dX10_tryIt_5 rfl (sd_gr C (ci := 10) (k := 8) (r := (RX10, TX10, 15)) rfl (by decide) rfl wd_996 dX10_tryIt_6 (sd_iconst C (x := nI 0) dX10_tryIt_9 (by decide +kernel) (sd_sipush C (x := nI 304) dX10_tryIt_10 (by decide +kernel) (sd_cS C ok_X10_copy ⟨by decide, by decide, wd_1145, wd_11, by decide +kernel⟩ wd_1143 wd_1144 dX10_tryIt_13 (sd_aload_n C (i := 0) dX10_tryIt_16 rfl (sd_iconst C (x := -1) dX10_tryIt_17 (by decide +kernel) (sd_pf C (ci := 10) (k := 13) (r := (RX10, TX10, 15)) rfl (by decide) rfl rfl (by decide +kernel) wd_1001 dX10_tryIt_18 (sd_vr C hr dX10_tryIt_21))))))))))))
theorem dX10_stationAt_0 : decode cX10_stationAt 0 = .ok (.bipush 21, 2) := by decide +kernel
theorem dX10_stationAt_2 : decode cX10_stationAt 2 = .ok (.bipush 11, 2) := by decide +kernel
theorem dX10_stationAt_4 : decode cX10_stationAt 4 = .ok (.iload_n 0, 1) := by decide +kernel
theorem dX10_stationAt_5 : decode cX10_stationAt 5 = .ok (.imul, 1) := by decide +kernel
theorem dX10_stationAt_6 : decode cX10_stationAt 6 = .ok (.iadd, 1) := by decide +kernel
theorem dX10_stationAt_7 : decode cX10_stationAt 7 = .ok (.iload_n 1, 1) := by decide +kernel
theorem dX10_stationAt_8 : decode cX10_stationAt 8 = .ok (.iadd, 1) := by decide +kernel
theorem dX10_stationAt_9 : decode cX10_stationAt 9 = .ok (.ireturn, 1) := by decide +kernel
def bX10_stationAt_0 (w : ab_W) (M : Nat → ab_P) (Kn : Option Value → ab_H → Prop) : ab_P := ab_ci (nI 21) (ab_ci (nI 11) (ab_ild 0 (ab_b2 (fun x y => x * y) (ab_b2 (fun x y => x + y) (ab_ild 1 (ab_b2 (fun x y => x + y) (ab_ir Kn)))))))
set_option maxRecDepth 20000 in
set_option maxHeartbeats 2000000 in
theorem vc_X10_stationAt {l : Launch} (hl : l.stackTraces = false) {w : ab_W} (hI : ab_Inj w) {mc : Nat} {σ : ab_H} {As : List Value} {Kn : Option Value → ab_H → Prop} {Kx : String → ab_H → Prop} (hlen : (ab_xl As).length ≤ 2) (h : ∀ M : Nat → ab_P, (∀ L st σ, bX10_stationAt_0 w M Kn L st σ → M 0 L st σ) → M 0 (ab_pd 2 (ab_xl As)) [] σ) : ab_Met l yX10_stationAt (Cond.code yX10_stationAt cX10_stationAt 2 (some .int)) 1 mc w σ As Kn Kx := by
  refine ab_enter (by decide) hl hI hlen (by decide) ?_
  intro p e R s m args below meth c C hno hr
  exact h _ (sd_bipush C (x := nI 21) dX10_stationAt_0 (by decide +kernel) (sd_bipush C (x := nI 11) dX10_stationAt_2 (by decide +kernel) (sd_iload_n C (i := 0) dX10_stationAt_4 rfl (sd_imul C dX10_stationAt_5 (sd_iadd C dX10_stationAt_6 (sd_iload_n C (i := 1) dX10_stationAt_7 rfl (sd_iadd C dX10_stationAt_8 (sd_ir C hr dX10_stationAt_9))))))))
theorem dX10_finderAt_0 : decode cX10_finderAt 0 = .ok (.bipush 76, 2) := by decide +kernel
theorem dX10_finderAt_2 : decode cX10_finderAt 2 = .ok (.iconst 4, 1) := by decide +kernel
theorem dX10_finderAt_3 : decode cX10_finderAt 3 = .ok (.iload_n 0, 1) := by decide +kernel
theorem dX10_finderAt_4 : decode cX10_finderAt 4 = .ok (.imul, 1) := by decide +kernel
theorem dX10_finderAt_5 : decode cX10_finderAt 5 = .ok (.iadd, 1) := by decide +kernel
theorem dX10_finderAt_6 : decode cX10_finderAt 6 = .ok (.iload_n 1, 1) := by decide +kernel
theorem dX10_finderAt_7 : decode cX10_finderAt 7 = .ok (.iadd, 1) := by decide +kernel
theorem dX10_finderAt_8 : decode cX10_finderAt 8 = .ok (.ireturn, 1) := by decide +kernel
def bX10_finderAt_0 (w : ab_W) (M : Nat → ab_P) (Kn : Option Value → ab_H → Prop) : ab_P := ab_ci (nI 76) (ab_ci (nI 4) (ab_ild 0 (ab_b2 (fun x y => x * y) (ab_b2 (fun x y => x + y) (ab_ild 1 (ab_b2 (fun x y => x + y) (ab_ir Kn)))))))
set_option maxRecDepth 20000 in
set_option maxHeartbeats 2000000 in
theorem vc_X10_finderAt {l : Launch} (hl : l.stackTraces = false) {w : ab_W} (hI : ab_Inj w) {mc : Nat} {σ : ab_H} {As : List Value} {Kn : Option Value → ab_H → Prop} {Kx : String → ab_H → Prop} (hlen : (ab_xl As).length ≤ 2) (h : ∀ M : Nat → ab_P, (∀ L st σ, bX10_finderAt_0 w M Kn L st σ → M 0 L st σ) → M 0 (ab_pd 2 (ab_xl As)) [] σ) : ab_Met l yX10_finderAt (Cond.code yX10_finderAt cX10_finderAt 2 (some .int)) 1 mc w σ As Kn Kx := by
  refine ab_enter (by decide) hl hI hlen (by decide) ?_
  intro p e R s m args below meth c C hno hr
  exact h _ (sd_bipush C (x := nI 76) dX10_finderAt_0 (by decide +kernel) (sd_iconst C (x := nI 4) dX10_finderAt_2 (by decide +kernel) (sd_iload_n C (i := 0) dX10_finderAt_3 rfl (sd_imul C dX10_finderAt_4 (sd_iadd C dX10_finderAt_5 (sd_iload_n C (i := 1) dX10_finderAt_6 rfl (sd_iadd C dX10_finderAt_7 (sd_ir C hr dX10_finderAt_8))))))))
theorem dX10_sendAt_0 : decode cX10_sendAt 0 = .ok (.bipush 100, 2) := by decide +kernel
theorem dX10_sendAt_2 : decode cX10_sendAt 2 = .ok (.iconst 4, 1) := by decide +kernel
theorem dX10_sendAt_3 : decode cX10_sendAt 3 = .ok (.iload_n 0, 1) := by decide +kernel
theorem dX10_sendAt_4 : decode cX10_sendAt 4 = .ok (.imul, 1) := by decide +kernel
theorem dX10_sendAt_5 : decode cX10_sendAt 5 = .ok (.iadd, 1) := by decide +kernel
theorem dX10_sendAt_6 : decode cX10_sendAt 6 = .ok (.iload_n 1, 1) := by decide +kernel
theorem dX10_sendAt_7 : decode cX10_sendAt 7 = .ok (.iadd, 1) := by decide +kernel
theorem dX10_sendAt_8 : decode cX10_sendAt 8 = .ok (.ireturn, 1) := by decide +kernel
def bX10_sendAt_0 (w : ab_W) (M : Nat → ab_P) (Kn : Option Value → ab_H → Prop) : ab_P := ab_ci (nI 100) (ab_ci (nI 4) (ab_ild 0 (ab_b2 (fun x y => x * y) (ab_b2 (fun x y => x + y) (ab_ild 1 (ab_b2 (fun x y => x + y) (ab_ir Kn)))))))
set_option maxRecDepth 20000 in
set_option maxHeartbeats 2000000 in
theorem vc_X10_sendAt {l : Launch} (hl : l.stackTraces = false) {w : ab_W} (hI : ab_Inj w) {mc : Nat} {σ : ab_H} {As : List Value} {Kn : Option Value → ab_H → Prop} {Kx : String → ab_H → Prop} (hlen : (ab_xl As).length ≤ 2) (h : ∀ M : Nat → ab_P, (∀ L st σ, bX10_sendAt_0 w M Kn L st σ → M 0 L st σ) → M 0 (ab_pd 2 (ab_xl As)) [] σ) : ab_Met l yX10_sendAt (Cond.code yX10_sendAt cX10_sendAt 2 (some .int)) 1 mc w σ As Kn Kx := by
  refine ab_enter (by decide) hl hI hlen (by decide) ?_
  intro p e R s m args below meth c C hno hr
  exact h _ (sd_bipush C (x := nI 100) dX10_sendAt_0 (by decide +kernel) (sd_iconst C (x := nI 4) dX10_sendAt_2 (by decide +kernel) (sd_iload_n C (i := 0) dX10_sendAt_3 rfl (sd_imul C dX10_sendAt_4 (sd_iadd C dX10_sendAt_5 (sd_iload_n C (i := 1) dX10_sendAt_6 rfl (sd_iadd C dX10_sendAt_7 (sd_ir C hr dX10_sendAt_8))))))))
theorem dX10_apart_0 : decode cX10_apart 0 = .ok (.iload_n 0, 1) := by decide +kernel
theorem dX10_apart_1 : decode cX10_apart 1 = .ok (.iload_n 1, 1) := by decide +kernel
theorem dX10_apart_2 : decode cX10_apart 2 = .ok (.if_icmp .ge 9, 3) := by decide +kernel
theorem dX10_apart_5 : decode cX10_apart 5 = .ok (.iload_n 1, 1) := by decide +kernel
theorem dX10_apart_6 : decode cX10_apart 6 = .ok (.iload_n 0, 1) := by decide +kernel
theorem dX10_apart_7 : decode cX10_apart 7 = .ok (.isub, 1) := by decide +kernel
theorem dX10_apart_8 : decode cX10_apart 8 = .ok (.goto 6, 3) := by decide +kernel
theorem dX10_apart_11 : decode cX10_apart 11 = .ok (.iload_n 0, 1) := by decide +kernel
theorem dX10_apart_12 : decode cX10_apart 12 = .ok (.iload_n 1, 1) := by decide +kernel
theorem dX10_apart_13 : decode cX10_apart 13 = .ok (.isub, 1) := by decide +kernel
theorem dX10_apart_14 : decode cX10_apart 14 = .ok (.ireturn, 1) := by decide +kernel
def bX10_apart_0 (w : ab_W) (M : Nat → ab_P) (Kn : Option Value → ab_H → Prop) : ab_P := ab_ild 0 (ab_ild 1 (ab_if2 (fun x y => y ≤ x) (ab_ild 0 (ab_ild 1 (ab_b2 (fun x y => x - y) (M 14)))) (ab_ild 1 (ab_ild 0 (ab_b2 (fun x y => x - y) (M 14))))))
def bX10_apart_14 (w : ab_W) (M : Nat → ab_P) (Kn : Option Value → ab_H → Prop) : ab_P := ab_ir Kn
set_option maxRecDepth 20000 in
set_option maxHeartbeats 2000000 in
theorem vc_X10_apart {l : Launch} (hl : l.stackTraces = false) {w : ab_W} (hI : ab_Inj w) {mc : Nat} {σ : ab_H} {As : List Value} {Kn : Option Value → ab_H → Prop} {Kx : String → ab_H → Prop} (hlen : (ab_xl As).length ≤ 2) (h : ∀ M : Nat → ab_P, (∀ L st σ, bX10_apart_0 w M Kn L st σ → M 0 L st σ) → (∀ L st σ, bX10_apart_14 w M Kn L st σ → M 14 L st σ) → M 0 (ab_pd 2 (ab_xl As)) [] σ) : ab_Met l yX10_apart (Cond.code yX10_apart cX10_apart 2 (some .int)) 1 mc w σ As Kn Kx := by
  refine ab_enter (by decide) hl hI hlen (by decide) ?_
  intro p e R s m args below meth c C hno hr
  exact h _ (sd_iload_n C (i := 0) dX10_apart_0 rfl (sd_iload_n C (i := 1) dX10_apart_1 rfl (sd_icmp_ge C dX10_apart_2 (tgt := 11) (by decide) (sd_iload_n C (i := 0) dX10_apart_11 rfl (sd_iload_n C (i := 1) dX10_apart_12 rfl (sd_isub C dX10_apart_13 (fun _ _ _ h => h)))) (sd_iload_n C (i := 1) dX10_apart_5 rfl (sd_iload_n C (i := 0) dX10_apart_6 rfl (sd_isub C dX10_apart_7 (sd_goto C dX10_apart_8 (tgt := 14) (by decide) (fun _ _ _ h => h))))))))
    (sd_ir C hr dX10_apart_14)
theorem dX10_sondes_0 : decode cX10_sondes 0 = .ok (.iconst 0, 1) := by decide +kernel
theorem dX10_sondes_1 : decode cX10_sondes 1 = .ok (.istore_n 2, 1) := by decide +kernel
theorem dX10_sondes_2 : decode cX10_sondes 2 = .ok (.iconst 0, 1) := by decide +kernel
theorem dX10_sondes_3 : decode cX10_sondes 3 = .ok (.istore_n 3, 1) := by decide +kernel
theorem dX10_sondes_4 : decode cX10_sondes 4 = .ok (.iload_n 3, 1) := by decide +kernel
theorem dX10_sondes_5 : decode cX10_sondes 5 = .ok (.iconst 5, 1) := by decide +kernel
theorem dX10_sondes_6 : decode cX10_sondes 6 = .ok (.if_icmp .ge 21, 3) := by decide +kernel
theorem dX10_sondes_9 : decode cX10_sondes 9 = .ok (.iload_n 2, 1) := by decide +kernel
theorem dX10_sondes_10 : decode cX10_sondes 10 = .ok (.aload_n 0, 1) := by decide +kernel
theorem dX10_sondes_11 : decode cX10_sondes 11 = .ok (.iload_n 1, 1) := by decide +kernel
theorem dX10_sondes_12 : decode cX10_sondes 12 = .ok (.iconst 4, 1) := by decide +kernel
theorem dX10_sondes_13 : decode cX10_sondes 13 = .ok (.iload_n 3, 1) := by decide +kernel
theorem dX10_sondes_14 : decode cX10_sondes 14 = .ok (.iadd, 1) := by decide +kernel
theorem dX10_sondes_15 : decode cX10_sondes 15 = .ok (.invokestatic 52, 3) := by decide +kernel
theorem dX10_sondes_18 : decode cX10_sondes 18 = .ok (.iaload, 1) := by decide +kernel
theorem dX10_sondes_19 : decode cX10_sondes 19 = .ok (.iadd, 1) := by decide +kernel
theorem dX10_sondes_20 : decode cX10_sondes 20 = .ok (.istore_n 2, 1) := by decide +kernel
theorem dX10_sondes_21 : decode cX10_sondes 21 = .ok (.iinc 3 1, 3) := by decide +kernel
theorem dX10_sondes_24 : decode cX10_sondes 24 = .ok (.goto (-20), 3) := by decide +kernel
theorem dX10_sondes_27 : decode cX10_sondes 27 = .ok (.iload_n 2, 1) := by decide +kernel
theorem dX10_sondes_28 : decode cX10_sondes 28 = .ok (.ireturn, 1) := by decide +kernel
def bX10_sondes_0 (w : ab_W) (s_X10_stationAt : ab_S) (M : Nat → ab_P) (Kn : Option Value → ab_H → Prop) : ab_P := ab_ci (nI 0) (ab_ist 2 (ab_ci (nI 0) (ab_ist 3 (M 4))))
def bX10_sondes_4 (w : ab_W) (s_X10_stationAt : ab_S) (M : Nat → ab_P) (Kn : Option Value → ab_H → Prop) : ab_P := ab_ild 3 (ab_ci (nI 5) (ab_if2 (fun x y => y ≤ x) (ab_ild 2 (ab_ir Kn)) (ab_ild 2 (ab_ald 0 (ab_ild 1 (ab_ci (nI 4) (ab_ild 3 (ab_b2 (fun x y => x + y) (ab_cN w 2 s_X10_stationAt (ab_ia w 11 (ab_b2 (fun x y => x + y) (ab_ist 2 (ab_inc 3 (nI 1) (M 4))))))))))))))
set_option maxRecDepth 20000 in
set_option maxHeartbeats 2000000 in
theorem vc_X10_sondes {l : Launch} (hl : l.stackTraces = false) {w : ab_W} (hI : ab_Inj w) {mc : Nat} {σ : ab_H} {As : List Value} {Kn : Option Value → ab_H → Prop} {Kx : String → ab_H → Prop} {s_X10_stationAt : ab_S} (ok_X10_stationAt : ab_OkN l yX10_stationAt (Cond.code yX10_stationAt cX10_stationAt 2 (some .int)) 1 s_X10_stationAt) (hlen : (ab_xl As).length ≤ 4) (h : ∀ M : Nat → ab_P, (∀ L st σ, bX10_sondes_0 w s_X10_stationAt M Kn L st σ → M 0 L st σ) → (∀ L st σ, bX10_sondes_4 w s_X10_stationAt M Kn L st σ → M 4 L st σ) → M 0 (ab_pd 4 (ab_xl As)) [] σ) : ab_Met l yX10_sondes (Cond.code yX10_sondes cX10_sondes 4 (some .int)) 2 mc w σ As Kn Kx := by
  refine ab_enter (by decide) hl hI hlen (by decide) ?_
  intro p e R s m args below meth c C hno hr
  exact h _ (sd_iconst C (x := nI 0) dX10_sondes_0 (by decide +kernel) (sd_istore_n C (i := 2) dX10_sondes_1 rfl (by decide) (sd_iconst C (x := nI 0) dX10_sondes_2 (by decide +kernel) (sd_istore_n C (i := 3) dX10_sondes_3 rfl (by decide) (fun _ _ _ h => h)))))
    (sd_iload_n C (i := 3) dX10_sondes_4 rfl (sd_iconst C (x := nI 5) dX10_sondes_5 (by decide +kernel) (sd_icmp_ge C dX10_sondes_6 (tgt := 27) (by decide) (sd_iload_n C (i := 2) dX10_sondes_27 rfl (sd_ir C hr dX10_sondes_28)) (sd_iload_n C (i := 2) dX10_sondes_9 rfl (sd_aload_n C (i := 0) dX10_sondes_10 rfl (sd_iload_n C (i := 1) dX10_sondes_11 rfl (sd_iconst C (x := nI 4) dX10_sondes_12 (by decide +kernel) (sd_iload_n C (i := 3) dX10_sondes_13 rfl (sd_iadd C dX10_sondes_14 (sd_cS C ok_X10_stationAt ⟨by decide, by decide, wd_1097, wd_11, by decide +kernel⟩ wd_1095 wd_1096 dX10_sondes_15 (sd_ia C dX10_sondes_18 (sd_iadd C dX10_sondes_19 (sd_istore_n C (i := 2) dX10_sondes_20 rfl (by decide) (sd_iinc C (x := nI 1) dX10_sondes_21 (by decide +kernel) (by decide) (sd_goto C dX10_sondes_24 (tgt := 4) (by decide) (fun _ _ _ h => h))))))))))))))))
theorem dX10_allSondes_0 : decode cX10_allSondes 0 = .ok (.iconst 0, 1) := by decide +kernel
theorem dX10_allSondes_1 : decode cX10_allSondes 1 = .ok (.istore_n 1, 1) := by decide +kernel
theorem dX10_allSondes_2 : decode cX10_allSondes 2 = .ok (.iconst 0, 1) := by decide +kernel
theorem dX10_allSondes_3 : decode cX10_allSondes 3 = .ok (.istore_n 2, 1) := by decide +kernel
theorem dX10_allSondes_4 : decode cX10_allSondes 4 = .ok (.iload_n 2, 1) := by decide +kernel
theorem dX10_allSondes_5 : decode cX10_allSondes 5 = .ok (.aload_n 0, 1) := by decide +kernel
theorem dX10_allSondes_6 : decode cX10_allSondes 6 = .ok (.iconst 1, 1) := by decide +kernel
theorem dX10_allSondes_7 : decode cX10_allSondes 7 = .ok (.iaload, 1) := by decide +kernel
theorem dX10_allSondes_8 : decode cX10_allSondes 8 = .ok (.if_icmp .ge 17, 3) := by decide +kernel
theorem dX10_allSondes_11 : decode cX10_allSondes 11 = .ok (.iload_n 1, 1) := by decide +kernel
theorem dX10_allSondes_12 : decode cX10_allSondes 12 = .ok (.aload_n 0, 1) := by decide +kernel
theorem dX10_allSondes_13 : decode cX10_allSondes 13 = .ok (.iload_n 2, 1) := by decide +kernel
theorem dX10_allSondes_14 : decode cX10_allSondes 14 = .ok (.invokestatic 56, 3) := by decide +kernel
theorem dX10_allSondes_17 : decode cX10_allSondes 17 = .ok (.iadd, 1) := by decide +kernel
theorem dX10_allSondes_18 : decode cX10_allSondes 18 = .ok (.istore_n 1, 1) := by decide +kernel
theorem dX10_allSondes_19 : decode cX10_allSondes 19 = .ok (.iinc 2 1, 3) := by decide +kernel
theorem dX10_allSondes_22 : decode cX10_allSondes 22 = .ok (.goto (-18), 3) := by decide +kernel
theorem dX10_allSondes_25 : decode cX10_allSondes 25 = .ok (.iload_n 1, 1) := by decide +kernel
theorem dX10_allSondes_26 : decode cX10_allSondes 26 = .ok (.ireturn, 1) := by decide +kernel
def bX10_allSondes_0 (w : ab_W) (s_X10_sondes : ab_S) (M : Nat → ab_P) (Kn : Option Value → ab_H → Prop) : ab_P := ab_ci (nI 0) (ab_ist 1 (ab_ci (nI 0) (ab_ist 2 (M 4))))
def bX10_allSondes_4 (w : ab_W) (s_X10_sondes : ab_S) (M : Nat → ab_P) (Kn : Option Value → ab_H → Prop) : ab_P := ab_ild 2 (ab_ald 0 (ab_ci (nI 1) (ab_ia w 11 (ab_if2 (fun x y => y ≤ x) (ab_ild 1 (ab_ir Kn)) (ab_ild 1 (ab_ald 0 (ab_ild 2 (ab_cN w 2 s_X10_sondes (ab_b2 (fun x y => x + y) (ab_ist 1 (ab_inc 2 (nI 1) (M 4))))))))))))
set_option maxRecDepth 20000 in
set_option maxHeartbeats 2000000 in
theorem vc_X10_allSondes {l : Launch} (hl : l.stackTraces = false) {w : ab_W} (hI : ab_Inj w) {mc : Nat} {σ : ab_H} {As : List Value} {Kn : Option Value → ab_H → Prop} {Kx : String → ab_H → Prop} {s_X10_sondes : ab_S} (ok_X10_sondes : ab_OkN l yX10_sondes (Cond.code yX10_sondes cX10_sondes 4 (some .int)) 2 s_X10_sondes) (hlen : (ab_xl As).length ≤ 3) (h : ∀ M : Nat → ab_P, (∀ L st σ, bX10_allSondes_0 w s_X10_sondes M Kn L st σ → M 0 L st σ) → (∀ L st σ, bX10_allSondes_4 w s_X10_sondes M Kn L st σ → M 4 L st σ) → M 0 (ab_pd 3 (ab_xl As)) [] σ) : ab_Met l yX10_allSondes (Cond.code yX10_allSondes cX10_allSondes 3 (some .int)) 3 mc w σ As Kn Kx := by
  refine ab_enter (by decide) hl hI hlen (by decide) ?_
  intro p e R s m args below meth c C hno hr
  exact h _ (sd_iconst C (x := nI 0) dX10_allSondes_0 (by decide +kernel) (sd_istore_n C (i := 1) dX10_allSondes_1 rfl (by decide) (sd_iconst C (x := nI 0) dX10_allSondes_2 (by decide +kernel) (sd_istore_n C (i := 2) dX10_allSondes_3 rfl (by decide) (fun _ _ _ h => h)))))
    (sd_iload_n C (i := 2) dX10_allSondes_4 rfl (sd_aload_n C (i := 0) dX10_allSondes_5 rfl (sd_iconst C (x := nI 1) dX10_allSondes_6 (by decide +kernel) (sd_ia C dX10_allSondes_7 (sd_icmp_ge C dX10_allSondes_8 (tgt := 25) (by decide) (sd_iload_n C (i := 1) dX10_allSondes_25 rfl (sd_ir C hr dX10_allSondes_26)) (sd_iload_n C (i := 1) dX10_allSondes_11 rfl (sd_aload_n C (i := 0) dX10_allSondes_12 rfl (sd_iload_n C (i := 2) dX10_allSondes_13 rfl (sd_cS C ok_X10_sondes ⟨by decide, by decide, wd_1194, wd_11, by decide +kernel⟩ wd_1192 wd_1193 dX10_allSondes_14 (sd_iadd C dX10_allSondes_17 (sd_istore_n C (i := 1) dX10_allSondes_18 rfl (by decide) (sd_iinc C (x := nI 1) dX10_allSondes_19 (by decide +kernel) (by decide) (sd_goto C dX10_allSondes_22 (tgt := 4) (by decide) (fun _ _ _ h => h))))))))))))))
theorem dX10_mostFlown_0 : decode cX10_mostFlown 0 = .ok (.iconst (-1), 1) := by decide +kernel
theorem dX10_mostFlown_1 : decode cX10_mostFlown 1 = .ok (.istore_n 2, 1) := by decide +kernel
theorem dX10_mostFlown_2 : decode cX10_mostFlown 2 = .ok (.iconst 0, 1) := by decide +kernel
theorem dX10_mostFlown_3 : decode cX10_mostFlown 3 = .ok (.istore_n 3, 1) := by decide +kernel
theorem dX10_mostFlown_4 : decode cX10_mostFlown 4 = .ok (.iload_n 3, 1) := by decide +kernel
theorem dX10_mostFlown_5 : decode cX10_mostFlown 5 = .ok (.iconst 5, 1) := by decide +kernel
theorem dX10_mostFlown_6 : decode cX10_mostFlown 6 = .ok (.if_icmp .ge 27, 3) := by decide +kernel
theorem dX10_mostFlown_9 : decode cX10_mostFlown 9 = .ok (.aload_n 0, 1) := by decide +kernel
theorem dX10_mostFlown_10 : decode cX10_mostFlown 10 = .ok (.iload_n 1, 1) := by decide +kernel
theorem dX10_mostFlown_11 : decode cX10_mostFlown 11 = .ok (.iconst 4, 1) := by decide +kernel
theorem dX10_mostFlown_12 : decode cX10_mostFlown 12 = .ok (.iload_n 3, 1) := by decide +kernel
theorem dX10_mostFlown_13 : decode cX10_mostFlown 13 = .ok (.iadd, 1) := by decide +kernel
theorem dX10_mostFlown_14 : decode cX10_mostFlown 14 = .ok (.invokestatic 52, 3) := by decide +kernel
theorem dX10_mostFlown_17 : decode cX10_mostFlown 17 = .ok (.iaload, 1) := by decide +kernel
theorem dX10_mostFlown_18 : decode cX10_mostFlown 18 = .ok (.ifCond .le 7, 3) := by decide +kernel
theorem dX10_mostFlown_21 : decode cX10_mostFlown 21 = .ok (.iload_n 3, 1) := by decide +kernel
theorem dX10_mostFlown_22 : decode cX10_mostFlown 22 = .ok (.goto 4, 3) := by decide +kernel
theorem dX10_mostFlown_25 : decode cX10_mostFlown 25 = .ok (.iload_n 2, 1) := by decide +kernel
theorem dX10_mostFlown_26 : decode cX10_mostFlown 26 = .ok (.istore_n 2, 1) := by decide +kernel
theorem dX10_mostFlown_27 : decode cX10_mostFlown 27 = .ok (.iinc 3 1, 3) := by decide +kernel
theorem dX10_mostFlown_30 : decode cX10_mostFlown 30 = .ok (.goto (-26), 3) := by decide +kernel
theorem dX10_mostFlown_33 : decode cX10_mostFlown 33 = .ok (.iload_n 2, 1) := by decide +kernel
theorem dX10_mostFlown_34 : decode cX10_mostFlown 34 = .ok (.ireturn, 1) := by decide +kernel
def bX10_mostFlown_0 (w : ab_W) (s_X10_stationAt : ab_S) (M : Nat → ab_P) (Kn : Option Value → ab_H → Prop) : ab_P := ab_ci (-1) (ab_ist 2 (ab_ci (nI 0) (ab_ist 3 (M 4))))
def bX10_mostFlown_4 (w : ab_W) (s_X10_stationAt : ab_S) (M : Nat → ab_P) (Kn : Option Value → ab_H → Prop) : ab_P := ab_ild 3 (ab_ci (nI 5) (ab_if2 (fun x y => y ≤ x) (ab_ild 2 (ab_ir Kn)) (ab_ald 0 (ab_ild 1 (ab_ci (nI 4) (ab_ild 3 (ab_b2 (fun x y => x + y) (ab_cN w 2 s_X10_stationAt (ab_ia w 11 (ab_if1 (fun x => x ≤ 0) (ab_ild 2 (M 26)) (ab_ild 3 (M 26))))))))))))
def bX10_mostFlown_26 (w : ab_W) (s_X10_stationAt : ab_S) (M : Nat → ab_P) (Kn : Option Value → ab_H → Prop) : ab_P := ab_ist 2 (ab_inc 3 (nI 1) (M 4))
set_option maxRecDepth 20000 in
set_option maxHeartbeats 2000000 in
theorem vc_X10_mostFlown {l : Launch} (hl : l.stackTraces = false) {w : ab_W} (hI : ab_Inj w) {mc : Nat} {σ : ab_H} {As : List Value} {Kn : Option Value → ab_H → Prop} {Kx : String → ab_H → Prop} {s_X10_stationAt : ab_S} (ok_X10_stationAt : ab_OkN l yX10_stationAt (Cond.code yX10_stationAt cX10_stationAt 2 (some .int)) 1 s_X10_stationAt) (hlen : (ab_xl As).length ≤ 4) (h : ∀ M : Nat → ab_P, (∀ L st σ, bX10_mostFlown_0 w s_X10_stationAt M Kn L st σ → M 0 L st σ) → (∀ L st σ, bX10_mostFlown_4 w s_X10_stationAt M Kn L st σ → M 4 L st σ) → (∀ L st σ, bX10_mostFlown_26 w s_X10_stationAt M Kn L st σ → M 26 L st σ) → M 0 (ab_pd 4 (ab_xl As)) [] σ) : ab_Met l yX10_mostFlown (Cond.code yX10_mostFlown cX10_mostFlown 4 (some .int)) 2 mc w σ As Kn Kx := by
  refine ab_enter (by decide) hl hI hlen (by decide) ?_
  intro p e R s m args below meth c C hno hr
  exact h _ (sd_iconst C (x := -1) dX10_mostFlown_0 (by decide +kernel) (sd_istore_n C (i := 2) dX10_mostFlown_1 rfl (by decide) (sd_iconst C (x := nI 0) dX10_mostFlown_2 (by decide +kernel) (sd_istore_n C (i := 3) dX10_mostFlown_3 rfl (by decide) (fun _ _ _ h => h)))))
    (sd_iload_n C (i := 3) dX10_mostFlown_4 rfl (sd_iconst C (x := nI 5) dX10_mostFlown_5 (by decide +kernel) (sd_icmp_ge C dX10_mostFlown_6 (tgt := 33) (by decide) (sd_iload_n C (i := 2) dX10_mostFlown_33 rfl (sd_ir C hr dX10_mostFlown_34)) (sd_aload_n C (i := 0) dX10_mostFlown_9 rfl (sd_iload_n C (i := 1) dX10_mostFlown_10 rfl (sd_iconst C (x := nI 4) dX10_mostFlown_11 (by decide +kernel) (sd_iload_n C (i := 3) dX10_mostFlown_12 rfl (sd_iadd C dX10_mostFlown_13 (sd_cS C ok_X10_stationAt ⟨by decide, by decide, wd_1097, wd_11, by decide +kernel⟩ wd_1095 wd_1096 dX10_mostFlown_14 (sd_ia C dX10_mostFlown_17 (sd_if_le C dX10_mostFlown_18 (tgt := 25) (by decide) (sd_iload_n C (i := 2) dX10_mostFlown_25 rfl (fun _ _ _ h => h)) (sd_iload_n C (i := 3) dX10_mostFlown_21 rfl (sd_goto C dX10_mostFlown_22 (tgt := 26) (by decide) (fun _ _ _ h => h))))))))))))))
    (sd_istore_n C (i := 2) dX10_mostFlown_26 rfl (by decide) (sd_iinc C (x := nI 1) dX10_mostFlown_27 (by decide +kernel) (by decide) (sd_goto C dX10_mostFlown_30 (tgt := 4) (by decide) (fun _ _ _ h => h))))
theorem dX10_landingOf_0 : decode cX10_landingOf 0 = .ok (.aload_n 0, 1) := by decide +kernel
theorem dX10_landingOf_1 : decode cX10_landingOf 1 = .ok (.iload_n 1, 1) := by decide +kernel
theorem dX10_landingOf_2 : decode cX10_landingOf 2 = .ok (.iconst 0, 1) := by decide +kernel
theorem dX10_landingOf_3 : decode cX10_landingOf 3 = .ok (.invokestatic 52, 3) := by decide +kernel
theorem dX10_landingOf_6 : decode cX10_landingOf 6 = .ok (.iaload, 1) := by decide +kernel
theorem dX10_landingOf_7 : decode cX10_landingOf 7 = .ok (.aload_n 0, 1) := by decide +kernel
theorem dX10_landingOf_8 : decode cX10_landingOf 8 = .ok (.bipush 17, 2) := by decide +kernel
theorem dX10_landingOf_10 : decode cX10_landingOf 10 = .ok (.iload_n 2, 1) := by decide +kernel
theorem dX10_landingOf_11 : decode cX10_landingOf 11 = .ok (.iadd, 1) := by decide +kernel
theorem dX10_landingOf_12 : decode cX10_landingOf 12 = .ok (.iaload, 1) := by decide +kernel
theorem dX10_landingOf_13 : decode cX10_landingOf 13 = .ok (.aload_n 0, 1) := by decide +kernel
theorem dX10_landingOf_14 : decode cX10_landingOf 14 = .ok (.iload_n 1, 1) := by decide +kernel
theorem dX10_landingOf_15 : decode cX10_landingOf 15 = .ok (.iconst 2, 1) := by decide +kernel
theorem dX10_landingOf_16 : decode cX10_landingOf 16 = .ok (.invokestatic 52, 3) := by decide +kernel
theorem dX10_landingOf_19 : decode cX10_landingOf 19 = .ok (.iaload, 1) := by decide +kernel
theorem dX10_landingOf_20 : decode cX10_landingOf 20 = .ok (.imul, 1) := by decide +kernel
theorem dX10_landingOf_21 : decode cX10_landingOf 21 = .ok (.iadd, 1) := by decide +kernel
theorem dX10_landingOf_22 : decode cX10_landingOf 22 = .ok (.istore_n 3, 1) := by decide +kernel
theorem dX10_landingOf_23 : decode cX10_landingOf 23 = .ok (.iload_n 3, 1) := by decide +kernel
theorem dX10_landingOf_24 : decode cX10_landingOf 24 = .ok (.i2l, 1) := by decide +kernel
theorem dX10_landingOf_25 : decode cX10_landingOf 25 = .ok (.lconst 0, 1) := by decide +kernel
theorem dX10_landingOf_26 : decode cX10_landingOf 26 = .ok (.ldc2_w 60, 3) := by decide +kernel
theorem dX10_landingOf_29 : decode cX10_landingOf 29 = .ok (.invokestatic 62, 3) := by decide +kernel
theorem dX10_landingOf_32 : decode cX10_landingOf 32 = .ok (.ifCond .eq 7, 3) := by decide +kernel
theorem dX10_landingOf_35 : decode cX10_landingOf 35 = .ok (.iload_n 3, 1) := by decide +kernel
theorem dX10_landingOf_36 : decode cX10_landingOf 36 = .ok (.goto 4, 3) := by decide +kernel
theorem dX10_landingOf_39 : decode cX10_landingOf 39 = .ok (.iconst (-1), 1) := by decide +kernel
theorem dX10_landingOf_40 : decode cX10_landingOf 40 = .ok (.ireturn, 1) := by decide +kernel
def bX10_landingOf_0 (w : ab_W) (s_X10_stationAt : ab_S) (s_X10_in : ab_S) (M : Nat → ab_P) (Kn : Option Value → ab_H → Prop) : ab_P := ab_ald 0 (ab_ild 1 (ab_ci (nI 0) (ab_cN w 2 s_X10_stationAt (ab_ia w 11 (ab_ald 0 (ab_ci (nI 17) (ab_ild 2 (ab_b2 (fun x y => x + y) (ab_ia w 11 (ab_ald 0 (ab_ild 1 (ab_ci (nI 2) (ab_cN w 2 s_X10_stationAt (ab_ia w 11 (ab_b2 (fun x y => x * y) (ab_b2 (fun x y => x + y) (ab_ist 3 (ab_ild 3 (ab_i2l (ab_cl (lN 0) (ab_cl (99) (ab_cN w 3 s_X10_in (ab_if1 (fun x => x = 0) (ab_ci (-1) (M 40)) (ab_ild 3 (M 40)))))))))))))))))))))))))
def bX10_landingOf_40 (w : ab_W) (s_X10_stationAt : ab_S) (s_X10_in : ab_S) (M : Nat → ab_P) (Kn : Option Value → ab_H → Prop) : ab_P := ab_ir Kn
set_option maxRecDepth 20000 in
set_option maxHeartbeats 2000000 in
theorem vc_X10_landingOf {l : Launch} (hl : l.stackTraces = false) {w : ab_W} (hI : ab_Inj w) {mc : Nat} {σ : ab_H} {As : List Value} {Kn : Option Value → ab_H → Prop} {Kx : String → ab_H → Prop} {s_X10_stationAt : ab_S} (ok_X10_stationAt : ab_OkN l yX10_stationAt (Cond.code yX10_stationAt cX10_stationAt 2 (some .int)) 1 s_X10_stationAt) {s_X10_in : ab_S} (ok_X10_in : ab_OkN l yX10_in (Cond.code yX10_in cX10_in 6 (some .boolean)) 1 s_X10_in) (hlen : (ab_xl As).length ≤ 4) (h : ∀ M : Nat → ab_P, (∀ L st σ, bX10_landingOf_0 w s_X10_stationAt s_X10_in M Kn L st σ → M 0 L st σ) → (∀ L st σ, bX10_landingOf_40 w s_X10_stationAt s_X10_in M Kn L st σ → M 40 L st σ) → M 0 (ab_pd 4 (ab_xl As)) [] σ) : ab_Met l yX10_landingOf (Cond.code yX10_landingOf cX10_landingOf 4 (some .int)) 2 mc w σ As Kn Kx := by
  refine ab_enter (by decide) hl hI hlen (by decide) ?_
  intro p e R s m args below meth c C hno hr
  exact h _ (sd_aload_n C (i := 0) dX10_landingOf_0 rfl (sd_iload_n C (i := 1) dX10_landingOf_1 rfl (sd_iconst C (x := nI 0) dX10_landingOf_2 (by decide +kernel) (sd_cS C ok_X10_stationAt ⟨by decide, by decide, wd_1097, wd_11, by decide +kernel⟩ wd_1095 wd_1096 dX10_landingOf_3 (sd_ia C dX10_landingOf_6 (sd_aload_n C (i := 0) dX10_landingOf_7 rfl (sd_bipush C (x := nI 17) dX10_landingOf_8 (by decide +kernel) (sd_iload_n C (i := 2) dX10_landingOf_10 rfl (sd_iadd C dX10_landingOf_11 (sd_ia C dX10_landingOf_12 (sd_aload_n C (i := 0) dX10_landingOf_13 rfl (sd_iload_n C (i := 1) dX10_landingOf_14 rfl (sd_iconst C (x := nI 2) dX10_landingOf_15 (by decide +kernel) (sd_cS C ok_X10_stationAt ⟨by decide, by decide, wd_1097, wd_11, by decide +kernel⟩ wd_1095 wd_1096 dX10_landingOf_16 (sd_ia C dX10_landingOf_19 (sd_imul C dX10_landingOf_20 (sd_iadd C dX10_landingOf_21 (sd_istore_n C (i := 3) dX10_landingOf_22 rfl (by decide) (sd_iload_n C (i := 3) dX10_landingOf_23 rfl (sd_i2l C dX10_landingOf_24 (sd_lconst C (x := lN 0) dX10_landingOf_25 (by decide +kernel) (sd_ldc2 C (x := 99) dX10_landingOf_26 wd_1164 (sd_cS C ok_X10_in ⟨by decide, by decide, wd_1046, wd_11, by decide +kernel⟩ wd_1044 wd_1045 dX10_landingOf_29 (sd_if_eq C dX10_landingOf_32 (tgt := 39) (by decide) (sd_iconst C (x := -1) dX10_landingOf_39 (by decide +kernel) (fun _ _ _ h => h)) (sd_iload_n C (i := 3) dX10_landingOf_35 rfl (sd_goto C dX10_landingOf_36 (tgt := 40) (by decide) (fun _ _ _ h => h)))))))))))))))))))))))))))
    (sd_ir C hr dX10_landingOf_40)
theorem dX10_finderOf_0 : decode cX10_finderOf 0 = .ok (.iconst (-1), 1) := by decide +kernel
theorem dX10_finderOf_1 : decode cX10_finderOf 1 = .ok (.istore_n 2, 1) := by decide +kernel
theorem dX10_finderOf_2 : decode cX10_finderOf 2 = .ok (.iconst 0, 1) := by decide +kernel
theorem dX10_finderOf_3 : decode cX10_finderOf 3 = .ok (.istore_n 3, 1) := by decide +kernel
theorem dX10_finderOf_4 : decode cX10_finderOf 4 = .ok (.iload_n 3, 1) := by decide +kernel
theorem dX10_finderOf_5 : decode cX10_finderOf 5 = .ok (.aload_n 0, 1) := by decide +kernel
theorem dX10_finderOf_6 : decode cX10_finderOf 6 = .ok (.iconst 2, 1) := by decide +kernel
theorem dX10_finderOf_7 : decode cX10_finderOf 7 = .ok (.iaload, 1) := by decide +kernel
theorem dX10_finderOf_8 : decode cX10_finderOf 8 = .ok (.if_icmp .ge 73, 3) := by decide +kernel
theorem dX10_finderOf_11 : decode cX10_finderOf 11 = .ok (.aload_n 0, 1) := by decide +kernel
theorem dX10_finderOf_12 : decode cX10_finderOf 12 = .ok (.iload_n 3, 1) := by decide +kernel
theorem dX10_finderOf_13 : decode cX10_finderOf 13 = .ok (.iconst 0, 1) := by decide +kernel
theorem dX10_finderOf_14 : decode cX10_finderOf 14 = .ok (.invokestatic 66, 3) := by decide +kernel
theorem dX10_finderOf_17 : decode cX10_finderOf 17 = .ok (.iaload, 1) := by decide +kernel
theorem dX10_finderOf_18 : decode cX10_finderOf 18 = .ok (.iload_n 1, 1) := by decide +kernel
theorem dX10_finderOf_19 : decode cX10_finderOf 19 = .ok (.invokestatic 69, 3) := by decide +kernel
theorem dX10_finderOf_22 : decode cX10_finderOf 22 = .ok (.istore 4, 2) := by decide +kernel
theorem dX10_finderOf_24 : decode cX10_finderOf 24 = .ok (.iload 4, 2) := by decide +kernel
theorem dX10_finderOf_26 : decode cX10_finderOf 26 = .ok (.aload_n 0, 1) := by decide +kernel
theorem dX10_finderOf_27 : decode cX10_finderOf 27 = .ok (.iload_n 3, 1) := by decide +kernel
theorem dX10_finderOf_28 : decode cX10_finderOf 28 = .ok (.iconst 1, 1) := by decide +kernel
theorem dX10_finderOf_29 : decode cX10_finderOf 29 = .ok (.invokestatic 66, 3) := by decide +kernel
theorem dX10_finderOf_32 : decode cX10_finderOf 32 = .ok (.iaload, 1) := by decide +kernel
theorem dX10_finderOf_33 : decode cX10_finderOf 33 = .ok (.if_icmp .gt 7, 3) := by decide +kernel
theorem dX10_finderOf_36 : decode cX10_finderOf 36 = .ok (.iconst 1, 1) := by decide +kernel
theorem dX10_finderOf_37 : decode cX10_finderOf 37 = .ok (.goto 4, 3) := by decide +kernel
theorem dX10_finderOf_40 : decode cX10_finderOf 40 = .ok (.iconst 0, 1) := by decide +kernel
theorem dX10_finderOf_41 : decode cX10_finderOf 41 = .ok (.istore 5, 2) := by decide +kernel
theorem dX10_finderOf_43 : decode cX10_finderOf 43 = .ok (.iload 5, 2) := by decide +kernel
theorem dX10_finderOf_45 : decode cX10_finderOf 45 = .ok (.ifCond .eq 28, 3) := by decide +kernel
theorem dX10_finderOf_48 : decode cX10_finderOf 48 = .ok (.iload_n 2, 1) := by decide +kernel
theorem dX10_finderOf_49 : decode cX10_finderOf 49 = .ok (.iconst (-1), 1) := by decide +kernel
theorem dX10_finderOf_50 : decode cX10_finderOf 50 = .ok (.if_icmp .eq 19, 3) := by decide +kernel
theorem dX10_finderOf_53 : decode cX10_finderOf 53 = .ok (.iload 4, 2) := by decide +kernel
theorem dX10_finderOf_55 : decode cX10_finderOf 55 = .ok (.aload_n 0, 1) := by decide +kernel
theorem dX10_finderOf_56 : decode cX10_finderOf 56 = .ok (.iload_n 2, 1) := by decide +kernel
theorem dX10_finderOf_57 : decode cX10_finderOf 57 = .ok (.iconst 0, 1) := by decide +kernel
theorem dX10_finderOf_58 : decode cX10_finderOf 58 = .ok (.invokestatic 66, 3) := by decide +kernel
theorem dX10_finderOf_61 : decode cX10_finderOf 61 = .ok (.iaload, 1) := by decide +kernel
theorem dX10_finderOf_62 : decode cX10_finderOf 62 = .ok (.iload_n 1, 1) := by decide +kernel
theorem dX10_finderOf_63 : decode cX10_finderOf 63 = .ok (.invokestatic 69, 3) := by decide +kernel
theorem dX10_finderOf_66 : decode cX10_finderOf 66 = .ok (.if_icmp .ge 7, 3) := by decide +kernel
theorem dX10_finderOf_69 : decode cX10_finderOf 69 = .ok (.iload_n 3, 1) := by decide +kernel
theorem dX10_finderOf_70 : decode cX10_finderOf 70 = .ok (.goto 4, 3) := by decide +kernel
theorem dX10_finderOf_73 : decode cX10_finderOf 73 = .ok (.iload_n 2, 1) := by decide +kernel
theorem dX10_finderOf_74 : decode cX10_finderOf 74 = .ok (.istore_n 2, 1) := by decide +kernel
theorem dX10_finderOf_75 : decode cX10_finderOf 75 = .ok (.iinc 3 1, 3) := by decide +kernel
theorem dX10_finderOf_78 : decode cX10_finderOf 78 = .ok (.goto (-74), 3) := by decide +kernel
theorem dX10_finderOf_81 : decode cX10_finderOf 81 = .ok (.iload_n 2, 1) := by decide +kernel
theorem dX10_finderOf_82 : decode cX10_finderOf 82 = .ok (.ireturn, 1) := by decide +kernel
def bX10_finderOf_0 (w : ab_W) (s_X10_finderAt : ab_S) (s_X10_apart : ab_S) (M : Nat → ab_P) (Kn : Option Value → ab_H → Prop) : ab_P := ab_ci (-1) (ab_ist 2 (ab_ci (nI 0) (ab_ist 3 (M 4))))
def bX10_finderOf_4 (w : ab_W) (s_X10_finderAt : ab_S) (s_X10_apart : ab_S) (M : Nat → ab_P) (Kn : Option Value → ab_H → Prop) : ab_P := ab_ild 3 (ab_ald 0 (ab_ci (nI 2) (ab_ia w 11 (ab_if2 (fun x y => y ≤ x) (ab_ild 2 (ab_ir Kn)) (ab_ald 0 (ab_ild 3 (ab_ci (nI 0) (ab_cN w 2 s_X10_finderAt (ab_ia w 11 (ab_ild 1 (ab_cN w 2 s_X10_apart (ab_ist 4 (ab_ild 4 (ab_ald 0 (ab_ild 3 (ab_ci (nI 1) (ab_cN w 2 s_X10_finderAt (ab_ia w 11 (ab_if2 (fun x y => y < x) (ab_ci (nI 0) (M 41)) (ab_ci (nI 1) (M 41)))))))))))))))))))))
def bX10_finderOf_41 (w : ab_W) (s_X10_finderAt : ab_S) (s_X10_apart : ab_S) (M : Nat → ab_P) (Kn : Option Value → ab_H → Prop) : ab_P := ab_ist 5 (ab_ild 5 (ab_if1 (fun x => x = 0) (M 73) (ab_ild 2 (ab_ci (-1) (ab_if2 (fun x y => x = y) (M 69) (ab_ild 4 (ab_ald 0 (ab_ild 2 (ab_ci (nI 0) (ab_cN w 2 s_X10_finderAt (ab_ia w 11 (ab_ild 1 (ab_cN w 2 s_X10_apart (ab_if2 (fun x y => y ≤ x) (M 73) (M 69)))))))))))))))
def bX10_finderOf_69 (w : ab_W) (s_X10_finderAt : ab_S) (s_X10_apart : ab_S) (M : Nat → ab_P) (Kn : Option Value → ab_H → Prop) : ab_P := ab_ild 3 (M 74)
def bX10_finderOf_73 (w : ab_W) (s_X10_finderAt : ab_S) (s_X10_apart : ab_S) (M : Nat → ab_P) (Kn : Option Value → ab_H → Prop) : ab_P := ab_ild 2 (M 74)
def bX10_finderOf_74 (w : ab_W) (s_X10_finderAt : ab_S) (s_X10_apart : ab_S) (M : Nat → ab_P) (Kn : Option Value → ab_H → Prop) : ab_P := ab_ist 2 (ab_inc 3 (nI 1) (M 4))
set_option maxRecDepth 20000 in
set_option maxHeartbeats 2000000 in
theorem vc_X10_finderOf {l : Launch} (hl : l.stackTraces = false) {w : ab_W} (hI : ab_Inj w) {mc : Nat} {σ : ab_H} {As : List Value} {Kn : Option Value → ab_H → Prop} {Kx : String → ab_H → Prop} {s_X10_finderAt : ab_S} (ok_X10_finderAt : ab_OkN l yX10_finderAt (Cond.code yX10_finderAt cX10_finderAt 2 (some .int)) 1 s_X10_finderAt) {s_X10_apart : ab_S} (ok_X10_apart : ab_OkN l yX10_apart (Cond.code yX10_apart cX10_apart 2 (some .int)) 1 s_X10_apart) (hlen : (ab_xl As).length ≤ 6) (h : ∀ M : Nat → ab_P, (∀ L st σ, bX10_finderOf_0 w s_X10_finderAt s_X10_apart M Kn L st σ → M 0 L st σ) → (∀ L st σ, bX10_finderOf_4 w s_X10_finderAt s_X10_apart M Kn L st σ → M 4 L st σ) → (∀ L st σ, bX10_finderOf_41 w s_X10_finderAt s_X10_apart M Kn L st σ → M 41 L st σ) → (∀ L st σ, bX10_finderOf_69 w s_X10_finderAt s_X10_apart M Kn L st σ → M 69 L st σ) → (∀ L st σ, bX10_finderOf_73 w s_X10_finderAt s_X10_apart M Kn L st σ → M 73 L st σ) → (∀ L st σ, bX10_finderOf_74 w s_X10_finderAt s_X10_apart M Kn L st σ → M 74 L st σ) → M 0 (ab_pd 6 (ab_xl As)) [] σ) : ab_Met l yX10_finderOf (Cond.code yX10_finderOf cX10_finderOf 6 (some .int)) 2 mc w σ As Kn Kx := by
  refine ab_enter (by decide) hl hI hlen (by decide) ?_
  intro p e R s m args below meth c C hno hr
  exact h _ (sd_iconst C (x := -1) dX10_finderOf_0 (by decide +kernel) (sd_istore_n C (i := 2) dX10_finderOf_1 rfl (by decide) (sd_iconst C (x := nI 0) dX10_finderOf_2 (by decide +kernel) (sd_istore_n C (i := 3) dX10_finderOf_3 rfl (by decide) (fun _ _ _ h => h)))))
    (sd_iload_n C (i := 3) dX10_finderOf_4 rfl (sd_aload_n C (i := 0) dX10_finderOf_5 rfl (sd_iconst C (x := nI 2) dX10_finderOf_6 (by decide +kernel) (sd_ia C dX10_finderOf_7 (sd_icmp_ge C dX10_finderOf_8 (tgt := 81) (by decide) (sd_iload_n C (i := 2) dX10_finderOf_81 rfl (sd_ir C hr dX10_finderOf_82)) (sd_aload_n C (i := 0) dX10_finderOf_11 rfl (sd_iload_n C (i := 3) dX10_finderOf_12 rfl (sd_iconst C (x := nI 0) dX10_finderOf_13 (by decide +kernel) (sd_cS C ok_X10_finderAt ⟨by decide, by decide, wd_1107, wd_11, by decide +kernel⟩ wd_1105 wd_1106 dX10_finderOf_14 (sd_ia C dX10_finderOf_17 (sd_iload_n C (i := 1) dX10_finderOf_18 rfl (sd_cS C ok_X10_apart ⟨by decide, by decide, wd_1170, wd_11, by decide +kernel⟩ wd_1168 wd_1169 dX10_finderOf_19 (sd_istore C dX10_finderOf_22 (by decide) (sd_iload C dX10_finderOf_24 (sd_aload_n C (i := 0) dX10_finderOf_26 rfl (sd_iload_n C (i := 3) dX10_finderOf_27 rfl (sd_iconst C (x := nI 1) dX10_finderOf_28 (by decide +kernel) (sd_cS C ok_X10_finderAt ⟨by decide, by decide, wd_1107, wd_11, by decide +kernel⟩ wd_1105 wd_1106 dX10_finderOf_29 (sd_ia C dX10_finderOf_32 (sd_icmp_gt C dX10_finderOf_33 (tgt := 40) (by decide) (sd_iconst C (x := nI 0) dX10_finderOf_40 (by decide +kernel) (fun _ _ _ h => h)) (sd_iconst C (x := nI 1) dX10_finderOf_36 (by decide +kernel) (sd_goto C dX10_finderOf_37 (tgt := 41) (by decide) (fun _ _ _ h => h)))))))))))))))))))))))
    (sd_istore C dX10_finderOf_41 (by decide) (sd_iload C dX10_finderOf_43 (sd_if_eq C dX10_finderOf_45 (tgt := 73) (by decide) (fun _ _ _ h => h) (sd_iload_n C (i := 2) dX10_finderOf_48 rfl (sd_iconst C (x := -1) dX10_finderOf_49 (by decide +kernel) (sd_icmp_eq C dX10_finderOf_50 (tgt := 69) (by decide) (fun _ _ _ h => h) (sd_iload C dX10_finderOf_53 (sd_aload_n C (i := 0) dX10_finderOf_55 rfl (sd_iload_n C (i := 2) dX10_finderOf_56 rfl (sd_iconst C (x := nI 0) dX10_finderOf_57 (by decide +kernel) (sd_cS C ok_X10_finderAt ⟨by decide, by decide, wd_1107, wd_11, by decide +kernel⟩ wd_1105 wd_1106 dX10_finderOf_58 (sd_ia C dX10_finderOf_61 (sd_iload_n C (i := 1) dX10_finderOf_62 rfl (sd_cS C ok_X10_apart ⟨by decide, by decide, wd_1170, wd_11, by decide +kernel⟩ wd_1168 wd_1169 dX10_finderOf_63 (sd_icmp_ge C dX10_finderOf_66 (tgt := 73) (by decide) (fun _ _ _ h => h) (fun _ _ _ h => h))))))))))))))))
    (sd_iload_n C (i := 3) dX10_finderOf_69 rfl (sd_goto C dX10_finderOf_70 (tgt := 74) (by decide) (fun _ _ _ h => h)))
    (sd_iload_n C (i := 2) dX10_finderOf_73 rfl (fun _ _ _ h => h))
    (sd_istore_n C (i := 2) dX10_finderOf_74 rfl (by decide) (sd_iinc C (x := nI 1) dX10_finderOf_75 (by decide +kernel) (by decide) (sd_goto C dX10_finderOf_78 (tgt := 4) (by decide) (fun _ _ _ h => h))))
theorem dX10_stationOf_0 : decode cX10_stationOf 0 = .ok (.iconst (-1), 1) := by decide +kernel
theorem dX10_stationOf_1 : decode cX10_stationOf 1 = .ok (.istore_n 2, 1) := by decide +kernel
theorem dX10_stationOf_2 : decode cX10_stationOf 2 = .ok (.aload_n 0, 1) := by decide +kernel
theorem dX10_stationOf_3 : decode cX10_stationOf 3 = .ok (.iload_n 1, 1) := by decide +kernel
theorem dX10_stationOf_4 : decode cX10_stationOf 4 = .ok (.iconst 0, 1) := by decide +kernel
theorem dX10_stationOf_5 : decode cX10_stationOf 5 = .ok (.invokestatic 66, 3) := by decide +kernel
theorem dX10_stationOf_8 : decode cX10_stationOf 8 = .ok (.iaload, 1) := by decide +kernel
theorem dX10_stationOf_9 : decode cX10_stationOf 9 = .ok (.istore_n 3, 1) := by decide +kernel
theorem dX10_stationOf_10 : decode cX10_stationOf 10 = .ok (.iconst 0, 1) := by decide +kernel
theorem dX10_stationOf_11 : decode cX10_stationOf 11 = .ok (.istore 4, 2) := by decide +kernel
theorem dX10_stationOf_13 : decode cX10_stationOf 13 = .ok (.iload 4, 2) := by decide +kernel
theorem dX10_stationOf_15 : decode cX10_stationOf 15 = .ok (.aload_n 0, 1) := by decide +kernel
theorem dX10_stationOf_16 : decode cX10_stationOf 16 = .ok (.iconst 1, 1) := by decide +kernel
theorem dX10_stationOf_17 : decode cX10_stationOf 17 = .ok (.iaload, 1) := by decide +kernel
theorem dX10_stationOf_18 : decode cX10_stationOf 18 = .ok (.if_icmp .ge 47, 3) := by decide +kernel
theorem dX10_stationOf_21 : decode cX10_stationOf 21 = .ok (.iload_n 2, 1) := by decide +kernel
theorem dX10_stationOf_22 : decode cX10_stationOf 22 = .ok (.iconst (-1), 1) := by decide +kernel
theorem dX10_stationOf_23 : decode cX10_stationOf 23 = .ok (.if_icmp .eq 29, 3) := by decide +kernel
theorem dX10_stationOf_26 : decode cX10_stationOf 26 = .ok (.aload_n 0, 1) := by decide +kernel
theorem dX10_stationOf_27 : decode cX10_stationOf 27 = .ok (.iload 4, 2) := by decide +kernel
theorem dX10_stationOf_29 : decode cX10_stationOf 29 = .ok (.iconst 0, 1) := by decide +kernel
theorem dX10_stationOf_30 : decode cX10_stationOf 30 = .ok (.invokestatic 52, 3) := by decide +kernel
theorem dX10_stationOf_33 : decode cX10_stationOf 33 = .ok (.iaload, 1) := by decide +kernel
theorem dX10_stationOf_34 : decode cX10_stationOf 34 = .ok (.iload_n 3, 1) := by decide +kernel
theorem dX10_stationOf_35 : decode cX10_stationOf 35 = .ok (.invokestatic 69, 3) := by decide +kernel
theorem dX10_stationOf_38 : decode cX10_stationOf 38 = .ok (.aload_n 0, 1) := by decide +kernel
theorem dX10_stationOf_39 : decode cX10_stationOf 39 = .ok (.iload_n 2, 1) := by decide +kernel
theorem dX10_stationOf_40 : decode cX10_stationOf 40 = .ok (.iconst 0, 1) := by decide +kernel
theorem dX10_stationOf_41 : decode cX10_stationOf 41 = .ok (.invokestatic 52, 3) := by decide +kernel
theorem dX10_stationOf_44 : decode cX10_stationOf 44 = .ok (.iaload, 1) := by decide +kernel
theorem dX10_stationOf_45 : decode cX10_stationOf 45 = .ok (.iload_n 3, 1) := by decide +kernel
theorem dX10_stationOf_46 : decode cX10_stationOf 46 = .ok (.invokestatic 69, 3) := by decide +kernel
theorem dX10_stationOf_49 : decode cX10_stationOf 49 = .ok (.if_icmp .ge 8, 3) := by decide +kernel
theorem dX10_stationOf_52 : decode cX10_stationOf 52 = .ok (.iload 4, 2) := by decide +kernel
theorem dX10_stationOf_54 : decode cX10_stationOf 54 = .ok (.goto 4, 3) := by decide +kernel
theorem dX10_stationOf_57 : decode cX10_stationOf 57 = .ok (.iload_n 2, 1) := by decide +kernel
theorem dX10_stationOf_58 : decode cX10_stationOf 58 = .ok (.istore_n 2, 1) := by decide +kernel
theorem dX10_stationOf_59 : decode cX10_stationOf 59 = .ok (.iinc 4 1, 3) := by decide +kernel
theorem dX10_stationOf_62 : decode cX10_stationOf 62 = .ok (.goto (-49), 3) := by decide +kernel
theorem dX10_stationOf_65 : decode cX10_stationOf 65 = .ok (.iload_n 2, 1) := by decide +kernel
theorem dX10_stationOf_66 : decode cX10_stationOf 66 = .ok (.ireturn, 1) := by decide +kernel
def bX10_stationOf_0 (w : ab_W) (s_X10_finderAt : ab_S) (s_X10_stationAt : ab_S) (s_X10_apart : ab_S) (M : Nat → ab_P) (Kn : Option Value → ab_H → Prop) : ab_P := ab_ci (-1) (ab_ist 2 (ab_ald 0 (ab_ild 1 (ab_ci (nI 0) (ab_cN w 2 s_X10_finderAt (ab_ia w 11 (ab_ist 3 (ab_ci (nI 0) (ab_ist 4 (M 13))))))))))
def bX10_stationOf_13 (w : ab_W) (s_X10_finderAt : ab_S) (s_X10_stationAt : ab_S) (s_X10_apart : ab_S) (M : Nat → ab_P) (Kn : Option Value → ab_H → Prop) : ab_P := ab_ild 4 (ab_ald 0 (ab_ci (nI 1) (ab_ia w 11 (ab_if2 (fun x y => y ≤ x) (ab_ild 2 (ab_ir Kn)) (ab_ild 2 (ab_ci (-1) (ab_if2 (fun x y => x = y) (M 52) (ab_ald 0 (ab_ild 4 (ab_ci (nI 0) (ab_cN w 2 s_X10_stationAt (ab_ia w 11 (ab_ild 3 (ab_cN w 2 s_X10_apart (ab_ald 0 (ab_ild 2 (ab_ci (nI 0) (ab_cN w 2 s_X10_stationAt (ab_ia w 11 (ab_ild 3 (ab_cN w 2 s_X10_apart (ab_if2 (fun x y => y ≤ x) (ab_ild 2 (M 58)) (M 52)))))))))))))))))))))))
def bX10_stationOf_52 (w : ab_W) (s_X10_finderAt : ab_S) (s_X10_stationAt : ab_S) (s_X10_apart : ab_S) (M : Nat → ab_P) (Kn : Option Value → ab_H → Prop) : ab_P := ab_ild 4 (M 58)
def bX10_stationOf_58 (w : ab_W) (s_X10_finderAt : ab_S) (s_X10_stationAt : ab_S) (s_X10_apart : ab_S) (M : Nat → ab_P) (Kn : Option Value → ab_H → Prop) : ab_P := ab_ist 2 (ab_inc 4 (nI 1) (M 13))
set_option maxRecDepth 20000 in
set_option maxHeartbeats 2000000 in
theorem vc_X10_stationOf {l : Launch} (hl : l.stackTraces = false) {w : ab_W} (hI : ab_Inj w) {mc : Nat} {σ : ab_H} {As : List Value} {Kn : Option Value → ab_H → Prop} {Kx : String → ab_H → Prop} {s_X10_finderAt : ab_S} (ok_X10_finderAt : ab_OkN l yX10_finderAt (Cond.code yX10_finderAt cX10_finderAt 2 (some .int)) 1 s_X10_finderAt) {s_X10_stationAt : ab_S} (ok_X10_stationAt : ab_OkN l yX10_stationAt (Cond.code yX10_stationAt cX10_stationAt 2 (some .int)) 1 s_X10_stationAt) {s_X10_apart : ab_S} (ok_X10_apart : ab_OkN l yX10_apart (Cond.code yX10_apart cX10_apart 2 (some .int)) 1 s_X10_apart) (hlen : (ab_xl As).length ≤ 5) (h : ∀ M : Nat → ab_P, (∀ L st σ, bX10_stationOf_0 w s_X10_finderAt s_X10_stationAt s_X10_apart M Kn L st σ → M 0 L st σ) → (∀ L st σ, bX10_stationOf_13 w s_X10_finderAt s_X10_stationAt s_X10_apart M Kn L st σ → M 13 L st σ) → (∀ L st σ, bX10_stationOf_52 w s_X10_finderAt s_X10_stationAt s_X10_apart M Kn L st σ → M 52 L st σ) → (∀ L st σ, bX10_stationOf_58 w s_X10_finderAt s_X10_stationAt s_X10_apart M Kn L st σ → M 58 L st σ) → M 0 (ab_pd 5 (ab_xl As)) [] σ) : ab_Met l yX10_stationOf (Cond.code yX10_stationOf cX10_stationOf 5 (some .int)) 2 mc w σ As Kn Kx := by
  refine ab_enter (by decide) hl hI hlen (by decide) ?_
  intro p e R s m args below meth c C hno hr
  exact h _ (sd_iconst C (x := -1) dX10_stationOf_0 (by decide +kernel) (sd_istore_n C (i := 2) dX10_stationOf_1 rfl (by decide) (sd_aload_n C (i := 0) dX10_stationOf_2 rfl (sd_iload_n C (i := 1) dX10_stationOf_3 rfl (sd_iconst C (x := nI 0) dX10_stationOf_4 (by decide +kernel) (sd_cS C ok_X10_finderAt ⟨by decide, by decide, wd_1107, wd_11, by decide +kernel⟩ wd_1105 wd_1106 dX10_stationOf_5 (sd_ia C dX10_stationOf_8 (sd_istore_n C (i := 3) dX10_stationOf_9 rfl (by decide) (sd_iconst C (x := nI 0) dX10_stationOf_10 (by decide +kernel) (sd_istore C dX10_stationOf_11 (by decide) (fun _ _ _ h => h)))))))))))
    (sd_iload C dX10_stationOf_13 (sd_aload_n C (i := 0) dX10_stationOf_15 rfl (sd_iconst C (x := nI 1) dX10_stationOf_16 (by decide +kernel) (sd_ia C dX10_stationOf_17 (sd_icmp_ge C dX10_stationOf_18 (tgt := 65) (by decide) (sd_iload_n C (i := 2) dX10_stationOf_65 rfl (sd_ir C hr dX10_stationOf_66)) (sd_iload_n C (i := 2) dX10_stationOf_21 rfl (sd_iconst C (x := -1) dX10_stationOf_22 (by decide +kernel) (sd_icmp_eq C dX10_stationOf_23 (tgt := 52) (by decide) (fun _ _ _ h => h) (sd_aload_n C (i := 0) dX10_stationOf_26 rfl (sd_iload C dX10_stationOf_27 (sd_iconst C (x := nI 0) dX10_stationOf_29 (by decide +kernel) (sd_cS C ok_X10_stationAt ⟨by decide, by decide, wd_1097, wd_11, by decide +kernel⟩ wd_1095 wd_1096 dX10_stationOf_30 (sd_ia C dX10_stationOf_33 (sd_iload_n C (i := 3) dX10_stationOf_34 rfl (sd_cS C ok_X10_apart ⟨by decide, by decide, wd_1170, wd_11, by decide +kernel⟩ wd_1168 wd_1169 dX10_stationOf_35 (sd_aload_n C (i := 0) dX10_stationOf_38 rfl (sd_iload_n C (i := 2) dX10_stationOf_39 rfl (sd_iconst C (x := nI 0) dX10_stationOf_40 (by decide +kernel) (sd_cS C ok_X10_stationAt ⟨by decide, by decide, wd_1097, wd_11, by decide +kernel⟩ wd_1095 wd_1096 dX10_stationOf_41 (sd_ia C dX10_stationOf_44 (sd_iload_n C (i := 3) dX10_stationOf_45 rfl (sd_cS C ok_X10_apart ⟨by decide, by decide, wd_1170, wd_11, by decide +kernel⟩ wd_1168 wd_1169 dX10_stationOf_46 (sd_icmp_ge C dX10_stationOf_49 (tgt := 57) (by decide) (sd_iload_n C (i := 2) dX10_stationOf_57 rfl (fun _ _ _ h => h)) (fun _ _ _ h => h))))))))))))))))))))))))
    (sd_iload C dX10_stationOf_52 (sd_goto C dX10_stationOf_54 (tgt := 58) (by decide) (fun _ _ _ h => h)))
    (sd_istore_n C (i := 2) dX10_stationOf_58 rfl (by decide) (sd_iinc C (x := nI 1) dX10_stationOf_59 (by decide +kernel) (by decide) (sd_goto C dX10_stationOf_62 (tgt := 13) (by decide) (fun _ _ _ h => h))))
theorem dX10_sendBack_0 : decode cX10_sendBack 0 = .ok (.aload_n 0, 1) := by decide +kernel
theorem dX10_sendBack_1 : decode cX10_sendBack 1 = .ok (.bipush 9, 2) := by decide +kernel
theorem dX10_sendBack_3 : decode cX10_sendBack 3 = .ok (.iaload, 1) := by decide +kernel
theorem dX10_sendBack_4 : decode cX10_sendBack 4 = .ok (.istore 4, 2) := by decide +kernel
theorem dX10_sendBack_6 : decode cX10_sendBack 6 = .ok (.iload 4, 2) := by decide +kernel
theorem dX10_sendBack_8 : decode cX10_sendBack 8 = .ok (.ifCond .le 44, 3) := by decide +kernel
theorem dX10_sendBack_11 : decode cX10_sendBack 11 = .ok (.aload_n 0, 1) := by decide +kernel
theorem dX10_sendBack_12 : decode cX10_sendBack 12 = .ok (.sipush 144, 3) := by decide +kernel
theorem dX10_sendBack_15 : decode cX10_sendBack 15 = .ok (.iload 4, 2) := by decide +kernel
theorem dX10_sendBack_17 : decode cX10_sendBack 17 = .ok (.iadd, 1) := by decide +kernel
theorem dX10_sendBack_18 : decode cX10_sendBack 18 = .ok (.iconst 1, 1) := by decide +kernel
theorem dX10_sendBack_19 : decode cX10_sendBack 19 = .ok (.isub, 1) := by decide +kernel
theorem dX10_sendBack_20 : decode cX10_sendBack 20 = .ok (.iaload, 1) := by decide +kernel
theorem dX10_sendBack_21 : decode cX10_sendBack 21 = .ok (.bipush 100, 2) := by decide +kernel
theorem dX10_sendBack_23 : decode cX10_sendBack 23 = .ok (.idiv, 1) := by decide +kernel
theorem dX10_sendBack_24 : decode cX10_sendBack 24 = .ok (.iload_n 1, 1) := by decide +kernel
theorem dX10_sendBack_25 : decode cX10_sendBack 25 = .ok (.if_icmp .le 27, 3) := by decide +kernel
theorem dX10_sendBack_28 : decode cX10_sendBack 28 = .ok (.aload_n 0, 1) := by decide +kernel
theorem dX10_sendBack_29 : decode cX10_sendBack 29 = .ok (.sipush 144, 3) := by decide +kernel
theorem dX10_sendBack_32 : decode cX10_sendBack 32 = .ok (.iload 4, 2) := by decide +kernel
theorem dX10_sendBack_34 : decode cX10_sendBack 34 = .ok (.iadd, 1) := by decide +kernel
theorem dX10_sendBack_35 : decode cX10_sendBack 35 = .ok (.aload_n 0, 1) := by decide +kernel
theorem dX10_sendBack_36 : decode cX10_sendBack 36 = .ok (.sipush 144, 3) := by decide +kernel
theorem dX10_sendBack_39 : decode cX10_sendBack 39 = .ok (.iload 4, 2) := by decide +kernel
theorem dX10_sendBack_41 : decode cX10_sendBack 41 = .ok (.iadd, 1) := by decide +kernel
theorem dX10_sendBack_42 : decode cX10_sendBack 42 = .ok (.iconst 1, 1) := by decide +kernel
theorem dX10_sendBack_43 : decode cX10_sendBack 43 = .ok (.isub, 1) := by decide +kernel
theorem dX10_sendBack_44 : decode cX10_sendBack 44 = .ok (.iaload, 1) := by decide +kernel
theorem dX10_sendBack_45 : decode cX10_sendBack 45 = .ok (.iastore, 1) := by decide +kernel
theorem dX10_sendBack_46 : decode cX10_sendBack 46 = .ok (.iinc 4 (-1), 3) := by decide +kernel
theorem dX10_sendBack_49 : decode cX10_sendBack 49 = .ok (.goto (-43), 3) := by decide +kernel
theorem dX10_sendBack_52 : decode cX10_sendBack 52 = .ok (.aload_n 0, 1) := by decide +kernel
theorem dX10_sendBack_53 : decode cX10_sendBack 53 = .ok (.sipush 144, 3) := by decide +kernel
theorem dX10_sendBack_56 : decode cX10_sendBack 56 = .ok (.iload 4, 2) := by decide +kernel
theorem dX10_sendBack_58 : decode cX10_sendBack 58 = .ok (.iadd, 1) := by decide +kernel
theorem dX10_sendBack_59 : decode cX10_sendBack 59 = .ok (.bipush 100, 2) := by decide +kernel
theorem dX10_sendBack_61 : decode cX10_sendBack 61 = .ok (.iload_n 1, 1) := by decide +kernel
theorem dX10_sendBack_62 : decode cX10_sendBack 62 = .ok (.imul, 1) := by decide +kernel
theorem dX10_sendBack_63 : decode cX10_sendBack 63 = .ok (.bipush 10, 2) := by decide +kernel
theorem dX10_sendBack_65 : decode cX10_sendBack 65 = .ok (.iload_n 2, 1) := by decide +kernel
theorem dX10_sendBack_66 : decode cX10_sendBack 66 = .ok (.imul, 1) := by decide +kernel
theorem dX10_sendBack_67 : decode cX10_sendBack 67 = .ok (.iadd, 1) := by decide +kernel
theorem dX10_sendBack_68 : decode cX10_sendBack 68 = .ok (.iload_n 3, 1) := by decide +kernel
theorem dX10_sendBack_69 : decode cX10_sendBack 69 = .ok (.iadd, 1) := by decide +kernel
theorem dX10_sendBack_70 : decode cX10_sendBack 70 = .ok (.iastore, 1) := by decide +kernel
theorem dX10_sendBack_71 : decode cX10_sendBack 71 = .ok (.aload_n 0, 1) := by decide +kernel
theorem dX10_sendBack_72 : decode cX10_sendBack 72 = .ok (.bipush 9, 2) := by decide +kernel
theorem dX10_sendBack_74 : decode cX10_sendBack 74 = .ok (.dup2, 1) := by decide +kernel
theorem dX10_sendBack_75 : decode cX10_sendBack 75 = .ok (.iaload, 1) := by decide +kernel
theorem dX10_sendBack_76 : decode cX10_sendBack 76 = .ok (.iconst 1, 1) := by decide +kernel
theorem dX10_sendBack_77 : decode cX10_sendBack 77 = .ok (.iadd, 1) := by decide +kernel
theorem dX10_sendBack_78 : decode cX10_sendBack 78 = .ok (.iastore, 1) := by decide +kernel
theorem dX10_sendBack_79 : decode cX10_sendBack 79 = .ok (.return_, 1) := by decide +kernel
def bX10_sendBack_0 (w : ab_W) (M : Nat → ab_P) (Kn : Option Value → ab_H → Prop) : ab_P := ab_ald 0 (ab_ci (nI 9) (ab_ia w 11 (ab_ist 4 (M 6))))
def bX10_sendBack_6 (w : ab_W) (M : Nat → ab_P) (Kn : Option Value → ab_H → Prop) : ab_P := ab_ild 4 (ab_if1 (fun x => x ≤ 0) (M 52) (ab_ald 0 (ab_ci (nI 144) (ab_ild 4 (ab_b2 (fun x y => x + y) (ab_ci (nI 1) (ab_b2 (fun x y => x - y) (ab_ia w 11 (ab_ci (nI 100) (ab_d2 (fun x y => x / y) (ab_ild 1 (ab_if2 (fun x y => x ≤ y) (M 52) (ab_ald 0 (ab_ci (nI 144) (ab_ild 4 (ab_b2 (fun x y => x + y) (ab_ald 0 (ab_ci (nI 144) (ab_ild 4 (ab_b2 (fun x y => x + y) (ab_ci (nI 1) (ab_b2 (fun x y => x - y) (ab_ia w 11 (ab_is w (ab_inc 4 (-1) (M 6))))))))))))))))))))))))))
def bX10_sendBack_52 (w : ab_W) (M : Nat → ab_P) (Kn : Option Value → ab_H → Prop) : ab_P := ab_ald 0 (ab_ci (nI 144) (ab_ild 4 (ab_b2 (fun x y => x + y) (ab_ci (nI 100) (ab_ild 1 (ab_b2 (fun x y => x * y) (ab_ci (nI 10) (ab_ild 2 (ab_b2 (fun x y => x * y) (ab_b2 (fun x y => x + y) (ab_ild 3 (ab_b2 (fun x y => x + y) (ab_is w (ab_ald 0 (ab_ci (nI 9) (ab_dup2 (ab_ia w 11 (ab_ci (nI 1) (ab_b2 (fun x y => x + y) (ab_is w (ab_vr Kn)))))))))))))))))))))
set_option maxRecDepth 20000 in
set_option maxHeartbeats 2000000 in
theorem vc_X10_sendBack {l : Launch} (hl : l.stackTraces = false) {w : ab_W} (hI : ab_Inj w) {mc : Nat} {σ : ab_H} {As : List Value} {Kn : Option Value → ab_H → Prop} {Kx : String → ab_H → Prop} (hlen : (ab_xl As).length ≤ 5) (h : ∀ M : Nat → ab_P, (∀ L st σ, bX10_sendBack_0 w M Kn L st σ → M 0 L st σ) → (∀ L st σ, bX10_sendBack_6 w M Kn L st σ → M 6 L st σ) → (∀ L st σ, bX10_sendBack_52 w M Kn L st σ → M 52 L st σ) → M 0 (ab_pd 5 (ab_xl As)) [] σ) : ab_Met l yX10_sendBack (Cond.code yX10_sendBack cX10_sendBack 5 none) 1 mc w σ As Kn Kx := by
  refine ab_enter (by decide) hl hI hlen (by decide) ?_
  intro p e R s m args below meth c C hno hr
  exact h _ (sd_aload_n C (i := 0) dX10_sendBack_0 rfl (sd_bipush C (x := nI 9) dX10_sendBack_1 (by decide +kernel) (sd_ia C dX10_sendBack_3 (sd_istore C dX10_sendBack_4 (by decide) (fun _ _ _ h => h)))))
    (sd_iload C dX10_sendBack_6 (sd_if_le C dX10_sendBack_8 (tgt := 52) (by decide) (fun _ _ _ h => h) (sd_aload_n C (i := 0) dX10_sendBack_11 rfl (sd_sipush C (x := nI 144) dX10_sendBack_12 (by decide +kernel) (sd_iload C dX10_sendBack_15 (sd_iadd C dX10_sendBack_17 (sd_iconst C (x := nI 1) dX10_sendBack_18 (by decide +kernel) (sd_isub C dX10_sendBack_19 (sd_ia C dX10_sendBack_20 (sd_bipush C (x := nI 100) dX10_sendBack_21 (by decide +kernel) (sd_idiv C dX10_sendBack_23 (sd_iload_n C (i := 1) dX10_sendBack_24 rfl (sd_icmp_le C dX10_sendBack_25 (tgt := 52) (by decide) (fun _ _ _ h => h) (sd_aload_n C (i := 0) dX10_sendBack_28 rfl (sd_sipush C (x := nI 144) dX10_sendBack_29 (by decide +kernel) (sd_iload C dX10_sendBack_32 (sd_iadd C dX10_sendBack_34 (sd_aload_n C (i := 0) dX10_sendBack_35 rfl (sd_sipush C (x := nI 144) dX10_sendBack_36 (by decide +kernel) (sd_iload C dX10_sendBack_39 (sd_iadd C dX10_sendBack_41 (sd_iconst C (x := nI 1) dX10_sendBack_42 (by decide +kernel) (sd_isub C dX10_sendBack_43 (sd_ia C dX10_sendBack_44 (sd_is C dX10_sendBack_45 (sd_iinc C (x := -1) dX10_sendBack_46 (by decide +kernel) (by decide) (sd_goto C dX10_sendBack_49 (tgt := 6) (by decide) (fun _ _ _ h => h))))))))))))))))))))))))))))
    (sd_aload_n C (i := 0) dX10_sendBack_52 rfl (sd_sipush C (x := nI 144) dX10_sendBack_53 (by decide +kernel) (sd_iload C dX10_sendBack_56 (sd_iadd C dX10_sendBack_58 (sd_bipush C (x := nI 100) dX10_sendBack_59 (by decide +kernel) (sd_iload_n C (i := 1) dX10_sendBack_61 rfl (sd_imul C dX10_sendBack_62 (sd_bipush C (x := nI 10) dX10_sendBack_63 (by decide +kernel) (sd_iload_n C (i := 2) dX10_sendBack_65 rfl (sd_imul C dX10_sendBack_66 (sd_iadd C dX10_sendBack_67 (sd_iload_n C (i := 3) dX10_sendBack_68 rfl (sd_iadd C dX10_sendBack_69 (sd_is C dX10_sendBack_70 (sd_aload_n C (i := 0) dX10_sendBack_71 rfl (sd_bipush C (x := nI 9) dX10_sendBack_72 (by decide +kernel) (sd_dup2 C dX10_sendBack_74 (sd_ia C dX10_sendBack_75 (sd_iconst C (x := nI 1) dX10_sendBack_76 (by decide +kernel) (sd_iadd C dX10_sendBack_77 (sd_is C dX10_sendBack_78 (sd_vr C hr dX10_sendBack_79))))))))))))))))))))))
theorem dX10_dropFirstBack_0 : decode cX10_dropFirstBack 0 = .ok (.aload_n 0, 1) := by decide +kernel
theorem dX10_dropFirstBack_1 : decode cX10_dropFirstBack 1 = .ok (.bipush 9, 2) := by decide +kernel
theorem dX10_dropFirstBack_3 : decode cX10_dropFirstBack 3 = .ok (.dup2, 1) := by decide +kernel
theorem dX10_dropFirstBack_4 : decode cX10_dropFirstBack 4 = .ok (.iaload, 1) := by decide +kernel
theorem dX10_dropFirstBack_5 : decode cX10_dropFirstBack 5 = .ok (.iconst 1, 1) := by decide +kernel
theorem dX10_dropFirstBack_6 : decode cX10_dropFirstBack 6 = .ok (.isub, 1) := by decide +kernel
theorem dX10_dropFirstBack_7 : decode cX10_dropFirstBack 7 = .ok (.iastore, 1) := by decide +kernel
theorem dX10_dropFirstBack_8 : decode cX10_dropFirstBack 8 = .ok (.iconst 0, 1) := by decide +kernel
theorem dX10_dropFirstBack_9 : decode cX10_dropFirstBack 9 = .ok (.istore_n 1, 1) := by decide +kernel
theorem dX10_dropFirstBack_10 : decode cX10_dropFirstBack 10 = .ok (.iload_n 1, 1) := by decide +kernel
theorem dX10_dropFirstBack_11 : decode cX10_dropFirstBack 11 = .ok (.aload_n 0, 1) := by decide +kernel
theorem dX10_dropFirstBack_12 : decode cX10_dropFirstBack 12 = .ok (.bipush 9, 2) := by decide +kernel
theorem dX10_dropFirstBack_14 : decode cX10_dropFirstBack 14 = .ok (.iaload, 1) := by decide +kernel
theorem dX10_dropFirstBack_15 : decode cX10_dropFirstBack 15 = .ok (.if_icmp .ge 25, 3) := by decide +kernel
theorem dX10_dropFirstBack_18 : decode cX10_dropFirstBack 18 = .ok (.aload_n 0, 1) := by decide +kernel
theorem dX10_dropFirstBack_19 : decode cX10_dropFirstBack 19 = .ok (.sipush 144, 3) := by decide +kernel
theorem dX10_dropFirstBack_22 : decode cX10_dropFirstBack 22 = .ok (.iload_n 1, 1) := by decide +kernel
theorem dX10_dropFirstBack_23 : decode cX10_dropFirstBack 23 = .ok (.iadd, 1) := by decide +kernel
theorem dX10_dropFirstBack_24 : decode cX10_dropFirstBack 24 = .ok (.aload_n 0, 1) := by decide +kernel
theorem dX10_dropFirstBack_25 : decode cX10_dropFirstBack 25 = .ok (.sipush 144, 3) := by decide +kernel
theorem dX10_dropFirstBack_28 : decode cX10_dropFirstBack 28 = .ok (.iload_n 1, 1) := by decide +kernel
theorem dX10_dropFirstBack_29 : decode cX10_dropFirstBack 29 = .ok (.iadd, 1) := by decide +kernel
theorem dX10_dropFirstBack_30 : decode cX10_dropFirstBack 30 = .ok (.iconst 1, 1) := by decide +kernel
theorem dX10_dropFirstBack_31 : decode cX10_dropFirstBack 31 = .ok (.iadd, 1) := by decide +kernel
theorem dX10_dropFirstBack_32 : decode cX10_dropFirstBack 32 = .ok (.iaload, 1) := by decide +kernel
theorem dX10_dropFirstBack_33 : decode cX10_dropFirstBack 33 = .ok (.iastore, 1) := by decide +kernel
theorem dX10_dropFirstBack_34 : decode cX10_dropFirstBack 34 = .ok (.iinc 1 1, 3) := by decide +kernel
theorem dX10_dropFirstBack_37 : decode cX10_dropFirstBack 37 = .ok (.goto (-27), 3) := by decide +kernel
theorem dX10_dropFirstBack_40 : decode cX10_dropFirstBack 40 = .ok (.return_, 1) := by decide +kernel
def bX10_dropFirstBack_0 (w : ab_W) (M : Nat → ab_P) (Kn : Option Value → ab_H → Prop) : ab_P := ab_ald 0 (ab_ci (nI 9) (ab_dup2 (ab_ia w 11 (ab_ci (nI 1) (ab_b2 (fun x y => x - y) (ab_is w (ab_ci (nI 0) (ab_ist 1 (M 10)))))))))
def bX10_dropFirstBack_10 (w : ab_W) (M : Nat → ab_P) (Kn : Option Value → ab_H → Prop) : ab_P := ab_ild 1 (ab_ald 0 (ab_ci (nI 9) (ab_ia w 11 (ab_if2 (fun x y => y ≤ x) (ab_vr Kn) (ab_ald 0 (ab_ci (nI 144) (ab_ild 1 (ab_b2 (fun x y => x + y) (ab_ald 0 (ab_ci (nI 144) (ab_ild 1 (ab_b2 (fun x y => x + y) (ab_ci (nI 1) (ab_b2 (fun x y => x + y) (ab_ia w 11 (ab_is w (ab_inc 1 (nI 1) (M 10))))))))))))))))))
set_option maxRecDepth 20000 in
set_option maxHeartbeats 2000000 in
theorem vc_X10_dropFirstBack {l : Launch} (hl : l.stackTraces = false) {w : ab_W} (hI : ab_Inj w) {mc : Nat} {σ : ab_H} {As : List Value} {Kn : Option Value → ab_H → Prop} {Kx : String → ab_H → Prop} (hlen : (ab_xl As).length ≤ 2) (h : ∀ M : Nat → ab_P, (∀ L st σ, bX10_dropFirstBack_0 w M Kn L st σ → M 0 L st σ) → (∀ L st σ, bX10_dropFirstBack_10 w M Kn L st σ → M 10 L st σ) → M 0 (ab_pd 2 (ab_xl As)) [] σ) : ab_Met l yX10_dropFirstBack (Cond.code yX10_dropFirstBack cX10_dropFirstBack 2 none) 1 mc w σ As Kn Kx := by
  refine ab_enter (by decide) hl hI hlen (by decide) ?_
  intro p e R s m args below meth c C hno hr
  exact h _ (sd_aload_n C (i := 0) dX10_dropFirstBack_0 rfl (sd_bipush C (x := nI 9) dX10_dropFirstBack_1 (by decide +kernel) (sd_dup2 C dX10_dropFirstBack_3 (sd_ia C dX10_dropFirstBack_4 (sd_iconst C (x := nI 1) dX10_dropFirstBack_5 (by decide +kernel) (sd_isub C dX10_dropFirstBack_6 (sd_is C dX10_dropFirstBack_7 (sd_iconst C (x := nI 0) dX10_dropFirstBack_8 (by decide +kernel) (sd_istore_n C (i := 1) dX10_dropFirstBack_9 rfl (by decide) (fun _ _ _ h => h))))))))))
    (sd_iload_n C (i := 1) dX10_dropFirstBack_10 rfl (sd_aload_n C (i := 0) dX10_dropFirstBack_11 rfl (sd_bipush C (x := nI 9) dX10_dropFirstBack_12 (by decide +kernel) (sd_ia C dX10_dropFirstBack_14 (sd_icmp_ge C dX10_dropFirstBack_15 (tgt := 40) (by decide) (sd_vr C hr dX10_dropFirstBack_40) (sd_aload_n C (i := 0) dX10_dropFirstBack_18 rfl (sd_sipush C (x := nI 144) dX10_dropFirstBack_19 (by decide +kernel) (sd_iload_n C (i := 1) dX10_dropFirstBack_22 rfl (sd_iadd C dX10_dropFirstBack_23 (sd_aload_n C (i := 0) dX10_dropFirstBack_24 rfl (sd_sipush C (x := nI 144) dX10_dropFirstBack_25 (by decide +kernel) (sd_iload_n C (i := 1) dX10_dropFirstBack_28 rfl (sd_iadd C dX10_dropFirstBack_29 (sd_iconst C (x := nI 1) dX10_dropFirstBack_30 (by decide +kernel) (sd_iadd C dX10_dropFirstBack_31 (sd_ia C dX10_dropFirstBack_32 (sd_is C dX10_dropFirstBack_33 (sd_iinc C (x := nI 1) dX10_dropFirstBack_34 (by decide +kernel) (by decide) (sd_goto C dX10_dropFirstBack_37 (tgt := 10) (by decide) (fun _ _ _ h => h))))))))))))))))))))
theorem dX10_dropSend_0 : decode cX10_dropSend 0 = .ok (.aload_n 0, 1) := by decide +kernel
theorem dX10_dropSend_1 : decode cX10_dropSend 1 = .ok (.bipush 10, 2) := by decide +kernel
theorem dX10_dropSend_3 : decode cX10_dropSend 3 = .ok (.dup2, 1) := by decide +kernel
theorem dX10_dropSend_4 : decode cX10_dropSend 4 = .ok (.iaload, 1) := by decide +kernel
theorem dX10_dropSend_5 : decode cX10_dropSend 5 = .ok (.iconst 1, 1) := by decide +kernel
theorem dX10_dropSend_6 : decode cX10_dropSend 6 = .ok (.isub, 1) := by decide +kernel
theorem dX10_dropSend_7 : decode cX10_dropSend 7 = .ok (.iastore, 1) := by decide +kernel
theorem dX10_dropSend_8 : decode cX10_dropSend 8 = .ok (.iload_n 1, 1) := by decide +kernel
theorem dX10_dropSend_9 : decode cX10_dropSend 9 = .ok (.istore_n 2, 1) := by decide +kernel
theorem dX10_dropSend_10 : decode cX10_dropSend 10 = .ok (.iload_n 2, 1) := by decide +kernel
theorem dX10_dropSend_11 : decode cX10_dropSend 11 = .ok (.aload_n 0, 1) := by decide +kernel
theorem dX10_dropSend_12 : decode cX10_dropSend 12 = .ok (.bipush 10, 2) := by decide +kernel
theorem dX10_dropSend_14 : decode cX10_dropSend 14 = .ok (.iaload, 1) := by decide +kernel
theorem dX10_dropSend_15 : decode cX10_dropSend 15 = .ok (.if_icmp .ge 27, 3) := by decide +kernel
theorem dX10_dropSend_18 : decode cX10_dropSend 18 = .ok (.aload_n 0, 1) := by decide +kernel
theorem dX10_dropSend_19 : decode cX10_dropSend 19 = .ok (.iload_n 2, 1) := by decide +kernel
theorem dX10_dropSend_20 : decode cX10_dropSend 20 = .ok (.iconst 1, 1) := by decide +kernel
theorem dX10_dropSend_21 : decode cX10_dropSend 21 = .ok (.iadd, 1) := by decide +kernel
theorem dX10_dropSend_22 : decode cX10_dropSend 22 = .ok (.iconst 0, 1) := by decide +kernel
theorem dX10_dropSend_23 : decode cX10_dropSend 23 = .ok (.invokestatic 72, 3) := by decide +kernel
theorem dX10_dropSend_26 : decode cX10_dropSend 26 = .ok (.aload_n 0, 1) := by decide +kernel
theorem dX10_dropSend_27 : decode cX10_dropSend 27 = .ok (.iload_n 2, 1) := by decide +kernel
theorem dX10_dropSend_28 : decode cX10_dropSend 28 = .ok (.iconst 0, 1) := by decide +kernel
theorem dX10_dropSend_29 : decode cX10_dropSend 29 = .ok (.invokestatic 72, 3) := by decide +kernel
theorem dX10_dropSend_32 : decode cX10_dropSend 32 = .ok (.iconst 4, 1) := by decide +kernel
theorem dX10_dropSend_33 : decode cX10_dropSend 33 = .ok (.invokestatic 45, 3) := by decide +kernel
theorem dX10_dropSend_36 : decode cX10_dropSend 36 = .ok (.iinc 2 1, 3) := by decide +kernel
theorem dX10_dropSend_39 : decode cX10_dropSend 39 = .ok (.goto (-29), 3) := by decide +kernel
theorem dX10_dropSend_42 : decode cX10_dropSend 42 = .ok (.return_, 1) := by decide +kernel
def bX10_dropSend_0 (w : ab_W) (s_X10_sendAt : ab_S) (s_X10_copy : ab_S) (M : Nat → ab_P) (Kn : Option Value → ab_H → Prop) : ab_P := ab_ald 0 (ab_ci (nI 10) (ab_dup2 (ab_ia w 11 (ab_ci (nI 1) (ab_b2 (fun x y => x - y) (ab_is w (ab_ild 1 (ab_ist 2 (M 10)))))))))
def bX10_dropSend_10 (w : ab_W) (s_X10_sendAt : ab_S) (s_X10_copy : ab_S) (M : Nat → ab_P) (Kn : Option Value → ab_H → Prop) : ab_P := ab_ild 2 (ab_ald 0 (ab_ci (nI 10) (ab_ia w 11 (ab_if2 (fun x y => y ≤ x) (ab_vr Kn) (ab_ald 0 (ab_ild 2 (ab_ci (nI 1) (ab_b2 (fun x y => x + y) (ab_ci (nI 0) (ab_cN w 2 s_X10_sendAt (ab_ald 0 (ab_ild 2 (ab_ci (nI 0) (ab_cN w 2 s_X10_sendAt (ab_ci (nI 4) (ab_cN w 5 s_X10_copy (ab_inc 2 (nI 1) (M 10))))))))))))))))))
set_option maxRecDepth 20000 in
set_option maxHeartbeats 2000000 in
theorem vc_X10_dropSend {l : Launch} (hl : l.stackTraces = false) {w : ab_W} (hI : ab_Inj w) {mc : Nat} {σ : ab_H} {As : List Value} {Kn : Option Value → ab_H → Prop} {Kx : String → ab_H → Prop} {s_X10_sendAt : ab_S} (ok_X10_sendAt : ab_OkN l yX10_sendAt (Cond.code yX10_sendAt cX10_sendAt 2 (some .int)) 1 s_X10_sendAt) {s_X10_copy : ab_S} (ok_X10_copy : ab_OkN l yX10_copy (Cond.code yX10_copy cX10_copy 6 none) 1 s_X10_copy) (hlen : (ab_xl As).length ≤ 3) (h : ∀ M : Nat → ab_P, (∀ L st σ, bX10_dropSend_0 w s_X10_sendAt s_X10_copy M Kn L st σ → M 0 L st σ) → (∀ L st σ, bX10_dropSend_10 w s_X10_sendAt s_X10_copy M Kn L st σ → M 10 L st σ) → M 0 (ab_pd 3 (ab_xl As)) [] σ) : ab_Met l yX10_dropSend (Cond.code yX10_dropSend cX10_dropSend 3 none) 2 mc w σ As Kn Kx := by
  refine ab_enter (by decide) hl hI hlen (by decide) ?_
  intro p e R s m args below meth c C hno hr
  exact h _ (sd_aload_n C (i := 0) dX10_dropSend_0 rfl (sd_bipush C (x := nI 10) dX10_dropSend_1 (by decide +kernel) (sd_dup2 C dX10_dropSend_3 (sd_ia C dX10_dropSend_4 (sd_iconst C (x := nI 1) dX10_dropSend_5 (by decide +kernel) (sd_isub C dX10_dropSend_6 (sd_is C dX10_dropSend_7 (sd_iload_n C (i := 1) dX10_dropSend_8 rfl (sd_istore_n C (i := 2) dX10_dropSend_9 rfl (by decide) (fun _ _ _ h => h))))))))))
    (sd_iload_n C (i := 2) dX10_dropSend_10 rfl (sd_aload_n C (i := 0) dX10_dropSend_11 rfl (sd_bipush C (x := nI 10) dX10_dropSend_12 (by decide +kernel) (sd_ia C dX10_dropSend_14 (sd_icmp_ge C dX10_dropSend_15 (tgt := 42) (by decide) (sd_vr C hr dX10_dropSend_42) (sd_aload_n C (i := 0) dX10_dropSend_18 rfl (sd_iload_n C (i := 2) dX10_dropSend_19 rfl (sd_iconst C (x := nI 1) dX10_dropSend_20 (by decide +kernel) (sd_iadd C dX10_dropSend_21 (sd_iconst C (x := nI 0) dX10_dropSend_22 (by decide +kernel) (sd_cS C ok_X10_sendAt ⟨by decide, by decide, wd_1124, wd_11, by decide +kernel⟩ wd_1122 wd_1123 dX10_dropSend_23 (sd_aload_n C (i := 0) dX10_dropSend_26 rfl (sd_iload_n C (i := 2) dX10_dropSend_27 rfl (sd_iconst C (x := nI 0) dX10_dropSend_28 (by decide +kernel) (sd_cS C ok_X10_sendAt ⟨by decide, by decide, wd_1124, wd_11, by decide +kernel⟩ wd_1122 wd_1123 dX10_dropSend_29 (sd_iconst C (x := nI 4) dX10_dropSend_32 (by decide +kernel) (sd_cS C ok_X10_copy ⟨by decide, by decide, wd_1145, wd_11, by decide +kernel⟩ wd_1143 wd_1144 dX10_dropSend_33 (sd_iinc C (x := nI 1) dX10_dropSend_36 (by decide +kernel) (by decide) (sd_goto C dX10_dropSend_39 (tgt := 10) (by decide) (fun _ _ _ h => h))))))))))))))))))))
theorem dX10_arrive_0 : decode cX10_arrive 0 = .ok (.aload_n 0, 1) := by decide +kernel
theorem dX10_arrive_1 : decode cX10_arrive 1 = .ok (.bipush 10, 2) := by decide +kernel
theorem dX10_arrive_3 : decode cX10_arrive 3 = .ok (.iaload, 1) := by decide +kernel
theorem dX10_arrive_4 : decode cX10_arrive 4 = .ok (.iconst 1, 1) := by decide +kernel
theorem dX10_arrive_5 : decode cX10_arrive 5 = .ok (.isub, 1) := by decide +kernel
theorem dX10_arrive_6 : decode cX10_arrive 6 = .ok (.istore_n 1, 1) := by decide +kernel
theorem dX10_arrive_7 : decode cX10_arrive 7 = .ok (.iload_n 1, 1) := by decide +kernel
theorem dX10_arrive_8 : decode cX10_arrive 8 = .ok (.ifCond .lt 69, 3) := by decide +kernel
theorem dX10_arrive_11 : decode cX10_arrive 11 = .ok (.aload_n 0, 1) := by decide +kernel
theorem dX10_arrive_12 : decode cX10_arrive 12 = .ok (.iload_n 1, 1) := by decide +kernel
theorem dX10_arrive_13 : decode cX10_arrive 13 = .ok (.iconst 0, 1) := by decide +kernel
theorem dX10_arrive_14 : decode cX10_arrive 14 = .ok (.invokestatic 72, 3) := by decide +kernel
theorem dX10_arrive_17 : decode cX10_arrive 17 = .ok (.iaload, 1) := by decide +kernel
theorem dX10_arrive_18 : decode cX10_arrive 18 = .ok (.aload_n 0, 1) := by decide +kernel
theorem dX10_arrive_19 : decode cX10_arrive 19 = .ok (.iconst 0, 1) := by decide +kernel
theorem dX10_arrive_20 : decode cX10_arrive 20 = .ok (.iaload, 1) := by decide +kernel
theorem dX10_arrive_21 : decode cX10_arrive 21 = .ok (.if_icmp .ne 50, 3) := by decide +kernel
theorem dX10_arrive_24 : decode cX10_arrive 24 = .ok (.aload_n 0, 1) := by decide +kernel
theorem dX10_arrive_25 : decode cX10_arrive 25 = .ok (.iload_n 1, 1) := by decide +kernel
theorem dX10_arrive_26 : decode cX10_arrive 26 = .ok (.iconst 1, 1) := by decide +kernel
theorem dX10_arrive_27 : decode cX10_arrive 27 = .ok (.invokestatic 72, 3) := by decide +kernel
theorem dX10_arrive_30 : decode cX10_arrive 30 = .ok (.iaload, 1) := by decide +kernel
theorem dX10_arrive_31 : decode cX10_arrive 31 = .ok (.istore_n 2, 1) := by decide +kernel
theorem dX10_arrive_32 : decode cX10_arrive 32 = .ok (.aload_n 0, 1) := by decide +kernel
theorem dX10_arrive_33 : decode cX10_arrive 33 = .ok (.iload_n 2, 1) := by decide +kernel
theorem dX10_arrive_34 : decode cX10_arrive 34 = .ok (.iconst 3, 1) := by decide +kernel
theorem dX10_arrive_35 : decode cX10_arrive 35 = .ok (.invokestatic 52, 3) := by decide +kernel
theorem dX10_arrive_38 : decode cX10_arrive 38 = .ok (.dup2, 1) := by decide +kernel
theorem dX10_arrive_39 : decode cX10_arrive 39 = .ok (.iaload, 1) := by decide +kernel
theorem dX10_arrive_40 : decode cX10_arrive 40 = .ok (.aload_n 0, 1) := by decide +kernel
theorem dX10_arrive_41 : decode cX10_arrive 41 = .ok (.iload_n 1, 1) := by decide +kernel
theorem dX10_arrive_42 : decode cX10_arrive 42 = .ok (.iconst 2, 1) := by decide +kernel
theorem dX10_arrive_43 : decode cX10_arrive 43 = .ok (.invokestatic 72, 3) := by decide +kernel
theorem dX10_arrive_46 : decode cX10_arrive 46 = .ok (.iaload, 1) := by decide +kernel
theorem dX10_arrive_47 : decode cX10_arrive 47 = .ok (.iadd, 1) := by decide +kernel
theorem dX10_arrive_48 : decode cX10_arrive 48 = .ok (.iastore, 1) := by decide +kernel
theorem dX10_arrive_49 : decode cX10_arrive 49 = .ok (.aload_n 0, 1) := by decide +kernel
theorem dX10_arrive_50 : decode cX10_arrive 50 = .ok (.iload_n 2, 1) := by decide +kernel
theorem dX10_arrive_51 : decode cX10_arrive 51 = .ok (.iconst 4, 1) := by decide +kernel
theorem dX10_arrive_52 : decode cX10_arrive 52 = .ok (.invokestatic 52, 3) := by decide +kernel
theorem dX10_arrive_55 : decode cX10_arrive 55 = .ok (.dup2, 1) := by decide +kernel
theorem dX10_arrive_56 : decode cX10_arrive 56 = .ok (.iaload, 1) := by decide +kernel
theorem dX10_arrive_57 : decode cX10_arrive 57 = .ok (.aload_n 0, 1) := by decide +kernel
theorem dX10_arrive_58 : decode cX10_arrive 58 = .ok (.iload_n 1, 1) := by decide +kernel
theorem dX10_arrive_59 : decode cX10_arrive 59 = .ok (.iconst 3, 1) := by decide +kernel
theorem dX10_arrive_60 : decode cX10_arrive 60 = .ok (.invokestatic 72, 3) := by decide +kernel
theorem dX10_arrive_63 : decode cX10_arrive 63 = .ok (.iaload, 1) := by decide +kernel
theorem dX10_arrive_64 : decode cX10_arrive 64 = .ok (.iadd, 1) := by decide +kernel
theorem dX10_arrive_65 : decode cX10_arrive 65 = .ok (.iastore, 1) := by decide +kernel
theorem dX10_arrive_66 : decode cX10_arrive 66 = .ok (.aload_n 0, 1) := by decide +kernel
theorem dX10_arrive_67 : decode cX10_arrive 67 = .ok (.iload_n 1, 1) := by decide +kernel
theorem dX10_arrive_68 : decode cX10_arrive 68 = .ok (.invokestatic 75, 3) := by decide +kernel
theorem dX10_arrive_71 : decode cX10_arrive 71 = .ok (.iinc 1 (-1), 3) := by decide +kernel
theorem dX10_arrive_74 : decode cX10_arrive 74 = .ok (.goto (-67), 3) := by decide +kernel
theorem dX10_arrive_77 : decode cX10_arrive 77 = .ok (.aload_n 0, 1) := by decide +kernel
theorem dX10_arrive_78 : decode cX10_arrive 78 = .ok (.bipush 9, 2) := by decide +kernel
theorem dX10_arrive_80 : decode cX10_arrive 80 = .ok (.iaload, 1) := by decide +kernel
theorem dX10_arrive_81 : decode cX10_arrive 81 = .ok (.ifCond .le 72, 3) := by decide +kernel
theorem dX10_arrive_84 : decode cX10_arrive 84 = .ok (.aload_n 0, 1) := by decide +kernel
theorem dX10_arrive_85 : decode cX10_arrive 85 = .ok (.sipush 144, 3) := by decide +kernel
theorem dX10_arrive_88 : decode cX10_arrive 88 = .ok (.iaload, 1) := by decide +kernel
theorem dX10_arrive_89 : decode cX10_arrive 89 = .ok (.bipush 100, 2) := by decide +kernel
theorem dX10_arrive_91 : decode cX10_arrive 91 = .ok (.idiv, 1) := by decide +kernel
theorem dX10_arrive_92 : decode cX10_arrive 92 = .ok (.aload_n 0, 1) := by decide +kernel
theorem dX10_arrive_93 : decode cX10_arrive 93 = .ok (.iconst 0, 1) := by decide +kernel
theorem dX10_arrive_94 : decode cX10_arrive 94 = .ok (.iaload, 1) := by decide +kernel
theorem dX10_arrive_95 : decode cX10_arrive 95 = .ok (.if_icmp .ne 58, 3) := by decide +kernel
theorem dX10_arrive_98 : decode cX10_arrive 98 = .ok (.aload_n 0, 1) := by decide +kernel
theorem dX10_arrive_99 : decode cX10_arrive 99 = .ok (.aload_n 0, 1) := by decide +kernel
theorem dX10_arrive_100 : decode cX10_arrive 100 = .ok (.sipush 144, 3) := by decide +kernel
theorem dX10_arrive_103 : decode cX10_arrive 103 = .ok (.iaload, 1) := by decide +kernel
theorem dX10_arrive_104 : decode cX10_arrive 104 = .ok (.bipush 10, 2) := by decide +kernel
theorem dX10_arrive_106 : decode cX10_arrive 106 = .ok (.idiv, 1) := by decide +kernel
theorem dX10_arrive_107 : decode cX10_arrive 107 = .ok (.bipush 10, 2) := by decide +kernel
theorem dX10_arrive_109 : decode cX10_arrive 109 = .ok (.irem, 1) := by decide +kernel
theorem dX10_arrive_110 : decode cX10_arrive 110 = .ok (.iconst 4, 1) := by decide +kernel
theorem dX10_arrive_111 : decode cX10_arrive 111 = .ok (.aload_n 0, 1) := by decide +kernel
theorem dX10_arrive_112 : decode cX10_arrive 112 = .ok (.sipush 144, 3) := by decide +kernel
theorem dX10_arrive_115 : decode cX10_arrive 115 = .ok (.iaload, 1) := by decide +kernel
theorem dX10_arrive_116 : decode cX10_arrive 116 = .ok (.bipush 10, 2) := by decide +kernel
theorem dX10_arrive_118 : decode cX10_arrive 118 = .ok (.irem, 1) := by decide +kernel
theorem dX10_arrive_119 : decode cX10_arrive 119 = .ok (.iadd, 1) := by decide +kernel
theorem dX10_arrive_120 : decode cX10_arrive 120 = .ok (.invokestatic 52, 3) := by decide +kernel
theorem dX10_arrive_123 : decode cX10_arrive 123 = .ok (.dup2, 1) := by decide +kernel
theorem dX10_arrive_124 : decode cX10_arrive 124 = .ok (.iaload, 1) := by decide +kernel
theorem dX10_arrive_125 : decode cX10_arrive 125 = .ok (.iconst 1, 1) := by decide +kernel
theorem dX10_arrive_126 : decode cX10_arrive 126 = .ok (.iadd, 1) := by decide +kernel
theorem dX10_arrive_127 : decode cX10_arrive 127 = .ok (.iastore, 1) := by decide +kernel
theorem dX10_arrive_128 : decode cX10_arrive 128 = .ok (.aload_n 0, 1) := by decide +kernel
theorem dX10_arrive_129 : decode cX10_arrive 129 = .ok (.bipush 7, 2) := by decide +kernel
theorem dX10_arrive_131 : decode cX10_arrive 131 = .ok (.dup2, 1) := by decide +kernel
theorem dX10_arrive_132 : decode cX10_arrive 132 = .ok (.iaload, 1) := by decide +kernel
theorem dX10_arrive_133 : decode cX10_arrive 133 = .ok (.iconst 1, 1) := by decide +kernel
theorem dX10_arrive_134 : decode cX10_arrive 134 = .ok (.iadd, 1) := by decide +kernel
theorem dX10_arrive_135 : decode cX10_arrive 135 = .ok (.iastore, 1) := by decide +kernel
theorem dX10_arrive_136 : decode cX10_arrive 136 = .ok (.aload_n 0, 1) := by decide +kernel
theorem dX10_arrive_137 : decode cX10_arrive 137 = .ok (.iconst 3, 1) := by decide +kernel
theorem dX10_arrive_138 : decode cX10_arrive 138 = .ok (.dup2, 1) := by decide +kernel
theorem dX10_arrive_139 : decode cX10_arrive 139 = .ok (.iaload, 1) := by decide +kernel
theorem dX10_arrive_140 : decode cX10_arrive 140 = .ok (.aload_n 0, 1) := by decide +kernel
theorem dX10_arrive_141 : decode cX10_arrive 141 = .ok (.bipush 16, 2) := by decide +kernel
theorem dX10_arrive_143 : decode cX10_arrive 143 = .ok (.iaload, 1) := by decide +kernel
theorem dX10_arrive_144 : decode cX10_arrive 144 = .ok (.iadd, 1) := by decide +kernel
theorem dX10_arrive_145 : decode cX10_arrive 145 = .ok (.iastore, 1) := by decide +kernel
theorem dX10_arrive_146 : decode cX10_arrive 146 = .ok (.aload_n 0, 1) := by decide +kernel
theorem dX10_arrive_147 : decode cX10_arrive 147 = .ok (.invokestatic 79, 3) := by decide +kernel
theorem dX10_arrive_150 : decode cX10_arrive 150 = .ok (.goto (-73), 3) := by decide +kernel
theorem dX10_arrive_153 : decode cX10_arrive 153 = .ok (.return_, 1) := by decide +kernel
def bX10_arrive_0 (w : ab_W) (s_X10_sendAt : ab_S) (s_X10_stationAt : ab_S) (s_X10_dropSend : ab_S) (s_X10_dropFirstBack : ab_S) (M : Nat → ab_P) (Kn : Option Value → ab_H → Prop) : ab_P := ab_ald 0 (ab_ci (nI 10) (ab_ia w 11 (ab_ci (nI 1) (ab_b2 (fun x y => x - y) (ab_ist 1 (M 7))))))
def bX10_arrive_7 (w : ab_W) (s_X10_sendAt : ab_S) (s_X10_stationAt : ab_S) (s_X10_dropSend : ab_S) (s_X10_dropFirstBack : ab_S) (M : Nat → ab_P) (Kn : Option Value → ab_H → Prop) : ab_P := ab_ild 1 (ab_if1 (fun x => x < 0) (M 77) (ab_ald 0 (ab_ild 1 (ab_ci (nI 0) (ab_cN w 2 s_X10_sendAt (ab_ia w 11 (ab_ald 0 (ab_ci (nI 0) (ab_ia w 11 (ab_if2 (fun x y => ¬ x = y) (M 71) (ab_ald 0 (ab_ild 1 (ab_ci (nI 1) (ab_cN w 2 s_X10_sendAt (ab_ia w 11 (ab_ist 2 (ab_ald 0 (ab_ild 2 (ab_ci (nI 3) (ab_cN w 2 s_X10_stationAt (ab_dup2 (ab_ia w 11 (ab_ald 0 (ab_ild 1 (ab_ci (nI 2) (ab_cN w 2 s_X10_sendAt (ab_ia w 11 (ab_b2 (fun x y => x + y) (ab_is w (ab_ald 0 (ab_ild 2 (ab_ci (nI 4) (ab_cN w 2 s_X10_stationAt (ab_dup2 (ab_ia w 11 (ab_ald 0 (ab_ild 1 (ab_ci (nI 3) (ab_cN w 2 s_X10_sendAt (ab_ia w 11 (ab_b2 (fun x y => x + y) (ab_is w (ab_ald 0 (ab_ild 1 (ab_cN w 2 s_X10_dropSend (M 71))))))))))))))))))))))))))))))))))))))))))))))
def bX10_arrive_71 (w : ab_W) (s_X10_sendAt : ab_S) (s_X10_stationAt : ab_S) (s_X10_dropSend : ab_S) (s_X10_dropFirstBack : ab_S) (M : Nat → ab_P) (Kn : Option Value → ab_H → Prop) : ab_P := ab_inc 1 (-1) (M 7)
def bX10_arrive_77 (w : ab_W) (s_X10_sendAt : ab_S) (s_X10_stationAt : ab_S) (s_X10_dropSend : ab_S) (s_X10_dropFirstBack : ab_S) (M : Nat → ab_P) (Kn : Option Value → ab_H → Prop) : ab_P := ab_ald 0 (ab_ci (nI 9) (ab_ia w 11 (ab_if1 (fun x => x ≤ 0) (M 153) (ab_ald 0 (ab_ci (nI 144) (ab_ia w 11 (ab_ci (nI 100) (ab_d2 (fun x y => x / y) (ab_ald 0 (ab_ci (nI 0) (ab_ia w 11 (ab_if2 (fun x y => ¬ x = y) (M 153) (ab_ald 0 (ab_ald 0 (ab_ci (nI 144) (ab_ia w 11 (ab_ci (nI 10) (ab_d2 (fun x y => x / y) (ab_ci (nI 10) (ab_d2 (fun x y => x - x / y * y) (ab_ci (nI 4) (ab_ald 0 (ab_ci (nI 144) (ab_ia w 11 (ab_ci (nI 10) (ab_d2 (fun x y => x - x / y * y) (ab_b2 (fun x y => x + y) (ab_cN w 2 s_X10_stationAt (ab_dup2 (ab_ia w 11 (ab_ci (nI 1) (ab_b2 (fun x y => x + y) (ab_is w (ab_ald 0 (ab_ci (nI 7) (ab_dup2 (ab_ia w 11 (ab_ci (nI 1) (ab_b2 (fun x y => x + y) (ab_is w (ab_ald 0 (ab_ci (nI 3) (ab_dup2 (ab_ia w 11 (ab_ald 0 (ab_ci (nI 16) (ab_ia w 11 (ab_b2 (fun x y => x + y) (ab_is w (ab_ald 0 (ab_cN w 1 s_X10_dropFirstBack (M 77))))))))))))))))))))))))))))))))))))))))))))))))))))
def bX10_arrive_153 (w : ab_W) (s_X10_sendAt : ab_S) (s_X10_stationAt : ab_S) (s_X10_dropSend : ab_S) (s_X10_dropFirstBack : ab_S) (M : Nat → ab_P) (Kn : Option Value → ab_H → Prop) : ab_P := ab_vr Kn
set_option maxRecDepth 20000 in
set_option maxHeartbeats 2000000 in
theorem vc_X10_arrive {l : Launch} (hl : l.stackTraces = false) {w : ab_W} (hI : ab_Inj w) {mc : Nat} {σ : ab_H} {As : List Value} {Kn : Option Value → ab_H → Prop} {Kx : String → ab_H → Prop} {s_X10_sendAt : ab_S} (ok_X10_sendAt : ab_OkN l yX10_sendAt (Cond.code yX10_sendAt cX10_sendAt 2 (some .int)) 1 s_X10_sendAt) {s_X10_stationAt : ab_S} (ok_X10_stationAt : ab_OkN l yX10_stationAt (Cond.code yX10_stationAt cX10_stationAt 2 (some .int)) 1 s_X10_stationAt) {s_X10_dropSend : ab_S} (ok_X10_dropSend : ab_OkN l yX10_dropSend (Cond.code yX10_dropSend cX10_dropSend 3 none) 2 s_X10_dropSend) {s_X10_dropFirstBack : ab_S} (ok_X10_dropFirstBack : ab_OkN l yX10_dropFirstBack (Cond.code yX10_dropFirstBack cX10_dropFirstBack 2 none) 1 s_X10_dropFirstBack) (hlen : (ab_xl As).length ≤ 3) (h : ∀ M : Nat → ab_P, (∀ L st σ, bX10_arrive_0 w s_X10_sendAt s_X10_stationAt s_X10_dropSend s_X10_dropFirstBack M Kn L st σ → M 0 L st σ) → (∀ L st σ, bX10_arrive_7 w s_X10_sendAt s_X10_stationAt s_X10_dropSend s_X10_dropFirstBack M Kn L st σ → M 7 L st σ) → (∀ L st σ, bX10_arrive_71 w s_X10_sendAt s_X10_stationAt s_X10_dropSend s_X10_dropFirstBack M Kn L st σ → M 71 L st σ) → (∀ L st σ, bX10_arrive_77 w s_X10_sendAt s_X10_stationAt s_X10_dropSend s_X10_dropFirstBack M Kn L st σ → M 77 L st σ) → (∀ L st σ, bX10_arrive_153 w s_X10_sendAt s_X10_stationAt s_X10_dropSend s_X10_dropFirstBack M Kn L st σ → M 153 L st σ) → M 0 (ab_pd 3 (ab_xl As)) [] σ) : ab_Met l yX10_arrive (Cond.code yX10_arrive cX10_arrive 3 none) 3 mc w σ As Kn Kx := by
  refine ab_enter (by decide) hl hI hlen (by decide) ?_
  intro p e R s m args below meth c C hno hr
  exact h _ (sd_aload_n C (i := 0) dX10_arrive_0 rfl (sd_bipush C (x := nI 10) dX10_arrive_1 (by decide +kernel) (sd_ia C dX10_arrive_3 (sd_iconst C (x := nI 1) dX10_arrive_4 (by decide +kernel) (sd_isub C dX10_arrive_5 (sd_istore_n C (i := 1) dX10_arrive_6 rfl (by decide) (fun _ _ _ h => h)))))))
    (sd_iload_n C (i := 1) dX10_arrive_7 rfl (sd_if_lt C dX10_arrive_8 (tgt := 77) (by decide) (fun _ _ _ h => h) (sd_aload_n C (i := 0) dX10_arrive_11 rfl (sd_iload_n C (i := 1) dX10_arrive_12 rfl (sd_iconst C (x := nI 0) dX10_arrive_13 (by decide +kernel) (sd_cS C ok_X10_sendAt ⟨by decide, by decide, wd_1124, wd_11, by decide +kernel⟩ wd_1122 wd_1123 dX10_arrive_14 (sd_ia C dX10_arrive_17 (sd_aload_n C (i := 0) dX10_arrive_18 rfl (sd_iconst C (x := nI 0) dX10_arrive_19 (by decide +kernel) (sd_ia C dX10_arrive_20 (sd_icmp_ne C dX10_arrive_21 (tgt := 71) (by decide) (fun _ _ _ h => h) (sd_aload_n C (i := 0) dX10_arrive_24 rfl (sd_iload_n C (i := 1) dX10_arrive_25 rfl (sd_iconst C (x := nI 1) dX10_arrive_26 (by decide +kernel) (sd_cS C ok_X10_sendAt ⟨by decide, by decide, wd_1124, wd_11, by decide +kernel⟩ wd_1122 wd_1123 dX10_arrive_27 (sd_ia C dX10_arrive_30 (sd_istore_n C (i := 2) dX10_arrive_31 rfl (by decide) (sd_aload_n C (i := 0) dX10_arrive_32 rfl (sd_iload_n C (i := 2) dX10_arrive_33 rfl (sd_iconst C (x := nI 3) dX10_arrive_34 (by decide +kernel) (sd_cS C ok_X10_stationAt ⟨by decide, by decide, wd_1097, wd_11, by decide +kernel⟩ wd_1095 wd_1096 dX10_arrive_35 (sd_dup2 C dX10_arrive_38 (sd_ia C dX10_arrive_39 (sd_aload_n C (i := 0) dX10_arrive_40 rfl (sd_iload_n C (i := 1) dX10_arrive_41 rfl (sd_iconst C (x := nI 2) dX10_arrive_42 (by decide +kernel) (sd_cS C ok_X10_sendAt ⟨by decide, by decide, wd_1124, wd_11, by decide +kernel⟩ wd_1122 wd_1123 dX10_arrive_43 (sd_ia C dX10_arrive_46 (sd_iadd C dX10_arrive_47 (sd_is C dX10_arrive_48 (sd_aload_n C (i := 0) dX10_arrive_49 rfl (sd_iload_n C (i := 2) dX10_arrive_50 rfl (sd_iconst C (x := nI 4) dX10_arrive_51 (by decide +kernel) (sd_cS C ok_X10_stationAt ⟨by decide, by decide, wd_1097, wd_11, by decide +kernel⟩ wd_1095 wd_1096 dX10_arrive_52 (sd_dup2 C dX10_arrive_55 (sd_ia C dX10_arrive_56 (sd_aload_n C (i := 0) dX10_arrive_57 rfl (sd_iload_n C (i := 1) dX10_arrive_58 rfl (sd_iconst C (x := nI 3) dX10_arrive_59 (by decide +kernel) (sd_cS C ok_X10_sendAt ⟨by decide, by decide, wd_1124, wd_11, by decide +kernel⟩ wd_1122 wd_1123 dX10_arrive_60 (sd_ia C dX10_arrive_63 (sd_iadd C dX10_arrive_64 (sd_is C dX10_arrive_65 (sd_aload_n C (i := 0) dX10_arrive_66 rfl (sd_iload_n C (i := 1) dX10_arrive_67 rfl (sd_cS C ok_X10_dropSend ⟨by decide, by decide, wd_1142, wd_11, by decide +kernel⟩ wd_1140 wd_1141 dX10_arrive_68 (fun _ _ _ h => h)))))))))))))))))))))))))))))))))))))))))))))))
    (sd_iinc C (x := -1) dX10_arrive_71 (by decide +kernel) (by decide) (sd_goto C dX10_arrive_74 (tgt := 7) (by decide) (fun _ _ _ h => h)))
    (sd_aload_n C (i := 0) dX10_arrive_77 rfl (sd_bipush C (x := nI 9) dX10_arrive_78 (by decide +kernel) (sd_ia C dX10_arrive_80 (sd_if_le C dX10_arrive_81 (tgt := 153) (by decide) (fun _ _ _ h => h) (sd_aload_n C (i := 0) dX10_arrive_84 rfl (sd_sipush C (x := nI 144) dX10_arrive_85 (by decide +kernel) (sd_ia C dX10_arrive_88 (sd_bipush C (x := nI 100) dX10_arrive_89 (by decide +kernel) (sd_idiv C dX10_arrive_91 (sd_aload_n C (i := 0) dX10_arrive_92 rfl (sd_iconst C (x := nI 0) dX10_arrive_93 (by decide +kernel) (sd_ia C dX10_arrive_94 (sd_icmp_ne C dX10_arrive_95 (tgt := 153) (by decide) (fun _ _ _ h => h) (sd_aload_n C (i := 0) dX10_arrive_98 rfl (sd_aload_n C (i := 0) dX10_arrive_99 rfl (sd_sipush C (x := nI 144) dX10_arrive_100 (by decide +kernel) (sd_ia C dX10_arrive_103 (sd_bipush C (x := nI 10) dX10_arrive_104 (by decide +kernel) (sd_idiv C dX10_arrive_106 (sd_bipush C (x := nI 10) dX10_arrive_107 (by decide +kernel) (sd_irem C dX10_arrive_109 (sd_iconst C (x := nI 4) dX10_arrive_110 (by decide +kernel) (sd_aload_n C (i := 0) dX10_arrive_111 rfl (sd_sipush C (x := nI 144) dX10_arrive_112 (by decide +kernel) (sd_ia C dX10_arrive_115 (sd_bipush C (x := nI 10) dX10_arrive_116 (by decide +kernel) (sd_irem C dX10_arrive_118 (sd_iadd C dX10_arrive_119 (sd_cS C ok_X10_stationAt ⟨by decide, by decide, wd_1097, wd_11, by decide +kernel⟩ wd_1095 wd_1096 dX10_arrive_120 (sd_dup2 C dX10_arrive_123 (sd_ia C dX10_arrive_124 (sd_iconst C (x := nI 1) dX10_arrive_125 (by decide +kernel) (sd_iadd C dX10_arrive_126 (sd_is C dX10_arrive_127 (sd_aload_n C (i := 0) dX10_arrive_128 rfl (sd_bipush C (x := nI 7) dX10_arrive_129 (by decide +kernel) (sd_dup2 C dX10_arrive_131 (sd_ia C dX10_arrive_132 (sd_iconst C (x := nI 1) dX10_arrive_133 (by decide +kernel) (sd_iadd C dX10_arrive_134 (sd_is C dX10_arrive_135 (sd_aload_n C (i := 0) dX10_arrive_136 rfl (sd_iconst C (x := nI 3) dX10_arrive_137 (by decide +kernel) (sd_dup2 C dX10_arrive_138 (sd_ia C dX10_arrive_139 (sd_aload_n C (i := 0) dX10_arrive_140 rfl (sd_bipush C (x := nI 16) dX10_arrive_141 (by decide +kernel) (sd_ia C dX10_arrive_143 (sd_iadd C dX10_arrive_144 (sd_is C dX10_arrive_145 (sd_aload_n C (i := 0) dX10_arrive_146 rfl (sd_cS C ok_X10_dropFirstBack ⟨by decide, by decide, wd_1148, wd_11, by decide +kernel⟩ wd_1146 wd_1147 dX10_arrive_147 (sd_goto C dX10_arrive_150 (tgt := 77) (by decide) (fun _ _ _ h => h))))))))))))))))))))))))))))))))))))))))))))))))))))))
    (sd_vr C hr dX10_arrive_153)
theorem dX10_isItsHour_0 : decode cX10_isItsHour 0 = .ok (.aload_n 0, 1) := by decide +kernel
theorem dX10_isItsHour_1 : decode cX10_isItsHour 1 = .ok (.iload_n 1, 1) := by decide +kernel
theorem dX10_isItsHour_2 : decode cX10_isItsHour 2 = .ok (.iconst 1, 1) := by decide +kernel
theorem dX10_isItsHour_3 : decode cX10_isItsHour 3 = .ok (.invokestatic 52, 3) := by decide +kernel
theorem dX10_isItsHour_6 : decode cX10_isItsHour 6 = .ok (.iaload, 1) := by decide +kernel
theorem dX10_isItsHour_7 : decode cX10_isItsHour 7 = .ok (.aload_n 0, 1) := by decide +kernel
theorem dX10_isItsHour_8 : decode cX10_isItsHour 8 = .ok (.iconst 0, 1) := by decide +kernel
theorem dX10_isItsHour_9 : decode cX10_isItsHour 9 = .ok (.iaload, 1) := by decide +kernel
theorem dX10_isItsHour_10 : decode cX10_isItsHour 10 = .ok (.iconst 4, 1) := by decide +kernel
theorem dX10_isItsHour_11 : decode cX10_isItsHour 11 = .ok (.irem, 1) := by decide +kernel
theorem dX10_isItsHour_12 : decode cX10_isItsHour 12 = .ok (.ishr, 1) := by decide +kernel
theorem dX10_isItsHour_13 : decode cX10_isItsHour 13 = .ok (.iconst 1, 1) := by decide +kernel
theorem dX10_isItsHour_14 : decode cX10_isItsHour 14 = .ok (.iand, 1) := by decide +kernel
theorem dX10_isItsHour_15 : decode cX10_isItsHour 15 = .ok (.iconst 1, 1) := by decide +kernel
theorem dX10_isItsHour_16 : decode cX10_isItsHour 16 = .ok (.if_icmp .ne 7, 3) := by decide +kernel
theorem dX10_isItsHour_19 : decode cX10_isItsHour 19 = .ok (.iconst 1, 1) := by decide +kernel
theorem dX10_isItsHour_20 : decode cX10_isItsHour 20 = .ok (.goto 4, 3) := by decide +kernel
theorem dX10_isItsHour_23 : decode cX10_isItsHour 23 = .ok (.iconst 0, 1) := by decide +kernel
theorem dX10_isItsHour_24 : decode cX10_isItsHour 24 = .ok (.ireturn, 1) := by decide +kernel
def bX10_isItsHour_0 (w : ab_W) (s_X10_stationAt : ab_S) (M : Nat → ab_P) (Kn : Option Value → ab_H → Prop) : ab_P := ab_ald 0 (ab_ild 1 (ab_ci (nI 1) (ab_cN w 2 s_X10_stationAt (ab_ia w 11 (ab_ald 0 (ab_ci (nI 0) (ab_ia w 11 (ab_ci (nI 4) (ab_d2 (fun x y => x - x / y * y) (ab_b2 (fun x y => x >>> (y &&& 31)) (ab_ci (nI 1) (ab_b2 (fun x y => x &&& y) (ab_ci (nI 1) (ab_if2 (fun x y => ¬ x = y) (ab_ci (nI 0) (M 24)) (ab_ci (nI 1) (M 24))))))))))))))))
def bX10_isItsHour_24 (w : ab_W) (s_X10_stationAt : ab_S) (M : Nat → ab_P) (Kn : Option Value → ab_H → Prop) : ab_P := ab_zr Kn
set_option maxRecDepth 20000 in
set_option maxHeartbeats 2000000 in
theorem vc_X10_isItsHour {l : Launch} (hl : l.stackTraces = false) {w : ab_W} (hI : ab_Inj w) {mc : Nat} {σ : ab_H} {As : List Value} {Kn : Option Value → ab_H → Prop} {Kx : String → ab_H → Prop} {s_X10_stationAt : ab_S} (ok_X10_stationAt : ab_OkN l yX10_stationAt (Cond.code yX10_stationAt cX10_stationAt 2 (some .int)) 1 s_X10_stationAt) (hlen : (ab_xl As).length ≤ 2) (h : ∀ M : Nat → ab_P, (∀ L st σ, bX10_isItsHour_0 w s_X10_stationAt M Kn L st σ → M 0 L st σ) → (∀ L st σ, bX10_isItsHour_24 w s_X10_stationAt M Kn L st σ → M 24 L st σ) → M 0 (ab_pd 2 (ab_xl As)) [] σ) : ab_Met l yX10_isItsHour (Cond.code yX10_isItsHour cX10_isItsHour 2 (some .boolean)) 2 mc w σ As Kn Kx := by
  refine ab_enter (by decide) hl hI hlen (by decide) ?_
  intro p e R s m args below meth c C hno hr
  exact h _ (sd_aload_n C (i := 0) dX10_isItsHour_0 rfl (sd_iload_n C (i := 1) dX10_isItsHour_1 rfl (sd_iconst C (x := nI 1) dX10_isItsHour_2 (by decide +kernel) (sd_cS C ok_X10_stationAt ⟨by decide, by decide, wd_1097, wd_11, by decide +kernel⟩ wd_1095 wd_1096 dX10_isItsHour_3 (sd_ia C dX10_isItsHour_6 (sd_aload_n C (i := 0) dX10_isItsHour_7 rfl (sd_iconst C (x := nI 0) dX10_isItsHour_8 (by decide +kernel) (sd_ia C dX10_isItsHour_9 (sd_iconst C (x := nI 4) dX10_isItsHour_10 (by decide +kernel) (sd_irem C dX10_isItsHour_11 (sd_ishr C dX10_isItsHour_12 (sd_iconst C (x := nI 1) dX10_isItsHour_13 (by decide +kernel) (sd_iand C dX10_isItsHour_14 (sd_iconst C (x := nI 1) dX10_isItsHour_15 (by decide +kernel) (sd_icmp_ne C dX10_isItsHour_16 (tgt := 23) (by decide) (sd_iconst C (x := nI 0) dX10_isItsHour_23 (by decide +kernel) (fun _ _ _ h => h)) (sd_iconst C (x := nI 1) dX10_isItsHour_19 (by decide +kernel) (sd_goto C dX10_isItsHour_20 (tgt := 24) (by decide) (fun _ _ _ h => h))))))))))))))))))
    (sd_zr C hr dX10_isItsHour_24)
theorem dX10_deed_0 : decode cX10_deed 0 = .ok (.aload_n 0, 1) := by decide +kernel
theorem dX10_deed_1 : decode cX10_deed 1 = .ok (.iload_n 1, 1) := by decide +kernel
theorem dX10_deed_2 : decode cX10_deed 2 = .ok (.invokestatic 82, 3) := by decide +kernel
theorem dX10_deed_5 : decode cX10_deed 5 = .ok (.ifCond .ne 5, 3) := by decide +kernel
theorem dX10_deed_8 : decode cX10_deed 8 = .ok (.iconst 0, 1) := by decide +kernel
theorem dX10_deed_9 : decode cX10_deed 9 = .ok (.ireturn, 1) := by decide +kernel
theorem dX10_deed_10 : decode cX10_deed 10 = .ok (.aload_n 0, 1) := by decide +kernel
theorem dX10_deed_11 : decode cX10_deed 11 = .ok (.iload_n 1, 1) := by decide +kernel
theorem dX10_deed_12 : decode cX10_deed 12 = .ok (.iconst 3, 1) := by decide +kernel
theorem dX10_deed_13 : decode cX10_deed 13 = .ok (.invokestatic 52, 3) := by decide +kernel
theorem dX10_deed_16 : decode cX10_deed 16 = .ok (.iaload, 1) := by decide +kernel
theorem dX10_deed_17 : decode cX10_deed 17 = .ok (.aload_n 0, 1) := by decide +kernel
theorem dX10_deed_18 : decode cX10_deed 18 = .ok (.iload_n 1, 1) := by decide +kernel
theorem dX10_deed_19 : decode cX10_deed 19 = .ok (.iconst 2, 1) := by decide +kernel
theorem dX10_deed_20 : decode cX10_deed 20 = .ok (.invokestatic 52, 3) := by decide +kernel
theorem dX10_deed_23 : decode cX10_deed 23 = .ok (.iaload, 1) := by decide +kernel
theorem dX10_deed_24 : decode cX10_deed 24 = .ok (.if_icmp .ge 7, 3) := by decide +kernel
theorem dX10_deed_27 : decode cX10_deed 27 = .ok (.iconst 2, 1) := by decide +kernel
theorem dX10_deed_28 : decode cX10_deed 28 = .ok (.goto 17, 3) := by decide +kernel
theorem dX10_deed_31 : decode cX10_deed 31 = .ok (.aload_n 0, 1) := by decide +kernel
theorem dX10_deed_32 : decode cX10_deed 32 = .ok (.iload_n 1, 1) := by decide +kernel
theorem dX10_deed_33 : decode cX10_deed 33 = .ok (.invokestatic 86, 3) := by decide +kernel
theorem dX10_deed_36 : decode cX10_deed 36 = .ok (.iconst (-1), 1) := by decide +kernel
theorem dX10_deed_37 : decode cX10_deed 37 = .ok (.if_icmp .ne 7, 3) := by decide +kernel
theorem dX10_deed_40 : decode cX10_deed 40 = .ok (.iconst 3, 1) := by decide +kernel
theorem dX10_deed_41 : decode cX10_deed 41 = .ok (.goto 4, 3) := by decide +kernel
theorem dX10_deed_44 : decode cX10_deed 44 = .ok (.iconst 1, 1) := by decide +kernel
theorem dX10_deed_45 : decode cX10_deed 45 = .ok (.ireturn, 1) := by decide +kernel
def bX10_deed_0 (w : ab_W) (s_X10_isItsHour : ab_S) (s_X10_stationAt : ab_S) (s_X10_mostFlown : ab_S) (M : Nat → ab_P) (Kn : Option Value → ab_H → Prop) : ab_P := ab_ald 0 (ab_ild 1 (ab_cN w 2 s_X10_isItsHour (ab_if1 (fun x => ¬ x = 0) (ab_ald 0 (ab_ild 1 (ab_ci (nI 3) (ab_cN w 2 s_X10_stationAt (ab_ia w 11 (ab_ald 0 (ab_ild 1 (ab_ci (nI 2) (ab_cN w 2 s_X10_stationAt (ab_ia w 11 (ab_if2 (fun x y => y ≤ x) (ab_ald 0 (ab_ild 1 (ab_cN w 2 s_X10_mostFlown (ab_ci (-1) (ab_if2 (fun x y => ¬ x = y) (ab_ci (nI 1) (M 45)) (ab_ci (nI 3) (M 45))))))) (ab_ci (nI 2) (M 45))))))))))))) (ab_ci (nI 0) (ab_ir Kn)))))
def bX10_deed_45 (w : ab_W) (s_X10_isItsHour : ab_S) (s_X10_stationAt : ab_S) (s_X10_mostFlown : ab_S) (M : Nat → ab_P) (Kn : Option Value → ab_H → Prop) : ab_P := ab_ir Kn
set_option maxRecDepth 20000 in
set_option maxHeartbeats 2000000 in
theorem vc_X10_deed {l : Launch} (hl : l.stackTraces = false) {w : ab_W} (hI : ab_Inj w) {mc : Nat} {σ : ab_H} {As : List Value} {Kn : Option Value → ab_H → Prop} {Kx : String → ab_H → Prop} {s_X10_isItsHour : ab_S} (ok_X10_isItsHour : ab_OkN l yX10_isItsHour (Cond.code yX10_isItsHour cX10_isItsHour 2 (some .boolean)) 2 s_X10_isItsHour) {s_X10_stationAt : ab_S} (ok_X10_stationAt : ab_OkN l yX10_stationAt (Cond.code yX10_stationAt cX10_stationAt 2 (some .int)) 1 s_X10_stationAt) {s_X10_mostFlown : ab_S} (ok_X10_mostFlown : ab_OkN l yX10_mostFlown (Cond.code yX10_mostFlown cX10_mostFlown 4 (some .int)) 2 s_X10_mostFlown) (hlen : (ab_xl As).length ≤ 2) (h : ∀ M : Nat → ab_P, (∀ L st σ, bX10_deed_0 w s_X10_isItsHour s_X10_stationAt s_X10_mostFlown M Kn L st σ → M 0 L st σ) → (∀ L st σ, bX10_deed_45 w s_X10_isItsHour s_X10_stationAt s_X10_mostFlown M Kn L st σ → M 45 L st σ) → M 0 (ab_pd 2 (ab_xl As)) [] σ) : ab_Met l yX10_deed (Cond.code yX10_deed cX10_deed 2 (some .int)) 3 mc w σ As Kn Kx := by
  refine ab_enter (by decide) hl hI hlen (by decide) ?_
  intro p e R s m args below meth c C hno hr
  exact h _ (sd_aload_n C (i := 0) dX10_deed_0 rfl (sd_iload_n C (i := 1) dX10_deed_1 rfl (sd_cS C ok_X10_isItsHour ⟨by decide, by decide, wd_1154, wd_11, by decide +kernel⟩ wd_1152 wd_1153 dX10_deed_2 (sd_if_ne C dX10_deed_5 (tgt := 10) (by decide) (sd_aload_n C (i := 0) dX10_deed_10 rfl (sd_iload_n C (i := 1) dX10_deed_11 rfl (sd_iconst C (x := nI 3) dX10_deed_12 (by decide +kernel) (sd_cS C ok_X10_stationAt ⟨by decide, by decide, wd_1097, wd_11, by decide +kernel⟩ wd_1095 wd_1096 dX10_deed_13 (sd_ia C dX10_deed_16 (sd_aload_n C (i := 0) dX10_deed_17 rfl (sd_iload_n C (i := 1) dX10_deed_18 rfl (sd_iconst C (x := nI 2) dX10_deed_19 (by decide +kernel) (sd_cS C ok_X10_stationAt ⟨by decide, by decide, wd_1097, wd_11, by decide +kernel⟩ wd_1095 wd_1096 dX10_deed_20 (sd_ia C dX10_deed_23 (sd_icmp_ge C dX10_deed_24 (tgt := 31) (by decide) (sd_aload_n C (i := 0) dX10_deed_31 rfl (sd_iload_n C (i := 1) dX10_deed_32 rfl (sd_cS C ok_X10_mostFlown ⟨by decide, by decide, wd_1157, wd_11, by decide +kernel⟩ wd_1155 wd_1156 dX10_deed_33 (sd_iconst C (x := -1) dX10_deed_36 (by decide +kernel) (sd_icmp_ne C dX10_deed_37 (tgt := 44) (by decide) (sd_iconst C (x := nI 1) dX10_deed_44 (by decide +kernel) (fun _ _ _ h => h)) (sd_iconst C (x := nI 3) dX10_deed_40 (by decide +kernel) (sd_goto C dX10_deed_41 (tgt := 45) (by decide) (fun _ _ _ h => h)))))))) (sd_iconst C (x := nI 2) dX10_deed_27 (by decide +kernel) (sd_goto C dX10_deed_28 (tgt := 45) (by decide) (fun _ _ _ h => h)))))))))))))) (sd_iconst C (x := nI 0) dX10_deed_8 (by decide +kernel) (sd_ir C hr dX10_deed_9))))))
    (sd_ir C hr dX10_deed_45)
theorem dX10_tellGap_0 : decode cX10_tellGap 0 = .ok (.aload_n 0, 1) := by decide +kernel
theorem dX10_tellGap_1 : decode cX10_tellGap 1 = .ok (.bipush 11, 2) := by decide +kernel
theorem dX10_tellGap_3 : decode cX10_tellGap 3 = .ok (.iaload, 1) := by decide +kernel
theorem dX10_tellGap_4 : decode cX10_tellGap 4 = .ok (.bipush 12, 2) := by decide +kernel
theorem dX10_tellGap_6 : decode cX10_tellGap 6 = .ok (.if_icmp .ne 24, 3) := by decide +kernel
theorem dX10_tellGap_9 : decode cX10_tellGap 9 = .ok (.aload_n 0, 1) := by decide +kernel
theorem dX10_tellGap_10 : decode cX10_tellGap 10 = .ok (.sipush 133, 3) := by decide +kernel
theorem dX10_tellGap_13 : decode cX10_tellGap 13 = .ok (.aload_n 0, 1) := by decide +kernel
theorem dX10_tellGap_14 : decode cX10_tellGap 14 = .ok (.sipush 132, 3) := by decide +kernel
theorem dX10_tellGap_17 : decode cX10_tellGap 17 = .ok (.bipush 11, 2) := by decide +kernel
theorem dX10_tellGap_19 : decode cX10_tellGap 19 = .ok (.invokestatic 45, 3) := by decide +kernel
theorem dX10_tellGap_22 : decode cX10_tellGap 22 = .ok (.aload_n 0, 1) := by decide +kernel
theorem dX10_tellGap_23 : decode cX10_tellGap 23 = .ok (.bipush 11, 2) := by decide +kernel
theorem dX10_tellGap_25 : decode cX10_tellGap 25 = .ok (.dup2, 1) := by decide +kernel
theorem dX10_tellGap_26 : decode cX10_tellGap 26 = .ok (.iaload, 1) := by decide +kernel
theorem dX10_tellGap_27 : decode cX10_tellGap 27 = .ok (.iconst 1, 1) := by decide +kernel
theorem dX10_tellGap_28 : decode cX10_tellGap 28 = .ok (.isub, 1) := by decide +kernel
theorem dX10_tellGap_29 : decode cX10_tellGap 29 = .ok (.iastore, 1) := by decide +kernel
theorem dX10_tellGap_30 : decode cX10_tellGap 30 = .ok (.aload_n 0, 1) := by decide +kernel
theorem dX10_tellGap_31 : decode cX10_tellGap 31 = .ok (.sipush 132, 3) := by decide +kernel
theorem dX10_tellGap_34 : decode cX10_tellGap 34 = .ok (.aload_n 0, 1) := by decide +kernel
theorem dX10_tellGap_35 : decode cX10_tellGap 35 = .ok (.bipush 11, 2) := by decide +kernel
theorem dX10_tellGap_37 : decode cX10_tellGap 37 = .ok (.iaload, 1) := by decide +kernel
theorem dX10_tellGap_38 : decode cX10_tellGap 38 = .ok (.iadd, 1) := by decide +kernel
theorem dX10_tellGap_39 : decode cX10_tellGap 39 = .ok (.bipush 100, 2) := by decide +kernel
theorem dX10_tellGap_41 : decode cX10_tellGap 41 = .ok (.aload_n 0, 1) := by decide +kernel
theorem dX10_tellGap_42 : decode cX10_tellGap 42 = .ok (.iconst 0, 1) := by decide +kernel
theorem dX10_tellGap_43 : decode cX10_tellGap 43 = .ok (.iaload, 1) := by decide +kernel
theorem dX10_tellGap_44 : decode cX10_tellGap 44 = .ok (.imul, 1) := by decide +kernel
theorem dX10_tellGap_45 : decode cX10_tellGap 45 = .ok (.bipush 10, 2) := by decide +kernel
theorem dX10_tellGap_47 : decode cX10_tellGap 47 = .ok (.iload_n 1, 1) := by decide +kernel
theorem dX10_tellGap_48 : decode cX10_tellGap 48 = .ok (.imul, 1) := by decide +kernel
theorem dX10_tellGap_49 : decode cX10_tellGap 49 = .ok (.iadd, 1) := by decide +kernel
theorem dX10_tellGap_50 : decode cX10_tellGap 50 = .ok (.iload_n 2, 1) := by decide +kernel
theorem dX10_tellGap_51 : decode cX10_tellGap 51 = .ok (.iadd, 1) := by decide +kernel
theorem dX10_tellGap_52 : decode cX10_tellGap 52 = .ok (.iastore, 1) := by decide +kernel
theorem dX10_tellGap_53 : decode cX10_tellGap 53 = .ok (.aload_n 0, 1) := by decide +kernel
theorem dX10_tellGap_54 : decode cX10_tellGap 54 = .ok (.bipush 11, 2) := by decide +kernel
theorem dX10_tellGap_56 : decode cX10_tellGap 56 = .ok (.dup2, 1) := by decide +kernel
theorem dX10_tellGap_57 : decode cX10_tellGap 57 = .ok (.iaload, 1) := by decide +kernel
theorem dX10_tellGap_58 : decode cX10_tellGap 58 = .ok (.iconst 1, 1) := by decide +kernel
theorem dX10_tellGap_59 : decode cX10_tellGap 59 = .ok (.iadd, 1) := by decide +kernel
theorem dX10_tellGap_60 : decode cX10_tellGap 60 = .ok (.iastore, 1) := by decide +kernel
theorem dX10_tellGap_61 : decode cX10_tellGap 61 = .ok (.aload_n 0, 1) := by decide +kernel
theorem dX10_tellGap_62 : decode cX10_tellGap 62 = .ok (.iconst 5, 1) := by decide +kernel
theorem dX10_tellGap_63 : decode cX10_tellGap 63 = .ok (.dup2, 1) := by decide +kernel
theorem dX10_tellGap_64 : decode cX10_tellGap 64 = .ok (.iaload, 1) := by decide +kernel
theorem dX10_tellGap_65 : decode cX10_tellGap 65 = .ok (.iconst 1, 1) := by decide +kernel
theorem dX10_tellGap_66 : decode cX10_tellGap 66 = .ok (.iadd, 1) := by decide +kernel
theorem dX10_tellGap_67 : decode cX10_tellGap 67 = .ok (.iastore, 1) := by decide +kernel
theorem dX10_tellGap_68 : decode cX10_tellGap 68 = .ok (.aload_n 0, 1) := by decide +kernel
theorem dX10_tellGap_69 : decode cX10_tellGap 69 = .ok (.iload_n 1, 1) := by decide +kernel
theorem dX10_tellGap_70 : decode cX10_tellGap 70 = .ok (.bipush 10, 2) := by decide +kernel
theorem dX10_tellGap_72 : decode cX10_tellGap 72 = .ok (.invokestatic 52, 3) := by decide +kernel
theorem dX10_tellGap_75 : decode cX10_tellGap 75 = .ok (.dup2, 1) := by decide +kernel
theorem dX10_tellGap_76 : decode cX10_tellGap 76 = .ok (.iaload, 1) := by decide +kernel
theorem dX10_tellGap_77 : decode cX10_tellGap 77 = .ok (.iconst 1, 1) := by decide +kernel
theorem dX10_tellGap_78 : decode cX10_tellGap 78 = .ok (.iadd, 1) := by decide +kernel
theorem dX10_tellGap_79 : decode cX10_tellGap 79 = .ok (.iastore, 1) := by decide +kernel
theorem dX10_tellGap_80 : decode cX10_tellGap 80 = .ok (.return_, 1) := by decide +kernel
def bX10_tellGap_0 (w : ab_W) (s_X10_copy : ab_S) (s_X10_stationAt : ab_S) (M : Nat → ab_P) (Kn : Option Value → ab_H → Prop) : ab_P := ab_ald 0 (ab_ci (nI 11) (ab_ia w 11 (ab_ci (nI 12) (ab_if2 (fun x y => ¬ x = y) (M 30) (ab_ald 0 (ab_ci (nI 133) (ab_ald 0 (ab_ci (nI 132) (ab_ci (nI 11) (ab_cN w 5 s_X10_copy (ab_ald 0 (ab_ci (nI 11) (ab_dup2 (ab_ia w 11 (ab_ci (nI 1) (ab_b2 (fun x y => x - y) (ab_is w (M 30))))))))))))))))))
def bX10_tellGap_30 (w : ab_W) (s_X10_copy : ab_S) (s_X10_stationAt : ab_S) (M : Nat → ab_P) (Kn : Option Value → ab_H → Prop) : ab_P := ab_ald 0 (ab_ci (nI 132) (ab_ald 0 (ab_ci (nI 11) (ab_ia w 11 (ab_b2 (fun x y => x + y) (ab_ci (nI 100) (ab_ald 0 (ab_ci (nI 0) (ab_ia w 11 (ab_b2 (fun x y => x * y) (ab_ci (nI 10) (ab_ild 1 (ab_b2 (fun x y => x * y) (ab_b2 (fun x y => x + y) (ab_ild 2 (ab_b2 (fun x y => x + y) (ab_is w (ab_ald 0 (ab_ci (nI 11) (ab_dup2 (ab_ia w 11 (ab_ci (nI 1) (ab_b2 (fun x y => x + y) (ab_is w (ab_ald 0 (ab_ci (nI 5) (ab_dup2 (ab_ia w 11 (ab_ci (nI 1) (ab_b2 (fun x y => x + y) (ab_is w (ab_ald 0 (ab_ild 1 (ab_ci (nI 10) (ab_cN w 2 s_X10_stationAt (ab_dup2 (ab_ia w 11 (ab_ci (nI 1) (ab_b2 (fun x y => x + y) (ab_is w (ab_vr Kn)))))))))))))))))))))))))))))))))))))))))
set_option maxRecDepth 20000 in
set_option maxHeartbeats 2000000 in
theorem vc_X10_tellGap {l : Launch} (hl : l.stackTraces = false) {w : ab_W} (hI : ab_Inj w) {mc : Nat} {σ : ab_H} {As : List Value} {Kn : Option Value → ab_H → Prop} {Kx : String → ab_H → Prop} {s_X10_copy : ab_S} (ok_X10_copy : ab_OkN l yX10_copy (Cond.code yX10_copy cX10_copy 6 none) 1 s_X10_copy) {s_X10_stationAt : ab_S} (ok_X10_stationAt : ab_OkN l yX10_stationAt (Cond.code yX10_stationAt cX10_stationAt 2 (some .int)) 1 s_X10_stationAt) (hlen : (ab_xl As).length ≤ 3) (h : ∀ M : Nat → ab_P, (∀ L st σ, bX10_tellGap_0 w s_X10_copy s_X10_stationAt M Kn L st σ → M 0 L st σ) → (∀ L st σ, bX10_tellGap_30 w s_X10_copy s_X10_stationAt M Kn L st σ → M 30 L st σ) → M 0 (ab_pd 3 (ab_xl As)) [] σ) : ab_Met l yX10_tellGap (Cond.code yX10_tellGap cX10_tellGap 3 none) 2 mc w σ As Kn Kx := by
  refine ab_enter (by decide) hl hI hlen (by decide) ?_
  intro p e R s m args below meth c C hno hr
  exact h _ (sd_aload_n C (i := 0) dX10_tellGap_0 rfl (sd_bipush C (x := nI 11) dX10_tellGap_1 (by decide +kernel) (sd_ia C dX10_tellGap_3 (sd_bipush C (x := nI 12) dX10_tellGap_4 (by decide +kernel) (sd_icmp_ne C dX10_tellGap_6 (tgt := 30) (by decide) (fun _ _ _ h => h) (sd_aload_n C (i := 0) dX10_tellGap_9 rfl (sd_sipush C (x := nI 133) dX10_tellGap_10 (by decide +kernel) (sd_aload_n C (i := 0) dX10_tellGap_13 rfl (sd_sipush C (x := nI 132) dX10_tellGap_14 (by decide +kernel) (sd_bipush C (x := nI 11) dX10_tellGap_17 (by decide +kernel) (sd_cS C ok_X10_copy ⟨by decide, by decide, wd_1145, wd_11, by decide +kernel⟩ wd_1143 wd_1144 dX10_tellGap_19 (sd_aload_n C (i := 0) dX10_tellGap_22 rfl (sd_bipush C (x := nI 11) dX10_tellGap_23 (by decide +kernel) (sd_dup2 C dX10_tellGap_25 (sd_ia C dX10_tellGap_26 (sd_iconst C (x := nI 1) dX10_tellGap_27 (by decide +kernel) (sd_isub C dX10_tellGap_28 (sd_is C dX10_tellGap_29 (fun _ _ _ h => h)))))))))))))))))))
    (sd_aload_n C (i := 0) dX10_tellGap_30 rfl (sd_sipush C (x := nI 132) dX10_tellGap_31 (by decide +kernel) (sd_aload_n C (i := 0) dX10_tellGap_34 rfl (sd_bipush C (x := nI 11) dX10_tellGap_35 (by decide +kernel) (sd_ia C dX10_tellGap_37 (sd_iadd C dX10_tellGap_38 (sd_bipush C (x := nI 100) dX10_tellGap_39 (by decide +kernel) (sd_aload_n C (i := 0) dX10_tellGap_41 rfl (sd_iconst C (x := nI 0) dX10_tellGap_42 (by decide +kernel) (sd_ia C dX10_tellGap_43 (sd_imul C dX10_tellGap_44 (sd_bipush C (x := nI 10) dX10_tellGap_45 (by decide +kernel) (sd_iload_n C (i := 1) dX10_tellGap_47 rfl (sd_imul C dX10_tellGap_48 (sd_iadd C dX10_tellGap_49 (sd_iload_n C (i := 2) dX10_tellGap_50 rfl (sd_iadd C dX10_tellGap_51 (sd_is C dX10_tellGap_52 (sd_aload_n C (i := 0) dX10_tellGap_53 rfl (sd_bipush C (x := nI 11) dX10_tellGap_54 (by decide +kernel) (sd_dup2 C dX10_tellGap_56 (sd_ia C dX10_tellGap_57 (sd_iconst C (x := nI 1) dX10_tellGap_58 (by decide +kernel) (sd_iadd C dX10_tellGap_59 (sd_is C dX10_tellGap_60 (sd_aload_n C (i := 0) dX10_tellGap_61 rfl (sd_iconst C (x := nI 5) dX10_tellGap_62 (by decide +kernel) (sd_dup2 C dX10_tellGap_63 (sd_ia C dX10_tellGap_64 (sd_iconst C (x := nI 1) dX10_tellGap_65 (by decide +kernel) (sd_iadd C dX10_tellGap_66 (sd_is C dX10_tellGap_67 (sd_aload_n C (i := 0) dX10_tellGap_68 rfl (sd_iload_n C (i := 1) dX10_tellGap_69 rfl (sd_bipush C (x := nI 10) dX10_tellGap_70 (by decide +kernel) (sd_cS C ok_X10_stationAt ⟨by decide, by decide, wd_1097, wd_11, by decide +kernel⟩ wd_1095 wd_1096 dX10_tellGap_72 (sd_dup2 C dX10_tellGap_75 (sd_ia C dX10_tellGap_76 (sd_iconst C (x := nI 1) dX10_tellGap_77 (by decide +kernel) (sd_iadd C dX10_tellGap_78 (sd_is C dX10_tellGap_79 (sd_vr C hr dX10_tellGap_80))))))))))))))))))))))))))))))))))))))))))
theorem dX10_release_0 : decode cX10_release 0 = .ok (.aload_n 0, 1) := by decide +kernel
theorem dX10_release_1 : decode cX10_release 1 = .ok (.iload_n 1, 1) := by decide +kernel
theorem dX10_release_2 : decode cX10_release 2 = .ok (.invokestatic 86, 3) := by decide +kernel
theorem dX10_release_5 : decode cX10_release 5 = .ok (.istore_n 2, 1) := by decide +kernel
theorem dX10_release_6 : decode cX10_release 6 = .ok (.aload_n 0, 1) := by decide +kernel
theorem dX10_release_7 : decode cX10_release 7 = .ok (.iload_n 1, 1) := by decide +kernel
theorem dX10_release_8 : decode cX10_release 8 = .ok (.iconst 3, 1) := by decide +kernel
theorem dX10_release_9 : decode cX10_release 9 = .ok (.invokestatic 52, 3) := by decide +kernel
theorem dX10_release_12 : decode cX10_release 12 = .ok (.dup2, 1) := by decide +kernel
theorem dX10_release_13 : decode cX10_release 13 = .ok (.iaload, 1) := by decide +kernel
theorem dX10_release_14 : decode cX10_release 14 = .ok (.aload_n 0, 1) := by decide +kernel
theorem dX10_release_15 : decode cX10_release 15 = .ok (.iload_n 1, 1) := by decide +kernel
theorem dX10_release_16 : decode cX10_release 16 = .ok (.iconst 2, 1) := by decide +kernel
theorem dX10_release_17 : decode cX10_release 17 = .ok (.invokestatic 52, 3) := by decide +kernel
theorem dX10_release_20 : decode cX10_release 20 = .ok (.iaload, 1) := by decide +kernel
theorem dX10_release_21 : decode cX10_release 21 = .ok (.isub, 1) := by decide +kernel
theorem dX10_release_22 : decode cX10_release 22 = .ok (.iastore, 1) := by decide +kernel
theorem dX10_release_23 : decode cX10_release 23 = .ok (.aload_n 0, 1) := by decide +kernel
theorem dX10_release_24 : decode cX10_release 24 = .ok (.iload_n 1, 1) := by decide +kernel
theorem dX10_release_25 : decode cX10_release 25 = .ok (.iconst 4, 1) := by decide +kernel
theorem dX10_release_26 : decode cX10_release 26 = .ok (.iload_n 2, 1) := by decide +kernel
theorem dX10_release_27 : decode cX10_release 27 = .ok (.iadd, 1) := by decide +kernel
theorem dX10_release_28 : decode cX10_release 28 = .ok (.invokestatic 52, 3) := by decide +kernel
theorem dX10_release_31 : decode cX10_release 31 = .ok (.dup2, 1) := by decide +kernel
theorem dX10_release_32 : decode cX10_release 32 = .ok (.iaload, 1) := by decide +kernel
theorem dX10_release_33 : decode cX10_release 33 = .ok (.iconst 1, 1) := by decide +kernel
theorem dX10_release_34 : decode cX10_release 34 = .ok (.isub, 1) := by decide +kernel
theorem dX10_release_35 : decode cX10_release 35 = .ok (.iastore, 1) := by decide +kernel
theorem dX10_release_36 : decode cX10_release 36 = .ok (.aload_n 0, 1) := by decide +kernel
theorem dX10_release_37 : decode cX10_release 37 = .ok (.iload_n 1, 1) := by decide +kernel
theorem dX10_release_38 : decode cX10_release 38 = .ok (.bipush 9, 2) := by decide +kernel
theorem dX10_release_40 : decode cX10_release 40 = .ok (.invokestatic 52, 3) := by decide +kernel
theorem dX10_release_43 : decode cX10_release 43 = .ok (.dup2, 1) := by decide +kernel
theorem dX10_release_44 : decode cX10_release 44 = .ok (.iaload, 1) := by decide +kernel
theorem dX10_release_45 : decode cX10_release 45 = .ok (.iconst 1, 1) := by decide +kernel
theorem dX10_release_46 : decode cX10_release 46 = .ok (.iadd, 1) := by decide +kernel
theorem dX10_release_47 : decode cX10_release 47 = .ok (.iastore, 1) := by decide +kernel
theorem dX10_release_48 : decode cX10_release 48 = .ok (.aload_n 0, 1) := by decide +kernel
theorem dX10_release_49 : decode cX10_release 49 = .ok (.iconst 4, 1) := by decide +kernel
theorem dX10_release_50 : decode cX10_release 50 = .ok (.dup2, 1) := by decide +kernel
theorem dX10_release_51 : decode cX10_release 51 = .ok (.iaload, 1) := by decide +kernel
theorem dX10_release_52 : decode cX10_release 52 = .ok (.iconst 1, 1) := by decide +kernel
theorem dX10_release_53 : decode cX10_release 53 = .ok (.iadd, 1) := by decide +kernel
theorem dX10_release_54 : decode cX10_release 54 = .ok (.iastore, 1) := by decide +kernel
theorem dX10_release_55 : decode cX10_release 55 = .ok (.aload_n 0, 1) := by decide +kernel
theorem dX10_release_56 : decode cX10_release 56 = .ok (.iload_n 1, 1) := by decide +kernel
theorem dX10_release_57 : decode cX10_release 57 = .ok (.aload_n 0, 1) := by decide +kernel
theorem dX10_release_58 : decode cX10_release 58 = .ok (.iconst 0, 1) := by decide +kernel
theorem dX10_release_59 : decode cX10_release 59 = .ok (.iaload, 1) := by decide +kernel
theorem dX10_release_60 : decode cX10_release 60 = .ok (.iconst 4, 1) := by decide +kernel
theorem dX10_release_61 : decode cX10_release 61 = .ok (.irem, 1) := by decide +kernel
theorem dX10_release_62 : decode cX10_release 62 = .ok (.invokestatic 89, 3) := by decide +kernel
theorem dX10_release_65 : decode cX10_release 65 = .ok (.istore_n 3, 1) := by decide +kernel
theorem dX10_release_66 : decode cX10_release 66 = .ok (.iload_n 3, 1) := by decide +kernel
theorem dX10_release_67 : decode cX10_release 67 = .ok (.iconst (-1), 1) := by decide +kernel
theorem dX10_release_68 : decode cX10_release 68 = .ok (.if_icmp .ne 7, 3) := by decide +kernel
theorem dX10_release_71 : decode cX10_release 71 = .ok (.iconst (-1), 1) := by decide +kernel
theorem dX10_release_72 : decode cX10_release 72 = .ok (.goto 8, 3) := by decide +kernel
theorem dX10_release_75 : decode cX10_release 75 = .ok (.aload_n 0, 1) := by decide +kernel
theorem dX10_release_76 : decode cX10_release 76 = .ok (.iload_n 3, 1) := by decide +kernel
theorem dX10_release_77 : decode cX10_release 77 = .ok (.invokestatic 93, 3) := by decide +kernel
theorem dX10_release_80 : decode cX10_release 80 = .ok (.istore 4, 2) := by decide +kernel
theorem dX10_release_82 : decode cX10_release 82 = .ok (.iload 4, 2) := by decide +kernel
theorem dX10_release_84 : decode cX10_release 84 = .ok (.iconst (-1), 1) := by decide +kernel
theorem dX10_release_85 : decode cX10_release 85 = .ok (.if_icmp .ne 12, 3) := by decide +kernel
theorem dX10_release_88 : decode cX10_release 88 = .ok (.aload_n 0, 1) := by decide +kernel
theorem dX10_release_89 : decode cX10_release 89 = .ok (.bipush 6, 2) := by decide +kernel
theorem dX10_release_91 : decode cX10_release 91 = .ok (.dup2, 1) := by decide +kernel
theorem dX10_release_92 : decode cX10_release 92 = .ok (.iaload, 1) := by decide +kernel
theorem dX10_release_93 : decode cX10_release 93 = .ok (.iconst 1, 1) := by decide +kernel
theorem dX10_release_94 : decode cX10_release 94 = .ok (.iadd, 1) := by decide +kernel
theorem dX10_release_95 : decode cX10_release 95 = .ok (.iastore, 1) := by decide +kernel
theorem dX10_release_96 : decode cX10_release 96 = .ok (.return_, 1) := by decide +kernel
theorem dX10_release_97 : decode cX10_release 97 = .ok (.aload_n 0, 1) := by decide +kernel
theorem dX10_release_98 : decode cX10_release 98 = .ok (.iload 4, 2) := by decide +kernel
theorem dX10_release_100 : decode cX10_release 100 = .ok (.iconst 3, 1) := by decide +kernel
theorem dX10_release_101 : decode cX10_release 101 = .ok (.invokestatic 66, 3) := by decide +kernel
theorem dX10_release_104 : decode cX10_release 104 = .ok (.dup2, 1) := by decide +kernel
theorem dX10_release_105 : decode cX10_release 105 = .ok (.iaload, 1) := by decide +kernel
theorem dX10_release_106 : decode cX10_release 106 = .ok (.iconst 1, 1) := by decide +kernel
theorem dX10_release_107 : decode cX10_release 107 = .ok (.iadd, 1) := by decide +kernel
theorem dX10_release_108 : decode cX10_release 108 = .ok (.iastore, 1) := by decide +kernel
theorem dX10_release_109 : decode cX10_release 109 = .ok (.iload_n 2, 1) := by decide +kernel
theorem dX10_release_110 : decode cX10_release 110 = .ok (.iconst 1, 1) := by decide +kernel
theorem dX10_release_111 : decode cX10_release 111 = .ok (.iadd, 1) := by decide +kernel
theorem dX10_release_112 : decode cX10_release 112 = .ok (.aload_n 0, 1) := by decide +kernel
theorem dX10_release_113 : decode cX10_release 113 = .ok (.bipush 13, 2) := by decide +kernel
theorem dX10_release_115 : decode cX10_release 115 = .ok (.iaload, 1) := by decide +kernel
theorem dX10_release_116 : decode cX10_release 116 = .ok (.if_icmp .lt 14, 3) := by decide +kernel
theorem dX10_release_119 : decode cX10_release 119 = .ok (.aload_n 0, 1) := by decide +kernel
theorem dX10_release_120 : decode cX10_release 120 = .ok (.bipush 8, 2) := by decide +kernel
theorem dX10_release_122 : decode cX10_release 122 = .ok (.dup2, 1) := by decide +kernel
theorem dX10_release_123 : decode cX10_release 123 = .ok (.iaload, 1) := by decide +kernel
theorem dX10_release_124 : decode cX10_release 124 = .ok (.iconst 1, 1) := by decide +kernel
theorem dX10_release_125 : decode cX10_release 125 = .ok (.iadd, 1) := by decide +kernel
theorem dX10_release_126 : decode cX10_release 126 = .ok (.iastore, 1) := by decide +kernel
theorem dX10_release_127 : decode cX10_release 127 = .ok (.goto 28, 3) := by decide +kernel
theorem dX10_release_130 : decode cX10_release 130 = .ok (.aload_n 0, 1) := by decide +kernel
theorem dX10_release_131 : decode cX10_release 131 = .ok (.aload_n 0, 1) := by decide +kernel
theorem dX10_release_132 : decode cX10_release 132 = .ok (.iconst 0, 1) := by decide +kernel
theorem dX10_release_133 : decode cX10_release 133 = .ok (.iaload, 1) := by decide +kernel
theorem dX10_release_134 : decode cX10_release 134 = .ok (.aload_n 0, 1) := by decide +kernel
theorem dX10_release_135 : decode cX10_release 135 = .ok (.iload 4, 2) := by decide +kernel
theorem dX10_release_137 : decode cX10_release 137 = .ok (.iconst 2, 1) := by decide +kernel
theorem dX10_release_138 : decode cX10_release 138 = .ok (.invokestatic 66, 3) := by decide +kernel
theorem dX10_release_141 : decode cX10_release 141 = .ok (.iaload, 1) := by decide +kernel
theorem dX10_release_142 : decode cX10_release 142 = .ok (.iadd, 1) := by decide +kernel
theorem dX10_release_143 : decode cX10_release 143 = .ok (.aload_n 0, 1) := by decide +kernel
theorem dX10_release_144 : decode cX10_release 144 = .ok (.iload 4, 2) := by decide +kernel
theorem dX10_release_146 : decode cX10_release 146 = .ok (.invokestatic 96, 3) := by decide +kernel
theorem dX10_release_149 : decode cX10_release 149 = .ok (.iload_n 2, 1) := by decide +kernel
theorem dX10_release_150 : decode cX10_release 150 = .ok (.iconst 1, 1) := by decide +kernel
theorem dX10_release_151 : decode cX10_release 151 = .ok (.iadd, 1) := by decide +kernel
theorem dX10_release_152 : decode cX10_release 152 = .ok (.invokestatic 99, 3) := by decide +kernel
theorem dX10_release_155 : decode cX10_release 155 = .ok (.return_, 1) := by decide +kernel
def bX10_release_0 (w : ab_W) (s_X10_mostFlown : ab_S) (s_X10_stationAt : ab_S) (s_X10_landingOf : ab_S) (s_X10_finderOf : ab_S) (s_X10_finderAt : ab_S) (s_X10_stationOf : ab_S) (s_X10_sendBack : ab_S) (M : Nat → ab_P) (Kn : Option Value → ab_H → Prop) : ab_P := ab_ald 0 (ab_ild 1 (ab_cN w 2 s_X10_mostFlown (ab_ist 2 (ab_ald 0 (ab_ild 1 (ab_ci (nI 3) (ab_cN w 2 s_X10_stationAt (ab_dup2 (ab_ia w 11 (ab_ald 0 (ab_ild 1 (ab_ci (nI 2) (ab_cN w 2 s_X10_stationAt (ab_ia w 11 (ab_b2 (fun x y => x - y) (ab_is w (ab_ald 0 (ab_ild 1 (ab_ci (nI 4) (ab_ild 2 (ab_b2 (fun x y => x + y) (ab_cN w 2 s_X10_stationAt (ab_dup2 (ab_ia w 11 (ab_ci (nI 1) (ab_b2 (fun x y => x - y) (ab_is w (ab_ald 0 (ab_ild 1 (ab_ci (nI 9) (ab_cN w 2 s_X10_stationAt (ab_dup2 (ab_ia w 11 (ab_ci (nI 1) (ab_b2 (fun x y => x + y) (ab_is w (ab_ald 0 (ab_ci (nI 4) (ab_dup2 (ab_ia w 11 (ab_ci (nI 1) (ab_b2 (fun x y => x + y) (ab_is w (ab_ald 0 (ab_ild 1 (ab_ald 0 (ab_ci (nI 0) (ab_ia w 11 (ab_ci (nI 4) (ab_d2 (fun x y => x - x / y * y) (ab_cN w 3 s_X10_landingOf (ab_ist 3 (ab_ild 3 (ab_ci (-1) (ab_if2 (fun x y => ¬ x = y) (ab_ald 0 (ab_ild 3 (ab_cN w 2 s_X10_finderOf (M 80)))) (ab_ci (-1) (M 80)))))))))))))))))))))))))))))))))))))))))))))))))))))))))
def bX10_release_80 (w : ab_W) (s_X10_mostFlown : ab_S) (s_X10_stationAt : ab_S) (s_X10_landingOf : ab_S) (s_X10_finderOf : ab_S) (s_X10_finderAt : ab_S) (s_X10_stationOf : ab_S) (s_X10_sendBack : ab_S) (M : Nat → ab_P) (Kn : Option Value → ab_H → Prop) : ab_P := ab_ist 4 (ab_ild 4 (ab_ci (-1) (ab_if2 (fun x y => ¬ x = y) (ab_ald 0 (ab_ild 4 (ab_ci (nI 3) (ab_cN w 2 s_X10_finderAt (ab_dup2 (ab_ia w 11 (ab_ci (nI 1) (ab_b2 (fun x y => x + y) (ab_is w (ab_ild 2 (ab_ci (nI 1) (ab_b2 (fun x y => x + y) (ab_ald 0 (ab_ci (nI 13) (ab_ia w 11 (ab_if2 (fun x y => x < y) (ab_ald 0 (ab_ald 0 (ab_ci (nI 0) (ab_ia w 11 (ab_ald 0 (ab_ild 4 (ab_ci (nI 2) (ab_cN w 2 s_X10_finderAt (ab_ia w 11 (ab_b2 (fun x y => x + y) (ab_ald 0 (ab_ild 4 (ab_cN w 2 s_X10_stationOf (ab_ild 2 (ab_ci (nI 1) (ab_b2 (fun x y => x + y) (ab_cN w 4 s_X10_sendBack (M 155)))))))))))))))))) (ab_ald 0 (ab_ci (nI 8) (ab_dup2 (ab_ia w 11 (ab_ci (nI 1) (ab_b2 (fun x y => x + y) (ab_is w (M 155)))))))))))))))))))))))) (ab_ald 0 (ab_ci (nI 6) (ab_dup2 (ab_ia w 11 (ab_ci (nI 1) (ab_b2 (fun x y => x + y) (ab_is w (ab_vr Kn)))))))))))
def bX10_release_155 (w : ab_W) (s_X10_mostFlown : ab_S) (s_X10_stationAt : ab_S) (s_X10_landingOf : ab_S) (s_X10_finderOf : ab_S) (s_X10_finderAt : ab_S) (s_X10_stationOf : ab_S) (s_X10_sendBack : ab_S) (M : Nat → ab_P) (Kn : Option Value → ab_H → Prop) : ab_P := ab_vr Kn
set_option maxRecDepth 20000 in
set_option maxHeartbeats 2000000 in
theorem vc_X10_release {l : Launch} (hl : l.stackTraces = false) {w : ab_W} (hI : ab_Inj w) {mc : Nat} {σ : ab_H} {As : List Value} {Kn : Option Value → ab_H → Prop} {Kx : String → ab_H → Prop} {s_X10_mostFlown : ab_S} (ok_X10_mostFlown : ab_OkN l yX10_mostFlown (Cond.code yX10_mostFlown cX10_mostFlown 4 (some .int)) 2 s_X10_mostFlown) {s_X10_stationAt : ab_S} (ok_X10_stationAt : ab_OkN l yX10_stationAt (Cond.code yX10_stationAt cX10_stationAt 2 (some .int)) 1 s_X10_stationAt) {s_X10_landingOf : ab_S} (ok_X10_landingOf : ab_OkN l yX10_landingOf (Cond.code yX10_landingOf cX10_landingOf 4 (some .int)) 2 s_X10_landingOf) {s_X10_finderOf : ab_S} (ok_X10_finderOf : ab_OkN l yX10_finderOf (Cond.code yX10_finderOf cX10_finderOf 6 (some .int)) 2 s_X10_finderOf) {s_X10_finderAt : ab_S} (ok_X10_finderAt : ab_OkN l yX10_finderAt (Cond.code yX10_finderAt cX10_finderAt 2 (some .int)) 1 s_X10_finderAt) {s_X10_stationOf : ab_S} (ok_X10_stationOf : ab_OkN l yX10_stationOf (Cond.code yX10_stationOf cX10_stationOf 5 (some .int)) 2 s_X10_stationOf) {s_X10_sendBack : ab_S} (ok_X10_sendBack : ab_OkN l yX10_sendBack (Cond.code yX10_sendBack cX10_sendBack 5 none) 1 s_X10_sendBack) (hlen : (ab_xl As).length ≤ 5) (h : ∀ M : Nat → ab_P, (∀ L st σ, bX10_release_0 w s_X10_mostFlown s_X10_stationAt s_X10_landingOf s_X10_finderOf s_X10_finderAt s_X10_stationOf s_X10_sendBack M Kn L st σ → M 0 L st σ) → (∀ L st σ, bX10_release_80 w s_X10_mostFlown s_X10_stationAt s_X10_landingOf s_X10_finderOf s_X10_finderAt s_X10_stationOf s_X10_sendBack M Kn L st σ → M 80 L st σ) → (∀ L st σ, bX10_release_155 w s_X10_mostFlown s_X10_stationAt s_X10_landingOf s_X10_finderOf s_X10_finderAt s_X10_stationOf s_X10_sendBack M Kn L st σ → M 155 L st σ) → M 0 (ab_pd 5 (ab_xl As)) [] σ) : ab_Met l yX10_release (Cond.code yX10_release cX10_release 5 none) 3 mc w σ As Kn Kx := by
  refine ab_enter (by decide) hl hI hlen (by decide) ?_
  intro p e R s m args below meth c C hno hr
  exact h _ (sd_aload_n C (i := 0) dX10_release_0 rfl (sd_iload_n C (i := 1) dX10_release_1 rfl (sd_cS C ok_X10_mostFlown ⟨by decide, by decide, wd_1157, wd_11, by decide +kernel⟩ wd_1155 wd_1156 dX10_release_2 (sd_istore_n C (i := 2) dX10_release_5 rfl (by decide) (sd_aload_n C (i := 0) dX10_release_6 rfl (sd_iload_n C (i := 1) dX10_release_7 rfl (sd_iconst C (x := nI 3) dX10_release_8 (by decide +kernel) (sd_cS C ok_X10_stationAt ⟨by decide, by decide, wd_1097, wd_11, by decide +kernel⟩ wd_1095 wd_1096 dX10_release_9 (sd_dup2 C dX10_release_12 (sd_ia C dX10_release_13 (sd_aload_n C (i := 0) dX10_release_14 rfl (sd_iload_n C (i := 1) dX10_release_15 rfl (sd_iconst C (x := nI 2) dX10_release_16 (by decide +kernel) (sd_cS C ok_X10_stationAt ⟨by decide, by decide, wd_1097, wd_11, by decide +kernel⟩ wd_1095 wd_1096 dX10_release_17 (sd_ia C dX10_release_20 (sd_isub C dX10_release_21 (sd_is C dX10_release_22 (sd_aload_n C (i := 0) dX10_release_23 rfl (sd_iload_n C (i := 1) dX10_release_24 rfl (sd_iconst C (x := nI 4) dX10_release_25 (by decide +kernel) (sd_iload_n C (i := 2) dX10_release_26 rfl (sd_iadd C dX10_release_27 (sd_cS C ok_X10_stationAt ⟨by decide, by decide, wd_1097, wd_11, by decide +kernel⟩ wd_1095 wd_1096 dX10_release_28 (sd_dup2 C dX10_release_31 (sd_ia C dX10_release_32 (sd_iconst C (x := nI 1) dX10_release_33 (by decide +kernel) (sd_isub C dX10_release_34 (sd_is C dX10_release_35 (sd_aload_n C (i := 0) dX10_release_36 rfl (sd_iload_n C (i := 1) dX10_release_37 rfl (sd_bipush C (x := nI 9) dX10_release_38 (by decide +kernel) (sd_cS C ok_X10_stationAt ⟨by decide, by decide, wd_1097, wd_11, by decide +kernel⟩ wd_1095 wd_1096 dX10_release_40 (sd_dup2 C dX10_release_43 (sd_ia C dX10_release_44 (sd_iconst C (x := nI 1) dX10_release_45 (by decide +kernel) (sd_iadd C dX10_release_46 (sd_is C dX10_release_47 (sd_aload_n C (i := 0) dX10_release_48 rfl (sd_iconst C (x := nI 4) dX10_release_49 (by decide +kernel) (sd_dup2 C dX10_release_50 (sd_ia C dX10_release_51 (sd_iconst C (x := nI 1) dX10_release_52 (by decide +kernel) (sd_iadd C dX10_release_53 (sd_is C dX10_release_54 (sd_aload_n C (i := 0) dX10_release_55 rfl (sd_iload_n C (i := 1) dX10_release_56 rfl (sd_aload_n C (i := 0) dX10_release_57 rfl (sd_iconst C (x := nI 0) dX10_release_58 (by decide +kernel) (sd_ia C dX10_release_59 (sd_iconst C (x := nI 4) dX10_release_60 (by decide +kernel) (sd_irem C dX10_release_61 (sd_cS C ok_X10_landingOf ⟨by decide, by decide, wd_1163, wd_11, by decide +kernel⟩ wd_1161 wd_1162 dX10_release_62 (sd_istore_n C (i := 3) dX10_release_65 rfl (by decide) (sd_iload_n C (i := 3) dX10_release_66 rfl (sd_iconst C (x := -1) dX10_release_67 (by decide +kernel) (sd_icmp_ne C dX10_release_68 (tgt := 75) (by decide) (sd_aload_n C (i := 0) dX10_release_75 rfl (sd_iload_n C (i := 3) dX10_release_76 rfl (sd_cS C ok_X10_finderOf ⟨by decide, by decide, wd_1167, wd_11, by decide +kernel⟩ wd_1165 wd_1166 dX10_release_77 (fun _ _ _ h => h)))) (sd_iconst C (x := -1) dX10_release_71 (by decide +kernel) (sd_goto C dX10_release_72 (tgt := 80) (by decide) (fun _ _ _ h => h)))))))))))))))))))))))))))))))))))))))))))))))))))))))))))
    (sd_istore C dX10_release_80 (by decide) (sd_iload C dX10_release_82 (sd_iconst C (x := -1) dX10_release_84 (by decide +kernel) (sd_icmp_ne C dX10_release_85 (tgt := 97) (by decide) (sd_aload_n C (i := 0) dX10_release_97 rfl (sd_iload C dX10_release_98 (sd_iconst C (x := nI 3) dX10_release_100 (by decide +kernel) (sd_cS C ok_X10_finderAt ⟨by decide, by decide, wd_1107, wd_11, by decide +kernel⟩ wd_1105 wd_1106 dX10_release_101 (sd_dup2 C dX10_release_104 (sd_ia C dX10_release_105 (sd_iconst C (x := nI 1) dX10_release_106 (by decide +kernel) (sd_iadd C dX10_release_107 (sd_is C dX10_release_108 (sd_iload_n C (i := 2) dX10_release_109 rfl (sd_iconst C (x := nI 1) dX10_release_110 (by decide +kernel) (sd_iadd C dX10_release_111 (sd_aload_n C (i := 0) dX10_release_112 rfl (sd_bipush C (x := nI 13) dX10_release_113 (by decide +kernel) (sd_ia C dX10_release_115 (sd_icmp_lt C dX10_release_116 (tgt := 130) (by decide) (sd_aload_n C (i := 0) dX10_release_130 rfl (sd_aload_n C (i := 0) dX10_release_131 rfl (sd_iconst C (x := nI 0) dX10_release_132 (by decide +kernel) (sd_ia C dX10_release_133 (sd_aload_n C (i := 0) dX10_release_134 rfl (sd_iload C dX10_release_135 (sd_iconst C (x := nI 2) dX10_release_137 (by decide +kernel) (sd_cS C ok_X10_finderAt ⟨by decide, by decide, wd_1107, wd_11, by decide +kernel⟩ wd_1105 wd_1106 dX10_release_138 (sd_ia C dX10_release_141 (sd_iadd C dX10_release_142 (sd_aload_n C (i := 0) dX10_release_143 rfl (sd_iload C dX10_release_144 (sd_cS C ok_X10_stationOf ⟨by decide, by decide, wd_1173, wd_11, by decide +kernel⟩ wd_1171 wd_1172 dX10_release_146 (sd_iload_n C (i := 2) dX10_release_149 rfl (sd_iconst C (x := nI 1) dX10_release_150 (by decide +kernel) (sd_iadd C dX10_release_151 (sd_cS C ok_X10_sendBack ⟨by decide, by decide, wd_1176, wd_11, by decide +kernel⟩ wd_1174 wd_1175 dX10_release_152 (fun _ _ _ h => h)))))))))))))))))) (sd_aload_n C (i := 0) dX10_release_119 rfl (sd_bipush C (x := nI 8) dX10_release_120 (by decide +kernel) (sd_dup2 C dX10_release_122 (sd_ia C dX10_release_123 (sd_iconst C (x := nI 1) dX10_release_124 (by decide +kernel) (sd_iadd C dX10_release_125 (sd_is C dX10_release_126 (sd_goto C dX10_release_127 (tgt := 155) (by decide) (fun _ _ _ h => h))))))))))))))))))))))))) (sd_aload_n C (i := 0) dX10_release_88 rfl (sd_bipush C (x := nI 6) dX10_release_89 (by decide +kernel) (sd_dup2 C dX10_release_91 (sd_ia C dX10_release_92 (sd_iconst C (x := nI 1) dX10_release_93 (by decide +kernel) (sd_iadd C dX10_release_94 (sd_is C dX10_release_95 (sd_vr C hr dX10_release_96))))))))))))
    (sd_vr C hr dX10_release_155)
theorem dX10_watchIn_0 : decode cX10_watchIn 0 = .ok (.aload_n 1, 1) := by decide +kernel
theorem dX10_watchIn_1 : decode cX10_watchIn 1 = .ok (.invokestatic 103, 3) := by decide +kernel
theorem dX10_watchIn_4 : decode cX10_watchIn 4 = .ok (.iconst 0, 1) := by decide +kernel
theorem dX10_watchIn_5 : decode cX10_watchIn 5 = .ok (.istore_n 2, 1) := by decide +kernel
theorem dX10_watchIn_6 : decode cX10_watchIn 6 = .ok (.iload_n 2, 1) := by decide +kernel
theorem dX10_watchIn_7 : decode cX10_watchIn 7 = .ok (.aload_n 1, 1) := by decide +kernel
theorem dX10_watchIn_8 : decode cX10_watchIn 8 = .ok (.iconst 1, 1) := by decide +kernel
theorem dX10_watchIn_9 : decode cX10_watchIn 9 = .ok (.iaload, 1) := by decide +kernel
theorem dX10_watchIn_10 : decode cX10_watchIn 10 = .ok (.if_icmp .ge 92, 3) := by decide +kernel
theorem dX10_watchIn_13 : decode cX10_watchIn 13 = .ok (.aload_n 1, 1) := by decide +kernel
theorem dX10_watchIn_14 : decode cX10_watchIn 14 = .ok (.iload_n 2, 1) := by decide +kernel
theorem dX10_watchIn_15 : decode cX10_watchIn 15 = .ok (.invokestatic 106, 3) := by decide +kernel
theorem dX10_watchIn_18 : decode cX10_watchIn 18 = .ok (.istore_n 3, 1) := by decide +kernel
theorem dX10_watchIn_19 : decode cX10_watchIn 19 = .ok (.iload_n 2, 1) := by decide +kernel
theorem dX10_watchIn_20 : decode cX10_watchIn 20 = .ok (.aload_n 0, 1) := by decide +kernel
theorem dX10_watchIn_21 : decode cX10_watchIn 21 = .ok (.getfield 49, 3) := by decide +kernel
theorem dX10_watchIn_24 : decode cX10_watchIn 24 = .ok (.if_icmp .ne 46, 3) := by decide +kernel
theorem dX10_watchIn_27 : decode cX10_watchIn 27 = .ok (.iload_n 3, 1) := by decide +kernel
theorem dX10_watchIn_28 : decode cX10_watchIn 28 = .ok (.ifCond .le 42, 3) := by decide +kernel
theorem dX10_watchIn_31 : decode cX10_watchIn 31 = .ok (.aload_n 1, 1) := by decide +kernel
theorem dX10_watchIn_32 : decode cX10_watchIn 32 = .ok (.iload_n 2, 1) := by decide +kernel
theorem dX10_watchIn_33 : decode cX10_watchIn 33 = .ok (.iconst 3, 1) := by decide +kernel
theorem dX10_watchIn_34 : decode cX10_watchIn 34 = .ok (.invokestatic 52, 3) := by decide +kernel
theorem dX10_watchIn_37 : decode cX10_watchIn 37 = .ok (.iaload, 1) := by decide +kernel
theorem dX10_watchIn_38 : decode cX10_watchIn 38 = .ok (.aload_n 1, 1) := by decide +kernel
theorem dX10_watchIn_39 : decode cX10_watchIn 39 = .ok (.iload_n 2, 1) := by decide +kernel
theorem dX10_watchIn_40 : decode cX10_watchIn 40 = .ok (.iconst 2, 1) := by decide +kernel
theorem dX10_watchIn_41 : decode cX10_watchIn 41 = .ok (.invokestatic 52, 3) := by decide +kernel
theorem dX10_watchIn_44 : decode cX10_watchIn 44 = .ok (.iaload, 1) := by decide +kernel
theorem dX10_watchIn_45 : decode cX10_watchIn 45 = .ok (.isub, 1) := by decide +kernel
theorem dX10_watchIn_46 : decode cX10_watchIn 46 = .ok (.istore 4, 2) := by decide +kernel
theorem dX10_watchIn_48 : decode cX10_watchIn 48 = .ok (.aload_n 0, 1) := by decide +kernel
theorem dX10_watchIn_49 : decode cX10_watchIn 49 = .ok (.iload 4, 2) := by decide +kernel
theorem dX10_watchIn_51 : decode cX10_watchIn 51 = .ok (.aload_n 0, 1) := by decide +kernel
theorem dX10_watchIn_52 : decode cX10_watchIn 52 = .ok (.getfield 109, 3) := by decide +kernel
theorem dX10_watchIn_55 : decode cX10_watchIn 55 = .ok (.if_icmp .ge 8, 3) := by decide +kernel
theorem dX10_watchIn_58 : decode cX10_watchIn 58 = .ok (.iload 4, 2) := by decide +kernel
theorem dX10_watchIn_60 : decode cX10_watchIn 60 = .ok (.goto 7, 3) := by decide +kernel
theorem dX10_watchIn_63 : decode cX10_watchIn 63 = .ok (.aload_n 0, 1) := by decide +kernel
theorem dX10_watchIn_64 : decode cX10_watchIn 64 = .ok (.getfield 109, 3) := by decide +kernel
theorem dX10_watchIn_67 : decode cX10_watchIn 67 = .ok (.putfield 109, 3) := by decide +kernel
theorem dX10_watchIn_70 : decode cX10_watchIn 70 = .ok (.iload_n 3, 1) := by decide +kernel
theorem dX10_watchIn_71 : decode cX10_watchIn 71 = .ok (.iconst 1, 1) := by decide +kernel
theorem dX10_watchIn_72 : decode cX10_watchIn 72 = .ok (.if_icmp .ne 11, 3) := by decide +kernel
theorem dX10_watchIn_75 : decode cX10_watchIn 75 = .ok (.aload_n 1, 1) := by decide +kernel
theorem dX10_watchIn_76 : decode cX10_watchIn 76 = .ok (.iload_n 2, 1) := by decide +kernel
theorem dX10_watchIn_77 : decode cX10_watchIn 77 = .ok (.invokestatic 112, 3) := by decide +kernel
theorem dX10_watchIn_80 : decode cX10_watchIn 80 = .ok (.goto 16, 3) := by decide +kernel
theorem dX10_watchIn_83 : decode cX10_watchIn 83 = .ok (.iload_n 3, 1) := by decide +kernel
theorem dX10_watchIn_84 : decode cX10_watchIn 84 = .ok (.iconst 1, 1) := by decide +kernel
theorem dX10_watchIn_85 : decode cX10_watchIn 85 = .ok (.if_icmp .le 11, 3) := by decide +kernel
theorem dX10_watchIn_88 : decode cX10_watchIn 88 = .ok (.aload_n 1, 1) := by decide +kernel
theorem dX10_watchIn_89 : decode cX10_watchIn 89 = .ok (.iload_n 2, 1) := by decide +kernel
theorem dX10_watchIn_90 : decode cX10_watchIn 90 = .ok (.iload_n 3, 1) := by decide +kernel
theorem dX10_watchIn_91 : decode cX10_watchIn 91 = .ok (.iconst 1, 1) := by decide +kernel
theorem dX10_watchIn_92 : decode cX10_watchIn 92 = .ok (.isub, 1) := by decide +kernel
theorem dX10_watchIn_93 : decode cX10_watchIn 93 = .ok (.invokestatic 115, 3) := by decide +kernel
theorem dX10_watchIn_96 : decode cX10_watchIn 96 = .ok (.iinc 2 1, 3) := by decide +kernel
theorem dX10_watchIn_99 : decode cX10_watchIn 99 = .ok (.goto (-93), 3) := by decide +kernel
theorem dX10_watchIn_102 : decode cX10_watchIn 102 = .ok (.aload_n 1, 1) := by decide +kernel
theorem dX10_watchIn_103 : decode cX10_watchIn 103 = .ok (.iconst 0, 1) := by decide +kernel
theorem dX10_watchIn_104 : decode cX10_watchIn 104 = .ok (.dup2, 1) := by decide +kernel
theorem dX10_watchIn_105 : decode cX10_watchIn 105 = .ok (.iaload, 1) := by decide +kernel
theorem dX10_watchIn_106 : decode cX10_watchIn 106 = .ok (.iconst 1, 1) := by decide +kernel
theorem dX10_watchIn_107 : decode cX10_watchIn 107 = .ok (.iadd, 1) := by decide +kernel
theorem dX10_watchIn_108 : decode cX10_watchIn 108 = .ok (.iastore, 1) := by decide +kernel
theorem dX10_watchIn_109 : decode cX10_watchIn 109 = .ok (.return_, 1) := by decide +kernel
def bX10_watchIn_0 (w : ab_W) (s_X10_arrive : ab_S) (s_X10_deed : ab_S) (s_X10_stationAt : ab_S) (s_X10_tellGap : ab_S) (s_X10_release : ab_S) (M : Nat → ab_P) (Kn : Option Value → ab_H → Prop) : ab_P := ab_ald 1 (ab_cN w 1 s_X10_arrive (ab_ci (nI 0) (ab_ist 2 (M 6))))
def bX10_watchIn_6 (w : ab_W) (s_X10_arrive : ab_S) (s_X10_deed : ab_S) (s_X10_stationAt : ab_S) (s_X10_tellGap : ab_S) (s_X10_release : ab_S) (M : Nat → ab_P) (Kn : Option Value → ab_H → Prop) : ab_P := ab_ild 2 (ab_ald 1 (ab_ci (nI 1) (ab_ia w 11 (ab_if2 (fun x y => y ≤ x) (ab_ald 1 (ab_ci (nI 0) (ab_dup2 (ab_ia w 11 (ab_ci (nI 1) (ab_b2 (fun x y => x + y) (ab_is w (ab_vr Kn)))))))) (ab_ald 1 (ab_ild 2 (ab_cN w 2 s_X10_deed (ab_ist 3 (ab_ild 2 (ab_ald 0 (ab_gf w 10 13 (ab_if2 (fun x y => ¬ x = y) (M 70) (ab_ild 3 (ab_if1 (fun x => x ≤ 0) (M 70) (ab_ald 1 (ab_ild 2 (ab_ci (nI 3) (ab_cN w 2 s_X10_stationAt (ab_ia w 11 (ab_ald 1 (ab_ild 2 (ab_ci (nI 2) (ab_cN w 2 s_X10_stationAt (ab_ia w 11 (ab_b2 (fun x y => x - y) (ab_ist 4 (ab_ald 0 (ab_ild 4 (ab_ald 0 (ab_gf w 10 14 (ab_if2 (fun x y => y ≤ x) (ab_ald 0 (ab_gf w 10 14 (M 67))) (ab_ild 4 (M 67)))))))))))))))))))))))))))))))))
def bX10_watchIn_67 (w : ab_W) (s_X10_arrive : ab_S) (s_X10_deed : ab_S) (s_X10_stationAt : ab_S) (s_X10_tellGap : ab_S) (s_X10_release : ab_S) (M : Nat → ab_P) (Kn : Option Value → ab_H → Prop) : ab_P := ab_pf w 10 14 (M 70)
def bX10_watchIn_70 (w : ab_W) (s_X10_arrive : ab_S) (s_X10_deed : ab_S) (s_X10_stationAt : ab_S) (s_X10_tellGap : ab_S) (s_X10_release : ab_S) (M : Nat → ab_P) (Kn : Option Value → ab_H → Prop) : ab_P := ab_ild 3 (ab_ci (nI 1) (ab_if2 (fun x y => ¬ x = y) (ab_ild 3 (ab_ci (nI 1) (ab_if2 (fun x y => x ≤ y) (M 96) (ab_ald 1 (ab_ild 2 (ab_ild 3 (ab_ci (nI 1) (ab_b2 (fun x y => x - y) (ab_cN w 3 s_X10_tellGap (M 96)))))))))) (ab_ald 1 (ab_ild 2 (ab_cN w 2 s_X10_release (M 96))))))
def bX10_watchIn_96 (w : ab_W) (s_X10_arrive : ab_S) (s_X10_deed : ab_S) (s_X10_stationAt : ab_S) (s_X10_tellGap : ab_S) (s_X10_release : ab_S) (M : Nat → ab_P) (Kn : Option Value → ab_H → Prop) : ab_P := ab_inc 2 (nI 1) (M 6)
set_option maxRecDepth 20000 in
set_option maxHeartbeats 2000000 in
theorem vc_X10_watchIn {l : Launch} (hl : l.stackTraces = false) {w : ab_W} (hI : ab_Inj w) {mc : Nat} {σ : ab_H} {As : List Value} {Kn : Option Value → ab_H → Prop} {Kx : String → ab_H → Prop} {s_X10_arrive : ab_S} (ok_X10_arrive : ab_OkN l yX10_arrive (Cond.code yX10_arrive cX10_arrive 3 none) 3 s_X10_arrive) {s_X10_deed : ab_S} (ok_X10_deed : ab_OkN l yX10_deed (Cond.code yX10_deed cX10_deed 2 (some .int)) 3 s_X10_deed) {s_X10_stationAt : ab_S} (ok_X10_stationAt : ab_OkN l yX10_stationAt (Cond.code yX10_stationAt cX10_stationAt 2 (some .int)) 1 s_X10_stationAt) {s_X10_tellGap : ab_S} (ok_X10_tellGap : ab_OkN l yX10_tellGap (Cond.code yX10_tellGap cX10_tellGap 3 none) 2 s_X10_tellGap) {s_X10_release : ab_S} (ok_X10_release : ab_OkN l yX10_release (Cond.code yX10_release cX10_release 5 none) 3 s_X10_release) (hlen : (ab_xl As).length ≤ 5) (h : ∀ M : Nat → ab_P, (∀ L st σ, bX10_watchIn_0 w s_X10_arrive s_X10_deed s_X10_stationAt s_X10_tellGap s_X10_release M Kn L st σ → M 0 L st σ) → (∀ L st σ, bX10_watchIn_6 w s_X10_arrive s_X10_deed s_X10_stationAt s_X10_tellGap s_X10_release M Kn L st σ → M 6 L st σ) → (∀ L st σ, bX10_watchIn_67 w s_X10_arrive s_X10_deed s_X10_stationAt s_X10_tellGap s_X10_release M Kn L st σ → M 67 L st σ) → (∀ L st σ, bX10_watchIn_70 w s_X10_arrive s_X10_deed s_X10_stationAt s_X10_tellGap s_X10_release M Kn L st σ → M 70 L st σ) → (∀ L st σ, bX10_watchIn_96 w s_X10_arrive s_X10_deed s_X10_stationAt s_X10_tellGap s_X10_release M Kn L st σ → M 96 L st σ) → M 0 (ab_pd 5 (ab_xl As)) [] σ) : ab_Met l yX10_watchIn (Cond.code yX10_watchIn cX10_watchIn 5 none) 4 mc w σ As Kn Kx := by
  refine ab_enter (by decide) hl hI hlen (by decide) ?_
  intro p e R s m args below meth c C hno hr
  exact h _ (sd_aload_n C (i := 1) dX10_watchIn_0 rfl (sd_cS C ok_X10_arrive ⟨by decide, by decide, wd_1139, wd_11, by decide +kernel⟩ wd_1137 wd_1138 dX10_watchIn_1 (sd_iconst C (x := nI 0) dX10_watchIn_4 (by decide +kernel) (sd_istore_n C (i := 2) dX10_watchIn_5 rfl (by decide) (fun _ _ _ h => h)))))
    (sd_iload_n C (i := 2) dX10_watchIn_6 rfl (sd_aload_n C (i := 1) dX10_watchIn_7 rfl (sd_iconst C (x := nI 1) dX10_watchIn_8 (by decide +kernel) (sd_ia C dX10_watchIn_9 (sd_icmp_ge C dX10_watchIn_10 (tgt := 102) (by decide) (sd_aload_n C (i := 1) dX10_watchIn_102 rfl (sd_iconst C (x := nI 0) dX10_watchIn_103 (by decide +kernel) (sd_dup2 C dX10_watchIn_104 (sd_ia C dX10_watchIn_105 (sd_iconst C (x := nI 1) dX10_watchIn_106 (by decide +kernel) (sd_iadd C dX10_watchIn_107 (sd_is C dX10_watchIn_108 (sd_vr C hr dX10_watchIn_109)))))))) (sd_aload_n C (i := 1) dX10_watchIn_13 rfl (sd_iload_n C (i := 2) dX10_watchIn_14 rfl (sd_cS C ok_X10_deed ⟨by decide, by decide, wd_1151, wd_11, by decide +kernel⟩ wd_1149 wd_1150 dX10_watchIn_15 (sd_istore_n C (i := 3) dX10_watchIn_18 rfl (by decide) (sd_iload_n C (i := 2) dX10_watchIn_19 rfl (sd_aload_n C (i := 0) dX10_watchIn_20 rfl (sd_gf C (ci := 10) (k := 13) (r := (RX10, TX10, 15)) rfl (by decide) rfl wd_1001 dX10_watchIn_21 (sd_icmp_ne C dX10_watchIn_24 (tgt := 70) (by decide) (fun _ _ _ h => h) (sd_iload_n C (i := 3) dX10_watchIn_27 rfl (sd_if_le C dX10_watchIn_28 (tgt := 70) (by decide) (fun _ _ _ h => h) (sd_aload_n C (i := 1) dX10_watchIn_31 rfl (sd_iload_n C (i := 2) dX10_watchIn_32 rfl (sd_iconst C (x := nI 3) dX10_watchIn_33 (by decide +kernel) (sd_cS C ok_X10_stationAt ⟨by decide, by decide, wd_1097, wd_11, by decide +kernel⟩ wd_1095 wd_1096 dX10_watchIn_34 (sd_ia C dX10_watchIn_37 (sd_aload_n C (i := 1) dX10_watchIn_38 rfl (sd_iload_n C (i := 2) dX10_watchIn_39 rfl (sd_iconst C (x := nI 2) dX10_watchIn_40 (by decide +kernel) (sd_cS C ok_X10_stationAt ⟨by decide, by decide, wd_1097, wd_11, by decide +kernel⟩ wd_1095 wd_1096 dX10_watchIn_41 (sd_ia C dX10_watchIn_44 (sd_isub C dX10_watchIn_45 (sd_istore C dX10_watchIn_46 (by decide) (sd_aload_n C (i := 0) dX10_watchIn_48 rfl (sd_iload C dX10_watchIn_49 (sd_aload_n C (i := 0) dX10_watchIn_51 rfl (sd_gf C (ci := 10) (k := 14) (r := (RX10, TX10, 15)) rfl (by decide) rfl wd_1002 dX10_watchIn_52 (sd_icmp_ge C dX10_watchIn_55 (tgt := 63) (by decide) (sd_aload_n C (i := 0) dX10_watchIn_63 rfl (sd_gf C (ci := 10) (k := 14) (r := (RX10, TX10, 15)) rfl (by decide) rfl wd_1002 dX10_watchIn_64 (fun _ _ _ h => h))) (sd_iload C dX10_watchIn_58 (sd_goto C dX10_watchIn_60 (tgt := 67) (by decide) (fun _ _ _ h => h)))))))))))))))))))))))))))))))))))
    (sd_pf C (ci := 10) (k := 14) (r := (RX10, TX10, 15)) rfl (by decide) rfl rfl (by decide +kernel) wd_1002 dX10_watchIn_67 (fun _ _ _ h => h))
    (sd_iload_n C (i := 3) dX10_watchIn_70 rfl (sd_iconst C (x := nI 1) dX10_watchIn_71 (by decide +kernel) (sd_icmp_ne C dX10_watchIn_72 (tgt := 83) (by decide) (sd_iload_n C (i := 3) dX10_watchIn_83 rfl (sd_iconst C (x := nI 1) dX10_watchIn_84 (by decide +kernel) (sd_icmp_le C dX10_watchIn_85 (tgt := 96) (by decide) (fun _ _ _ h => h) (sd_aload_n C (i := 1) dX10_watchIn_88 rfl (sd_iload_n C (i := 2) dX10_watchIn_89 rfl (sd_iload_n C (i := 3) dX10_watchIn_90 rfl (sd_iconst C (x := nI 1) dX10_watchIn_91 (by decide +kernel) (sd_isub C dX10_watchIn_92 (sd_cS C ok_X10_tellGap ⟨by decide, by decide, wd_1179, wd_11, by decide +kernel⟩ wd_1177 wd_1178 dX10_watchIn_93 (fun _ _ _ h => h)))))))))) (sd_aload_n C (i := 1) dX10_watchIn_75 rfl (sd_iload_n C (i := 2) dX10_watchIn_76 rfl (sd_cS C ok_X10_release ⟨by decide, by decide, wd_1160, wd_11, by decide +kernel⟩ wd_1158 wd_1159 dX10_watchIn_77 (sd_goto C dX10_watchIn_80 (tgt := 96) (by decide) (fun _ _ _ h => h))))))))
    (sd_iinc C (x := nI 1) dX10_watchIn_96 (by decide +kernel) (by decide) (sd_goto C dX10_watchIn_99 (tgt := 6) (by decide) (fun _ _ _ h => h)))
theorem dX10_runIn_0 : decode cX10_runIn 0 = .ok (.aload_n 1, 1) := by decide +kernel
theorem dX10_runIn_1 : decode cX10_runIn 1 = .ok (.iconst 4, 1) := by decide +kernel
theorem dX10_runIn_2 : decode cX10_runIn 2 = .ok (.iaload, 1) := by decide +kernel
theorem dX10_runIn_3 : decode cX10_runIn 3 = .ok (.istore_n 3, 1) := by decide +kernel
theorem dX10_runIn_4 : decode cX10_runIn 4 = .ok (.iconst 0, 1) := by decide +kernel
theorem dX10_runIn_5 : decode cX10_runIn 5 = .ok (.istore 4, 2) := by decide +kernel
theorem dX10_runIn_7 : decode cX10_runIn 7 = .ok (.iload 4, 2) := by decide +kernel
theorem dX10_runIn_9 : decode cX10_runIn 9 = .ok (.iload_n 2, 1) := by decide +kernel
theorem dX10_runIn_10 : decode cX10_runIn 10 = .ok (.if_icmp .ge 14, 3) := by decide +kernel
theorem dX10_runIn_13 : decode cX10_runIn 13 = .ok (.aload_n 0, 1) := by decide +kernel
theorem dX10_runIn_14 : decode cX10_runIn 14 = .ok (.aload_n 1, 1) := by decide +kernel
theorem dX10_runIn_15 : decode cX10_runIn 15 = .ok (.invokevirtual 119, 3) := by decide +kernel
theorem dX10_runIn_18 : decode cX10_runIn 18 = .ok (.iinc 4 1, 3) := by decide +kernel
theorem dX10_runIn_21 : decode cX10_runIn 21 = .ok (.goto (-14), 3) := by decide +kernel
theorem dX10_runIn_24 : decode cX10_runIn 24 = .ok (.aload_n 1, 1) := by decide +kernel
theorem dX10_runIn_25 : decode cX10_runIn 25 = .ok (.iconst 4, 1) := by decide +kernel
theorem dX10_runIn_26 : decode cX10_runIn 26 = .ok (.iaload, 1) := by decide +kernel
theorem dX10_runIn_27 : decode cX10_runIn 27 = .ok (.iload_n 3, 1) := by decide +kernel
theorem dX10_runIn_28 : decode cX10_runIn 28 = .ok (.isub, 1) := by decide +kernel
theorem dX10_runIn_29 : decode cX10_runIn 29 = .ok (.ireturn, 1) := by decide +kernel
def bX10_runIn_0 (w : ab_W) (s_X10_watchIn : ab_S) (M : Nat → ab_P) (Kn : Option Value → ab_H → Prop) : ab_P := ab_ald 1 (ab_ci (nI 4) (ab_ia w 11 (ab_ist 3 (ab_ci (nI 0) (ab_ist 4 (M 7))))))
def bX10_runIn_7 (w : ab_W) (s_X10_watchIn : ab_S) (M : Nat → ab_P) (Kn : Option Value → ab_H → Prop) : ab_P := ab_ild 4 (ab_ild 2 (ab_if2 (fun x y => y ≤ x) (ab_ald 1 (ab_ci (nI 4) (ab_ia w 11 (ab_ild 3 (ab_b2 (fun x y => x - y) (ab_ir Kn)))))) (ab_ald 0 (ab_ald 1 (ab_cV w 2 10 s_X10_watchIn (ab_inc 4 (nI 1) (M 7)))))))
set_option maxRecDepth 20000 in
set_option maxHeartbeats 2000000 in
theorem vc_X10_runIn {l : Launch} (hl : l.stackTraces = false) {w : ab_W} (hI : ab_Inj w) {mc : Nat} {σ : ab_H} {As : List Value} {Kn : Option Value → ab_H → Prop} {Kx : String → ab_H → Prop} {s_X10_watchIn : ab_S} (ok_X10_watchIn : ab_OkN l yX10_watchIn (Cond.code yX10_watchIn cX10_watchIn 5 none) 4 s_X10_watchIn) (hlen : (ab_xl As).length ≤ 5) (h : ∀ M : Nat → ab_P, (∀ L st σ, bX10_runIn_0 w s_X10_watchIn M Kn L st σ → M 0 L st σ) → (∀ L st σ, bX10_runIn_7 w s_X10_watchIn M Kn L st σ → M 7 L st σ) → M 0 (ab_pd 5 (ab_xl As)) [] σ) : ab_Met l yX10_runIn (Cond.code yX10_runIn cX10_runIn 5 (some .int)) 5 mc w σ As Kn Kx := by
  refine ab_enter (by decide) hl hI hlen (by decide) ?_
  intro p e R s m args below meth c C hno hr
  exact h _ (sd_aload_n C (i := 1) dX10_runIn_0 rfl (sd_iconst C (x := nI 4) dX10_runIn_1 (by decide +kernel) (sd_ia C dX10_runIn_2 (sd_istore_n C (i := 3) dX10_runIn_3 rfl (by decide) (sd_iconst C (x := nI 0) dX10_runIn_4 (by decide +kernel) (sd_istore C dX10_runIn_5 (by decide) (fun _ _ _ h => h)))))))
    (sd_iload C dX10_runIn_7 (sd_iload_n C (i := 2) dX10_runIn_9 rfl (sd_icmp_ge C dX10_runIn_10 (tgt := 24) (by decide) (sd_aload_n C (i := 1) dX10_runIn_24 rfl (sd_iconst C (x := nI 4) dX10_runIn_25 (by decide +kernel) (sd_ia C dX10_runIn_26 (sd_iload_n C (i := 3) dX10_runIn_27 rfl (sd_isub C dX10_runIn_28 (sd_ir C hr dX10_runIn_29)))))) (sd_aload_n C (i := 0) dX10_runIn_13 rfl (sd_aload_n C (i := 1) dX10_runIn_14 rfl (sd_cV C ok_X10_watchIn (ci := 10) (row := (RX10, TX10, 15)) rfl rfl ⟨by decide, by decide, wd_1136, wd_11, by decide +kernel⟩ wd_1133 wd_1135 ws_29 dX10_runIn_15 (sd_iinc C (x := nI 1) dX10_runIn_18 (by decide +kernel) (by decide) (sd_goto C dX10_runIn_21 (tgt := 7) (by decide) (fun _ _ _ h => h)))))))))
theorem dX10_addStationIn_0 : decode cX10_addStationIn 0 = .ok (.aload_n 0, 1) := by decide +kernel
theorem dX10_addStationIn_1 : decode cX10_addStationIn 1 = .ok (.iconst 1, 1) := by decide +kernel
theorem dX10_addStationIn_2 : decode cX10_addStationIn 2 = .ok (.iaload, 1) := by decide +kernel
theorem dX10_addStationIn_3 : decode cX10_addStationIn 3 = .ok (.istore 6, 2) := by decide +kernel
theorem dX10_addStationIn_5 : decode cX10_addStationIn 5 = .ok (.iconst 0, 1) := by decide +kernel
theorem dX10_addStationIn_6 : decode cX10_addStationIn 6 = .ok (.istore 7, 2) := by decide +kernel
theorem dX10_addStationIn_8 : decode cX10_addStationIn 8 = .ok (.iload 7, 2) := by decide +kernel
theorem dX10_addStationIn_10 : decode cX10_addStationIn 10 = .ok (.bipush 11, 2) := by decide +kernel
theorem dX10_addStationIn_12 : decode cX10_addStationIn 12 = .ok (.if_icmp .ge 19, 3) := by decide +kernel
theorem dX10_addStationIn_15 : decode cX10_addStationIn 15 = .ok (.aload_n 0, 1) := by decide +kernel
theorem dX10_addStationIn_16 : decode cX10_addStationIn 16 = .ok (.iload 6, 2) := by decide +kernel
theorem dX10_addStationIn_18 : decode cX10_addStationIn 18 = .ok (.iload 7, 2) := by decide +kernel
theorem dX10_addStationIn_20 : decode cX10_addStationIn 20 = .ok (.invokestatic 52, 3) := by decide +kernel
theorem dX10_addStationIn_23 : decode cX10_addStationIn 23 = .ok (.iconst 0, 1) := by decide +kernel
theorem dX10_addStationIn_24 : decode cX10_addStationIn 24 = .ok (.iastore, 1) := by decide +kernel
theorem dX10_addStationIn_25 : decode cX10_addStationIn 25 = .ok (.iinc 7 1, 3) := by decide +kernel
theorem dX10_addStationIn_28 : decode cX10_addStationIn 28 = .ok (.goto (-20), 3) := by decide +kernel
theorem dX10_addStationIn_31 : decode cX10_addStationIn 31 = .ok (.aload_n 0, 1) := by decide +kernel
theorem dX10_addStationIn_32 : decode cX10_addStationIn 32 = .ok (.iload 6, 2) := by decide +kernel
theorem dX10_addStationIn_34 : decode cX10_addStationIn 34 = .ok (.iconst 0, 1) := by decide +kernel
theorem dX10_addStationIn_35 : decode cX10_addStationIn 35 = .ok (.invokestatic 52, 3) := by decide +kernel
theorem dX10_addStationIn_38 : decode cX10_addStationIn 38 = .ok (.iload_n 1, 1) := by decide +kernel
theorem dX10_addStationIn_39 : decode cX10_addStationIn 39 = .ok (.iastore, 1) := by decide +kernel
theorem dX10_addStationIn_40 : decode cX10_addStationIn 40 = .ok (.aload_n 0, 1) := by decide +kernel
theorem dX10_addStationIn_41 : decode cX10_addStationIn 41 = .ok (.iload 6, 2) := by decide +kernel
theorem dX10_addStationIn_43 : decode cX10_addStationIn 43 = .ok (.iconst 1, 1) := by decide +kernel
theorem dX10_addStationIn_44 : decode cX10_addStationIn 44 = .ok (.invokestatic 52, 3) := by decide +kernel
theorem dX10_addStationIn_47 : decode cX10_addStationIn 47 = .ok (.iload_n 2, 1) := by decide +kernel
theorem dX10_addStationIn_48 : decode cX10_addStationIn 48 = .ok (.iastore, 1) := by decide +kernel
theorem dX10_addStationIn_49 : decode cX10_addStationIn 49 = .ok (.aload_n 0, 1) := by decide +kernel
theorem dX10_addStationIn_50 : decode cX10_addStationIn 50 = .ok (.iload 6, 2) := by decide +kernel
theorem dX10_addStationIn_52 : decode cX10_addStationIn 52 = .ok (.iconst 2, 1) := by decide +kernel
theorem dX10_addStationIn_53 : decode cX10_addStationIn 53 = .ok (.invokestatic 52, 3) := by decide +kernel
theorem dX10_addStationIn_56 : decode cX10_addStationIn 56 = .ok (.iload_n 3, 1) := by decide +kernel
theorem dX10_addStationIn_57 : decode cX10_addStationIn 57 = .ok (.iastore, 1) := by decide +kernel
theorem dX10_addStationIn_58 : decode cX10_addStationIn 58 = .ok (.aload_n 0, 1) := by decide +kernel
theorem dX10_addStationIn_59 : decode cX10_addStationIn 59 = .ok (.iload 6, 2) := by decide +kernel
theorem dX10_addStationIn_61 : decode cX10_addStationIn 61 = .ok (.iconst 3, 1) := by decide +kernel
theorem dX10_addStationIn_62 : decode cX10_addStationIn 62 = .ok (.invokestatic 52, 3) := by decide +kernel
theorem dX10_addStationIn_65 : decode cX10_addStationIn 65 = .ok (.iload 4, 2) := by decide +kernel
theorem dX10_addStationIn_67 : decode cX10_addStationIn 67 = .ok (.iastore, 1) := by decide +kernel
theorem dX10_addStationIn_68 : decode cX10_addStationIn 68 = .ok (.aload_n 0, 1) := by decide +kernel
theorem dX10_addStationIn_69 : decode cX10_addStationIn 69 = .ok (.iload 6, 2) := by decide +kernel
theorem dX10_addStationIn_71 : decode cX10_addStationIn 71 = .ok (.iconst 4, 1) := by decide +kernel
theorem dX10_addStationIn_72 : decode cX10_addStationIn 72 = .ok (.invokestatic 52, 3) := by decide +kernel
theorem dX10_addStationIn_75 : decode cX10_addStationIn 75 = .ok (.iload 5, 2) := by decide +kernel
theorem dX10_addStationIn_77 : decode cX10_addStationIn 77 = .ok (.iastore, 1) := by decide +kernel
theorem dX10_addStationIn_78 : decode cX10_addStationIn 78 = .ok (.aload_n 0, 1) := by decide +kernel
theorem dX10_addStationIn_79 : decode cX10_addStationIn 79 = .ok (.iconst 1, 1) := by decide +kernel
theorem dX10_addStationIn_80 : decode cX10_addStationIn 80 = .ok (.dup2, 1) := by decide +kernel
theorem dX10_addStationIn_81 : decode cX10_addStationIn 81 = .ok (.iaload, 1) := by decide +kernel
theorem dX10_addStationIn_82 : decode cX10_addStationIn 82 = .ok (.iconst 1, 1) := by decide +kernel
theorem dX10_addStationIn_83 : decode cX10_addStationIn 83 = .ok (.iadd, 1) := by decide +kernel
theorem dX10_addStationIn_84 : decode cX10_addStationIn 84 = .ok (.iastore, 1) := by decide +kernel
theorem dX10_addStationIn_85 : decode cX10_addStationIn 85 = .ok (.iload 6, 2) := by decide +kernel
theorem dX10_addStationIn_87 : decode cX10_addStationIn 87 = .ok (.ireturn, 1) := by decide +kernel
def bX10_addStationIn_0 (w : ab_W) (s_X10_stationAt : ab_S) (M : Nat → ab_P) (Kn : Option Value → ab_H → Prop) : ab_P := ab_ald 0 (ab_ci (nI 1) (ab_ia w 11 (ab_ist 6 (ab_ci (nI 0) (ab_ist 7 (M 8))))))
def bX10_addStationIn_8 (w : ab_W) (s_X10_stationAt : ab_S) (M : Nat → ab_P) (Kn : Option Value → ab_H → Prop) : ab_P := ab_ild 7 (ab_ci (nI 11) (ab_if2 (fun x y => y ≤ x) (ab_ald 0 (ab_ild 6 (ab_ci (nI 0) (ab_cN w 2 s_X10_stationAt (ab_ild 1 (ab_is w (ab_ald 0 (ab_ild 6 (ab_ci (nI 1) (ab_cN w 2 s_X10_stationAt (ab_ild 2 (ab_is w (ab_ald 0 (ab_ild 6 (ab_ci (nI 2) (ab_cN w 2 s_X10_stationAt (ab_ild 3 (ab_is w (ab_ald 0 (ab_ild 6 (ab_ci (nI 3) (ab_cN w 2 s_X10_stationAt (ab_ild 4 (ab_is w (ab_ald 0 (ab_ild 6 (ab_ci (nI 4) (ab_cN w 2 s_X10_stationAt (ab_ild 5 (ab_is w (ab_ald 0 (ab_ci (nI 1) (ab_dup2 (ab_ia w 11 (ab_ci (nI 1) (ab_b2 (fun x y => x + y) (ab_is w (ab_ild 6 (ab_ir Kn))))))))))))))))))))))))))))))))))))))) (ab_ald 0 (ab_ild 6 (ab_ild 7 (ab_cN w 2 s_X10_stationAt (ab_ci (nI 0) (ab_is w (ab_inc 7 (nI 1) (M 8))))))))))
set_option maxRecDepth 20000 in
set_option maxHeartbeats 2000000 in
theorem vc_X10_addStationIn {l : Launch} (hl : l.stackTraces = false) {w : ab_W} (hI : ab_Inj w) {mc : Nat} {σ : ab_H} {As : List Value} {Kn : Option Value → ab_H → Prop} {Kx : String → ab_H → Prop} {s_X10_stationAt : ab_S} (ok_X10_stationAt : ab_OkN l yX10_stationAt (Cond.code yX10_stationAt cX10_stationAt 2 (some .int)) 1 s_X10_stationAt) (hlen : (ab_xl As).length ≤ 8) (h : ∀ M : Nat → ab_P, (∀ L st σ, bX10_addStationIn_0 w s_X10_stationAt M Kn L st σ → M 0 L st σ) → (∀ L st σ, bX10_addStationIn_8 w s_X10_stationAt M Kn L st σ → M 8 L st σ) → M 0 (ab_pd 8 (ab_xl As)) [] σ) : ab_Met l yX10_addStationIn (Cond.code yX10_addStationIn cX10_addStationIn 8 (some .int)) 2 mc w σ As Kn Kx := by
  refine ab_enter (by decide) hl hI hlen (by decide) ?_
  intro p e R s m args below meth c C hno hr
  exact h _ (sd_aload_n C (i := 0) dX10_addStationIn_0 rfl (sd_iconst C (x := nI 1) dX10_addStationIn_1 (by decide +kernel) (sd_ia C dX10_addStationIn_2 (sd_istore C dX10_addStationIn_3 (by decide) (sd_iconst C (x := nI 0) dX10_addStationIn_5 (by decide +kernel) (sd_istore C dX10_addStationIn_6 (by decide) (fun _ _ _ h => h)))))))
    (sd_iload C dX10_addStationIn_8 (sd_bipush C (x := nI 11) dX10_addStationIn_10 (by decide +kernel) (sd_icmp_ge C dX10_addStationIn_12 (tgt := 31) (by decide) (sd_aload_n C (i := 0) dX10_addStationIn_31 rfl (sd_iload C dX10_addStationIn_32 (sd_iconst C (x := nI 0) dX10_addStationIn_34 (by decide +kernel) (sd_cS C ok_X10_stationAt ⟨by decide, by decide, wd_1097, wd_11, by decide +kernel⟩ wd_1095 wd_1096 dX10_addStationIn_35 (sd_iload_n C (i := 1) dX10_addStationIn_38 rfl (sd_is C dX10_addStationIn_39 (sd_aload_n C (i := 0) dX10_addStationIn_40 rfl (sd_iload C dX10_addStationIn_41 (sd_iconst C (x := nI 1) dX10_addStationIn_43 (by decide +kernel) (sd_cS C ok_X10_stationAt ⟨by decide, by decide, wd_1097, wd_11, by decide +kernel⟩ wd_1095 wd_1096 dX10_addStationIn_44 (sd_iload_n C (i := 2) dX10_addStationIn_47 rfl (sd_is C dX10_addStationIn_48 (sd_aload_n C (i := 0) dX10_addStationIn_49 rfl (sd_iload C dX10_addStationIn_50 (sd_iconst C (x := nI 2) dX10_addStationIn_52 (by decide +kernel) (sd_cS C ok_X10_stationAt ⟨by decide, by decide, wd_1097, wd_11, by decide +kernel⟩ wd_1095 wd_1096 dX10_addStationIn_53 (sd_iload_n C (i := 3) dX10_addStationIn_56 rfl (sd_is C dX10_addStationIn_57 (sd_aload_n C (i := 0) dX10_addStationIn_58 rfl (sd_iload C dX10_addStationIn_59 (sd_iconst C (x := nI 3) dX10_addStationIn_61 (by decide +kernel) (sd_cS C ok_X10_stationAt ⟨by decide, by decide, wd_1097, wd_11, by decide +kernel⟩ wd_1095 wd_1096 dX10_addStationIn_62 (sd_iload C dX10_addStationIn_65 (sd_is C dX10_addStationIn_67 (sd_aload_n C (i := 0) dX10_addStationIn_68 rfl (sd_iload C dX10_addStationIn_69 (sd_iconst C (x := nI 4) dX10_addStationIn_71 (by decide +kernel) (sd_cS C ok_X10_stationAt ⟨by decide, by decide, wd_1097, wd_11, by decide +kernel⟩ wd_1095 wd_1096 dX10_addStationIn_72 (sd_iload C dX10_addStationIn_75 (sd_is C dX10_addStationIn_77 (sd_aload_n C (i := 0) dX10_addStationIn_78 rfl (sd_iconst C (x := nI 1) dX10_addStationIn_79 (by decide +kernel) (sd_dup2 C dX10_addStationIn_80 (sd_ia C dX10_addStationIn_81 (sd_iconst C (x := nI 1) dX10_addStationIn_82 (by decide +kernel) (sd_iadd C dX10_addStationIn_83 (sd_is C dX10_addStationIn_84 (sd_iload C dX10_addStationIn_85 (sd_ir C hr dX10_addStationIn_87))))))))))))))))))))))))))))))))))))))) (sd_aload_n C (i := 0) dX10_addStationIn_15 rfl (sd_iload C dX10_addStationIn_16 (sd_iload C dX10_addStationIn_18 (sd_cS C ok_X10_stationAt ⟨by decide, by decide, wd_1097, wd_11, by decide +kernel⟩ wd_1095 wd_1096 dX10_addStationIn_20 (sd_iconst C (x := nI 0) dX10_addStationIn_23 (by decide +kernel) (sd_is C dX10_addStationIn_24 (sd_iinc C (x := nI 1) dX10_addStationIn_25 (by decide +kernel) (by decide) (sd_goto C dX10_addStationIn_28 (tgt := 8) (by decide) (fun _ _ _ h => h))))))))))))
theorem dX10_addFinderIn_0 : decode cX10_addFinderIn 0 = .ok (.aload_n 0, 1) := by decide +kernel
theorem dX10_addFinderIn_1 : decode cX10_addFinderIn 1 = .ok (.iconst 2, 1) := by decide +kernel
theorem dX10_addFinderIn_2 : decode cX10_addFinderIn 2 = .ok (.iaload, 1) := by decide +kernel
theorem dX10_addFinderIn_3 : decode cX10_addFinderIn 3 = .ok (.istore 4, 2) := by decide +kernel
theorem dX10_addFinderIn_5 : decode cX10_addFinderIn 5 = .ok (.aload_n 0, 1) := by decide +kernel
theorem dX10_addFinderIn_6 : decode cX10_addFinderIn 6 = .ok (.iload 4, 2) := by decide +kernel
theorem dX10_addFinderIn_8 : decode cX10_addFinderIn 8 = .ok (.iconst 0, 1) := by decide +kernel
theorem dX10_addFinderIn_9 : decode cX10_addFinderIn 9 = .ok (.invokestatic 66, 3) := by decide +kernel
theorem dX10_addFinderIn_12 : decode cX10_addFinderIn 12 = .ok (.iload_n 1, 1) := by decide +kernel
theorem dX10_addFinderIn_13 : decode cX10_addFinderIn 13 = .ok (.iastore, 1) := by decide +kernel
theorem dX10_addFinderIn_14 : decode cX10_addFinderIn 14 = .ok (.aload_n 0, 1) := by decide +kernel
theorem dX10_addFinderIn_15 : decode cX10_addFinderIn 15 = .ok (.iload 4, 2) := by decide +kernel
theorem dX10_addFinderIn_17 : decode cX10_addFinderIn 17 = .ok (.iconst 1, 1) := by decide +kernel
theorem dX10_addFinderIn_18 : decode cX10_addFinderIn 18 = .ok (.invokestatic 66, 3) := by decide +kernel
theorem dX10_addFinderIn_21 : decode cX10_addFinderIn 21 = .ok (.iload_n 2, 1) := by decide +kernel
theorem dX10_addFinderIn_22 : decode cX10_addFinderIn 22 = .ok (.iastore, 1) := by decide +kernel
theorem dX10_addFinderIn_23 : decode cX10_addFinderIn 23 = .ok (.aload_n 0, 1) := by decide +kernel
theorem dX10_addFinderIn_24 : decode cX10_addFinderIn 24 = .ok (.iload 4, 2) := by decide +kernel
theorem dX10_addFinderIn_26 : decode cX10_addFinderIn 26 = .ok (.iconst 2, 1) := by decide +kernel
theorem dX10_addFinderIn_27 : decode cX10_addFinderIn 27 = .ok (.invokestatic 66, 3) := by decide +kernel
theorem dX10_addFinderIn_30 : decode cX10_addFinderIn 30 = .ok (.iload_n 3, 1) := by decide +kernel
theorem dX10_addFinderIn_31 : decode cX10_addFinderIn 31 = .ok (.iastore, 1) := by decide +kernel
theorem dX10_addFinderIn_32 : decode cX10_addFinderIn 32 = .ok (.aload_n 0, 1) := by decide +kernel
theorem dX10_addFinderIn_33 : decode cX10_addFinderIn 33 = .ok (.iload 4, 2) := by decide +kernel
theorem dX10_addFinderIn_35 : decode cX10_addFinderIn 35 = .ok (.iconst 3, 1) := by decide +kernel
theorem dX10_addFinderIn_36 : decode cX10_addFinderIn 36 = .ok (.invokestatic 66, 3) := by decide +kernel
theorem dX10_addFinderIn_39 : decode cX10_addFinderIn 39 = .ok (.iconst 0, 1) := by decide +kernel
theorem dX10_addFinderIn_40 : decode cX10_addFinderIn 40 = .ok (.iastore, 1) := by decide +kernel
theorem dX10_addFinderIn_41 : decode cX10_addFinderIn 41 = .ok (.aload_n 0, 1) := by decide +kernel
theorem dX10_addFinderIn_42 : decode cX10_addFinderIn 42 = .ok (.iconst 2, 1) := by decide +kernel
theorem dX10_addFinderIn_43 : decode cX10_addFinderIn 43 = .ok (.dup2, 1) := by decide +kernel
theorem dX10_addFinderIn_44 : decode cX10_addFinderIn 44 = .ok (.iaload, 1) := by decide +kernel
theorem dX10_addFinderIn_45 : decode cX10_addFinderIn 45 = .ok (.iconst 1, 1) := by decide +kernel
theorem dX10_addFinderIn_46 : decode cX10_addFinderIn 46 = .ok (.iadd, 1) := by decide +kernel
theorem dX10_addFinderIn_47 : decode cX10_addFinderIn 47 = .ok (.iastore, 1) := by decide +kernel
theorem dX10_addFinderIn_48 : decode cX10_addFinderIn 48 = .ok (.iload 4, 2) := by decide +kernel
theorem dX10_addFinderIn_50 : decode cX10_addFinderIn 50 = .ok (.ireturn, 1) := by decide +kernel
def bX10_addFinderIn_0 (w : ab_W) (s_X10_finderAt : ab_S) (M : Nat → ab_P) (Kn : Option Value → ab_H → Prop) : ab_P := ab_ald 0 (ab_ci (nI 2) (ab_ia w 11 (ab_ist 4 (ab_ald 0 (ab_ild 4 (ab_ci (nI 0) (ab_cN w 2 s_X10_finderAt (ab_ild 1 (ab_is w (ab_ald 0 (ab_ild 4 (ab_ci (nI 1) (ab_cN w 2 s_X10_finderAt (ab_ild 2 (ab_is w (ab_ald 0 (ab_ild 4 (ab_ci (nI 2) (ab_cN w 2 s_X10_finderAt (ab_ild 3 (ab_is w (ab_ald 0 (ab_ild 4 (ab_ci (nI 3) (ab_cN w 2 s_X10_finderAt (ab_ci (nI 0) (ab_is w (ab_ald 0 (ab_ci (nI 2) (ab_dup2 (ab_ia w 11 (ab_ci (nI 1) (ab_b2 (fun x y => x + y) (ab_is w (ab_ild 4 (ab_ir Kn))))))))))))))))))))))))))))))))))))
set_option maxRecDepth 20000 in
set_option maxHeartbeats 2000000 in
theorem vc_X10_addFinderIn {l : Launch} (hl : l.stackTraces = false) {w : ab_W} (hI : ab_Inj w) {mc : Nat} {σ : ab_H} {As : List Value} {Kn : Option Value → ab_H → Prop} {Kx : String → ab_H → Prop} {s_X10_finderAt : ab_S} (ok_X10_finderAt : ab_OkN l yX10_finderAt (Cond.code yX10_finderAt cX10_finderAt 2 (some .int)) 1 s_X10_finderAt) (hlen : (ab_xl As).length ≤ 5) (h : ∀ M : Nat → ab_P, (∀ L st σ, bX10_addFinderIn_0 w s_X10_finderAt M Kn L st σ → M 0 L st σ) → M 0 (ab_pd 5 (ab_xl As)) [] σ) : ab_Met l yX10_addFinderIn (Cond.code yX10_addFinderIn cX10_addFinderIn 5 (some .int)) 2 mc w σ As Kn Kx := by
  refine ab_enter (by decide) hl hI hlen (by decide) ?_
  intro p e R s m args below meth c C hno hr
  exact h _ (sd_aload_n C (i := 0) dX10_addFinderIn_0 rfl (sd_iconst C (x := nI 2) dX10_addFinderIn_1 (by decide +kernel) (sd_ia C dX10_addFinderIn_2 (sd_istore C dX10_addFinderIn_3 (by decide) (sd_aload_n C (i := 0) dX10_addFinderIn_5 rfl (sd_iload C dX10_addFinderIn_6 (sd_iconst C (x := nI 0) dX10_addFinderIn_8 (by decide +kernel) (sd_cS C ok_X10_finderAt ⟨by decide, by decide, wd_1107, wd_11, by decide +kernel⟩ wd_1105 wd_1106 dX10_addFinderIn_9 (sd_iload_n C (i := 1) dX10_addFinderIn_12 rfl (sd_is C dX10_addFinderIn_13 (sd_aload_n C (i := 0) dX10_addFinderIn_14 rfl (sd_iload C dX10_addFinderIn_15 (sd_iconst C (x := nI 1) dX10_addFinderIn_17 (by decide +kernel) (sd_cS C ok_X10_finderAt ⟨by decide, by decide, wd_1107, wd_11, by decide +kernel⟩ wd_1105 wd_1106 dX10_addFinderIn_18 (sd_iload_n C (i := 2) dX10_addFinderIn_21 rfl (sd_is C dX10_addFinderIn_22 (sd_aload_n C (i := 0) dX10_addFinderIn_23 rfl (sd_iload C dX10_addFinderIn_24 (sd_iconst C (x := nI 2) dX10_addFinderIn_26 (by decide +kernel) (sd_cS C ok_X10_finderAt ⟨by decide, by decide, wd_1107, wd_11, by decide +kernel⟩ wd_1105 wd_1106 dX10_addFinderIn_27 (sd_iload_n C (i := 3) dX10_addFinderIn_30 rfl (sd_is C dX10_addFinderIn_31 (sd_aload_n C (i := 0) dX10_addFinderIn_32 rfl (sd_iload C dX10_addFinderIn_33 (sd_iconst C (x := nI 3) dX10_addFinderIn_35 (by decide +kernel) (sd_cS C ok_X10_finderAt ⟨by decide, by decide, wd_1107, wd_11, by decide +kernel⟩ wd_1105 wd_1106 dX10_addFinderIn_36 (sd_iconst C (x := nI 0) dX10_addFinderIn_39 (by decide +kernel) (sd_is C dX10_addFinderIn_40 (sd_aload_n C (i := 0) dX10_addFinderIn_41 rfl (sd_iconst C (x := nI 2) dX10_addFinderIn_42 (by decide +kernel) (sd_dup2 C dX10_addFinderIn_43 (sd_ia C dX10_addFinderIn_44 (sd_iconst C (x := nI 1) dX10_addFinderIn_45 (by decide +kernel) (sd_iadd C dX10_addFinderIn_46 (sd_is C dX10_addFinderIn_47 (sd_iload C dX10_addFinderIn_48 (sd_ir C hr dX10_addFinderIn_50)))))))))))))))))))))))))))))))))))))
theorem dX10_canDeliver_0 : decode cX10_canDeliver 0 = .ok (.iload_n 1, 1) := by decide +kernel
theorem dX10_canDeliver_1 : decode cX10_canDeliver 1 = .ok (.iload_n 2, 1) := by decide +kernel
theorem dX10_canDeliver_2 : decode cX10_canDeliver 2 = .ok (.iadd, 1) := by decide +kernel
theorem dX10_canDeliver_3 : decode cX10_canDeliver 3 = .ok (.ifCond .le 16, 3) := by decide +kernel
theorem dX10_canDeliver_6 : decode cX10_canDeliver 6 = .ok (.aload_n 0, 1) := by decide +kernel
theorem dX10_canDeliver_7 : decode cX10_canDeliver 7 = .ok (.bipush 10, 2) := by decide +kernel
theorem dX10_canDeliver_9 : decode cX10_canDeliver 9 = .ok (.iaload, 1) := by decide +kernel
theorem dX10_canDeliver_10 : decode cX10_canDeliver 10 = .ok (.bipush 8, 2) := by decide +kernel
theorem dX10_canDeliver_12 : decode cX10_canDeliver 12 = .ok (.if_icmp .ge 7, 3) := by decide +kernel
theorem dX10_canDeliver_15 : decode cX10_canDeliver 15 = .ok (.iconst 1, 1) := by decide +kernel
theorem dX10_canDeliver_16 : decode cX10_canDeliver 16 = .ok (.goto 4, 3) := by decide +kernel
theorem dX10_canDeliver_19 : decode cX10_canDeliver 19 = .ok (.iconst 0, 1) := by decide +kernel
theorem dX10_canDeliver_20 : decode cX10_canDeliver 20 = .ok (.ireturn, 1) := by decide +kernel
def bX10_canDeliver_0 (w : ab_W) (M : Nat → ab_P) (Kn : Option Value → ab_H → Prop) : ab_P := ab_ild 1 (ab_ild 2 (ab_b2 (fun x y => x + y) (ab_if1 (fun x => x ≤ 0) (M 19) (ab_ald 0 (ab_ci (nI 10) (ab_ia w 11 (ab_ci (nI 8) (ab_if2 (fun x y => y ≤ x) (M 19) (ab_ci (nI 1) (M 20))))))))))
def bX10_canDeliver_19 (w : ab_W) (M : Nat → ab_P) (Kn : Option Value → ab_H → Prop) : ab_P := ab_ci (nI 0) (M 20)
def bX10_canDeliver_20 (w : ab_W) (M : Nat → ab_P) (Kn : Option Value → ab_H → Prop) : ab_P := ab_zr Kn
set_option maxRecDepth 20000 in
set_option maxHeartbeats 2000000 in
theorem vc_X10_canDeliver {l : Launch} (hl : l.stackTraces = false) {w : ab_W} (hI : ab_Inj w) {mc : Nat} {σ : ab_H} {As : List Value} {Kn : Option Value → ab_H → Prop} {Kx : String → ab_H → Prop} (hlen : (ab_xl As).length ≤ 3) (h : ∀ M : Nat → ab_P, (∀ L st σ, bX10_canDeliver_0 w M Kn L st σ → M 0 L st σ) → (∀ L st σ, bX10_canDeliver_19 w M Kn L st σ → M 19 L st σ) → (∀ L st σ, bX10_canDeliver_20 w M Kn L st σ → M 20 L st σ) → M 0 (ab_pd 3 (ab_xl As)) [] σ) : ab_Met l yX10_canDeliver (Cond.code yX10_canDeliver cX10_canDeliver 3 (some .boolean)) 1 mc w σ As Kn Kx := by
  refine ab_enter (by decide) hl hI hlen (by decide) ?_
  intro p e R s m args below meth c C hno hr
  exact h _ (sd_iload_n C (i := 1) dX10_canDeliver_0 rfl (sd_iload_n C (i := 2) dX10_canDeliver_1 rfl (sd_iadd C dX10_canDeliver_2 (sd_if_le C dX10_canDeliver_3 (tgt := 19) (by decide) (fun _ _ _ h => h) (sd_aload_n C (i := 0) dX10_canDeliver_6 rfl (sd_bipush C (x := nI 10) dX10_canDeliver_7 (by decide +kernel) (sd_ia C dX10_canDeliver_9 (sd_bipush C (x := nI 8) dX10_canDeliver_10 (by decide +kernel) (sd_icmp_ge C dX10_canDeliver_12 (tgt := 19) (by decide) (fun _ _ _ h => h) (sd_iconst C (x := nI 1) dX10_canDeliver_15 (by decide +kernel) (sd_goto C dX10_canDeliver_16 (tgt := 20) (by decide) (fun _ _ _ h => h))))))))))))
    (sd_iconst C (x := nI 0) dX10_canDeliver_19 (by decide +kernel) (fun _ _ _ h => h))
    (sd_zr C hr dX10_canDeliver_20)
theorem dX10_deliverIn_0 : decode cX10_deliverIn 0 = .ok (.aload_n 0, 1) := by decide +kernel
theorem dX10_deliverIn_1 : decode cX10_deliverIn 1 = .ok (.bipush 10, 2) := by decide +kernel
theorem dX10_deliverIn_3 : decode cX10_deliverIn 3 = .ok (.iaload, 1) := by decide +kernel
theorem dX10_deliverIn_4 : decode cX10_deliverIn 4 = .ok (.istore 4, 2) := by decide +kernel
theorem dX10_deliverIn_6 : decode cX10_deliverIn 6 = .ok (.iload_n 2, 1) := by decide +kernel
theorem dX10_deliverIn_7 : decode cX10_deliverIn 7 = .ok (.aload_n 0, 1) := by decide +kernel
theorem dX10_deliverIn_8 : decode cX10_deliverIn 8 = .ok (.bipush 14, 2) := by decide +kernel
theorem dX10_deliverIn_10 : decode cX10_deliverIn 10 = .ok (.iaload, 1) := by decide +kernel
theorem dX10_deliverIn_11 : decode cX10_deliverIn 11 = .ok (.imul, 1) := by decide +kernel
theorem dX10_deliverIn_12 : decode cX10_deliverIn 12 = .ok (.iload_n 3, 1) := by decide +kernel
theorem dX10_deliverIn_13 : decode cX10_deliverIn 13 = .ok (.aload_n 0, 1) := by decide +kernel
theorem dX10_deliverIn_14 : decode cX10_deliverIn 14 = .ok (.bipush 15, 2) := by decide +kernel
theorem dX10_deliverIn_16 : decode cX10_deliverIn 16 = .ok (.iaload, 1) := by decide +kernel
theorem dX10_deliverIn_17 : decode cX10_deliverIn 17 = .ok (.imul, 1) := by decide +kernel
theorem dX10_deliverIn_18 : decode cX10_deliverIn 18 = .ok (.iadd, 1) := by decide +kernel
theorem dX10_deliverIn_19 : decode cX10_deliverIn 19 = .ok (.istore 5, 2) := by decide +kernel
theorem dX10_deliverIn_21 : decode cX10_deliverIn 21 = .ok (.aload_n 0, 1) := by decide +kernel
theorem dX10_deliverIn_22 : decode cX10_deliverIn 22 = .ok (.iload 4, 2) := by decide +kernel
theorem dX10_deliverIn_24 : decode cX10_deliverIn 24 = .ok (.iconst 0, 1) := by decide +kernel
theorem dX10_deliverIn_25 : decode cX10_deliverIn 25 = .ok (.invokestatic 72, 3) := by decide +kernel
theorem dX10_deliverIn_28 : decode cX10_deliverIn 28 = .ok (.aload_n 0, 1) := by decide +kernel
theorem dX10_deliverIn_29 : decode cX10_deliverIn 29 = .ok (.iconst 0, 1) := by decide +kernel
theorem dX10_deliverIn_30 : decode cX10_deliverIn 30 = .ok (.iaload, 1) := by decide +kernel
theorem dX10_deliverIn_31 : decode cX10_deliverIn 31 = .ok (.aload_n 0, 1) := by decide +kernel
theorem dX10_deliverIn_32 : decode cX10_deliverIn 32 = .ok (.bipush 12, 2) := by decide +kernel
theorem dX10_deliverIn_34 : decode cX10_deliverIn 34 = .ok (.iaload, 1) := by decide +kernel
theorem dX10_deliverIn_35 : decode cX10_deliverIn 35 = .ok (.iadd, 1) := by decide +kernel
theorem dX10_deliverIn_36 : decode cX10_deliverIn 36 = .ok (.iastore, 1) := by decide +kernel
theorem dX10_deliverIn_37 : decode cX10_deliverIn 37 = .ok (.aload_n 0, 1) := by decide +kernel
theorem dX10_deliverIn_38 : decode cX10_deliverIn 38 = .ok (.iload 4, 2) := by decide +kernel
theorem dX10_deliverIn_40 : decode cX10_deliverIn 40 = .ok (.iconst 1, 1) := by decide +kernel
theorem dX10_deliverIn_41 : decode cX10_deliverIn 41 = .ok (.invokestatic 72, 3) := by decide +kernel
theorem dX10_deliverIn_44 : decode cX10_deliverIn 44 = .ok (.iload_n 1, 1) := by decide +kernel
theorem dX10_deliverIn_45 : decode cX10_deliverIn 45 = .ok (.iastore, 1) := by decide +kernel
theorem dX10_deliverIn_46 : decode cX10_deliverIn 46 = .ok (.aload_n 0, 1) := by decide +kernel
theorem dX10_deliverIn_47 : decode cX10_deliverIn 47 = .ok (.iload 4, 2) := by decide +kernel
theorem dX10_deliverIn_49 : decode cX10_deliverIn 49 = .ok (.iconst 2, 1) := by decide +kernel
theorem dX10_deliverIn_50 : decode cX10_deliverIn 50 = .ok (.invokestatic 72, 3) := by decide +kernel
theorem dX10_deliverIn_53 : decode cX10_deliverIn 53 = .ok (.iload_n 2, 1) := by decide +kernel
theorem dX10_deliverIn_54 : decode cX10_deliverIn 54 = .ok (.iastore, 1) := by decide +kernel
theorem dX10_deliverIn_55 : decode cX10_deliverIn 55 = .ok (.aload_n 0, 1) := by decide +kernel
theorem dX10_deliverIn_56 : decode cX10_deliverIn 56 = .ok (.iload 4, 2) := by decide +kernel
theorem dX10_deliverIn_58 : decode cX10_deliverIn 58 = .ok (.iconst 3, 1) := by decide +kernel
theorem dX10_deliverIn_59 : decode cX10_deliverIn 59 = .ok (.invokestatic 72, 3) := by decide +kernel
theorem dX10_deliverIn_62 : decode cX10_deliverIn 62 = .ok (.iload_n 3, 1) := by decide +kernel
theorem dX10_deliverIn_63 : decode cX10_deliverIn 63 = .ok (.iastore, 1) := by decide +kernel
theorem dX10_deliverIn_64 : decode cX10_deliverIn 64 = .ok (.aload_n 0, 1) := by decide +kernel
theorem dX10_deliverIn_65 : decode cX10_deliverIn 65 = .ok (.bipush 10, 2) := by decide +kernel
theorem dX10_deliverIn_67 : decode cX10_deliverIn 67 = .ok (.dup2, 1) := by decide +kernel
theorem dX10_deliverIn_68 : decode cX10_deliverIn 68 = .ok (.iaload, 1) := by decide +kernel
theorem dX10_deliverIn_69 : decode cX10_deliverIn 69 = .ok (.iconst 1, 1) := by decide +kernel
theorem dX10_deliverIn_70 : decode cX10_deliverIn 70 = .ok (.iadd, 1) := by decide +kernel
theorem dX10_deliverIn_71 : decode cX10_deliverIn 71 = .ok (.iastore, 1) := by decide +kernel
theorem dX10_deliverIn_72 : decode cX10_deliverIn 72 = .ok (.aload_n 0, 1) := by decide +kernel
theorem dX10_deliverIn_73 : decode cX10_deliverIn 73 = .ok (.iconst 3, 1) := by decide +kernel
theorem dX10_deliverIn_74 : decode cX10_deliverIn 74 = .ok (.dup2, 1) := by decide +kernel
theorem dX10_deliverIn_75 : decode cX10_deliverIn 75 = .ok (.iaload, 1) := by decide +kernel
theorem dX10_deliverIn_76 : decode cX10_deliverIn 76 = .ok (.iload 5, 2) := by decide +kernel
theorem dX10_deliverIn_78 : decode cX10_deliverIn 78 = .ok (.iadd, 1) := by decide +kernel
theorem dX10_deliverIn_79 : decode cX10_deliverIn 79 = .ok (.iastore, 1) := by decide +kernel
theorem dX10_deliverIn_80 : decode cX10_deliverIn 80 = .ok (.iload 5, 2) := by decide +kernel
theorem dX10_deliverIn_82 : decode cX10_deliverIn 82 = .ok (.ireturn, 1) := by decide +kernel
def bX10_deliverIn_0 (w : ab_W) (s_X10_sendAt : ab_S) (M : Nat → ab_P) (Kn : Option Value → ab_H → Prop) : ab_P := ab_ald 0 (ab_ci (nI 10) (ab_ia w 11 (ab_ist 4 (ab_ild 2 (ab_ald 0 (ab_ci (nI 14) (ab_ia w 11 (ab_b2 (fun x y => x * y) (ab_ild 3 (ab_ald 0 (ab_ci (nI 15) (ab_ia w 11 (ab_b2 (fun x y => x * y) (ab_b2 (fun x y => x + y) (ab_ist 5 (ab_ald 0 (ab_ild 4 (ab_ci (nI 0) (ab_cN w 2 s_X10_sendAt (ab_ald 0 (ab_ci (nI 0) (ab_ia w 11 (ab_ald 0 (ab_ci (nI 12) (ab_ia w 11 (ab_b2 (fun x y => x + y) (ab_is w (ab_ald 0 (ab_ild 4 (ab_ci (nI 1) (ab_cN w 2 s_X10_sendAt (ab_ild 1 (ab_is w (ab_ald 0 (ab_ild 4 (ab_ci (nI 2) (ab_cN w 2 s_X10_sendAt (ab_ild 2 (ab_is w (ab_ald 0 (ab_ild 4 (ab_ci (nI 3) (ab_cN w 2 s_X10_sendAt (ab_ild 3 (ab_is w (ab_ald 0 (ab_ci (nI 10) (ab_dup2 (ab_ia w 11 (ab_ci (nI 1) (ab_b2 (fun x y => x + y) (ab_is w (ab_ald 0 (ab_ci (nI 3) (ab_dup2 (ab_ia w 11 (ab_ild 5 (ab_b2 (fun x y => x + y) (ab_is w (ab_ild 5 (ab_ir Kn)))))))))))))))))))))))))))))))))))))))))))))))))))))))))))))
set_option maxRecDepth 20000 in
set_option maxHeartbeats 2000000 in
theorem vc_X10_deliverIn {l : Launch} (hl : l.stackTraces = false) {w : ab_W} (hI : ab_Inj w) {mc : Nat} {σ : ab_H} {As : List Value} {Kn : Option Value → ab_H → Prop} {Kx : String → ab_H → Prop} {s_X10_sendAt : ab_S} (ok_X10_sendAt : ab_OkN l yX10_sendAt (Cond.code yX10_sendAt cX10_sendAt 2 (some .int)) 1 s_X10_sendAt) (hlen : (ab_xl As).length ≤ 6) (h : ∀ M : Nat → ab_P, (∀ L st σ, bX10_deliverIn_0 w s_X10_sendAt M Kn L st σ → M 0 L st σ) → M 0 (ab_pd 6 (ab_xl As)) [] σ) : ab_Met l yX10_deliverIn (Cond.code yX10_deliverIn cX10_deliverIn 6 (some .int)) 2 mc w σ As Kn Kx := by
  refine ab_enter (by decide) hl hI hlen (by decide) ?_
  intro p e R s m args below meth c C hno hr
  exact h _ (sd_aload_n C (i := 0) dX10_deliverIn_0 rfl (sd_bipush C (x := nI 10) dX10_deliverIn_1 (by decide +kernel) (sd_ia C dX10_deliverIn_3 (sd_istore C dX10_deliverIn_4 (by decide) (sd_iload_n C (i := 2) dX10_deliverIn_6 rfl (sd_aload_n C (i := 0) dX10_deliverIn_7 rfl (sd_bipush C (x := nI 14) dX10_deliverIn_8 (by decide +kernel) (sd_ia C dX10_deliverIn_10 (sd_imul C dX10_deliverIn_11 (sd_iload_n C (i := 3) dX10_deliverIn_12 rfl (sd_aload_n C (i := 0) dX10_deliverIn_13 rfl (sd_bipush C (x := nI 15) dX10_deliverIn_14 (by decide +kernel) (sd_ia C dX10_deliverIn_16 (sd_imul C dX10_deliverIn_17 (sd_iadd C dX10_deliverIn_18 (sd_istore C dX10_deliverIn_19 (by decide) (sd_aload_n C (i := 0) dX10_deliverIn_21 rfl (sd_iload C dX10_deliverIn_22 (sd_iconst C (x := nI 0) dX10_deliverIn_24 (by decide +kernel) (sd_cS C ok_X10_sendAt ⟨by decide, by decide, wd_1124, wd_11, by decide +kernel⟩ wd_1122 wd_1123 dX10_deliverIn_25 (sd_aload_n C (i := 0) dX10_deliverIn_28 rfl (sd_iconst C (x := nI 0) dX10_deliverIn_29 (by decide +kernel) (sd_ia C dX10_deliverIn_30 (sd_aload_n C (i := 0) dX10_deliverIn_31 rfl (sd_bipush C (x := nI 12) dX10_deliverIn_32 (by decide +kernel) (sd_ia C dX10_deliverIn_34 (sd_iadd C dX10_deliverIn_35 (sd_is C dX10_deliverIn_36 (sd_aload_n C (i := 0) dX10_deliverIn_37 rfl (sd_iload C dX10_deliverIn_38 (sd_iconst C (x := nI 1) dX10_deliverIn_40 (by decide +kernel) (sd_cS C ok_X10_sendAt ⟨by decide, by decide, wd_1124, wd_11, by decide +kernel⟩ wd_1122 wd_1123 dX10_deliverIn_41 (sd_iload_n C (i := 1) dX10_deliverIn_44 rfl (sd_is C dX10_deliverIn_45 (sd_aload_n C (i := 0) dX10_deliverIn_46 rfl (sd_iload C dX10_deliverIn_47 (sd_iconst C (x := nI 2) dX10_deliverIn_49 (by decide +kernel) (sd_cS C ok_X10_sendAt ⟨by decide, by decide, wd_1124, wd_11, by decide +kernel⟩ wd_1122 wd_1123 dX10_deliverIn_50 (sd_iload_n C (i := 2) dX10_deliverIn_53 rfl (sd_is C dX10_deliverIn_54 (sd_aload_n C (i := 0) dX10_deliverIn_55 rfl (sd_iload C dX10_deliverIn_56 (sd_iconst C (x := nI 3) dX10_deliverIn_58 (by decide +kernel) (sd_cS C ok_X10_sendAt ⟨by decide, by decide, wd_1124, wd_11, by decide +kernel⟩ wd_1122 wd_1123 dX10_deliverIn_59 (sd_iload_n C (i := 3) dX10_deliverIn_62 rfl (sd_is C dX10_deliverIn_63 (sd_aload_n C (i := 0) dX10_deliverIn_64 rfl (sd_bipush C (x := nI 10) dX10_deliverIn_65 (by decide +kernel) (sd_dup2 C dX10_deliverIn_67 (sd_ia C dX10_deliverIn_68 (sd_iconst C (x := nI 1) dX10_deliverIn_69 (by decide +kernel) (sd_iadd C dX10_deliverIn_70 (sd_is C dX10_deliverIn_71 (sd_aload_n C (i := 0) dX10_deliverIn_72 rfl (sd_iconst C (x := nI 3) dX10_deliverIn_73 (by decide +kernel) (sd_dup2 C dX10_deliverIn_74 (sd_ia C dX10_deliverIn_75 (sd_iload C dX10_deliverIn_76 (sd_iadd C dX10_deliverIn_78 (sd_is C dX10_deliverIn_79 (sd_iload C dX10_deliverIn_80 (sd_ir C hr dX10_deliverIn_82))))))))))))))))))))))))))))))))))))))))))))))))))))))))))))))
theorem dX10_canMove_0 : decode cX10_canMove 0 = .ok (.iload_n 1, 1) := by decide +kernel
theorem dX10_canMove_1 : decode cX10_canMove 1 = .ok (.iload_n 2, 1) := by decide +kernel
theorem dX10_canMove_2 : decode cX10_canMove 2 = .ok (.if_icmp .eq 16, 3) := by decide +kernel
theorem dX10_canMove_5 : decode cX10_canMove 5 = .ok (.aload_n 0, 1) := by decide +kernel
theorem dX10_canMove_6 : decode cX10_canMove 6 = .ok (.iload_n 1, 1) := by decide +kernel
theorem dX10_canMove_7 : decode cX10_canMove 7 = .ok (.invokestatic 86, 3) := by decide +kernel
theorem dX10_canMove_10 : decode cX10_canMove 10 = .ok (.iconst (-1), 1) := by decide +kernel
theorem dX10_canMove_11 : decode cX10_canMove 11 = .ok (.if_icmp .eq 7, 3) := by decide +kernel
theorem dX10_canMove_14 : decode cX10_canMove 14 = .ok (.iconst 1, 1) := by decide +kernel
theorem dX10_canMove_15 : decode cX10_canMove 15 = .ok (.goto 4, 3) := by decide +kernel
theorem dX10_canMove_18 : decode cX10_canMove 18 = .ok (.iconst 0, 1) := by decide +kernel
theorem dX10_canMove_19 : decode cX10_canMove 19 = .ok (.ireturn, 1) := by decide +kernel
def bX10_canMove_0 (w : ab_W) (s_X10_mostFlown : ab_S) (M : Nat → ab_P) (Kn : Option Value → ab_H → Prop) : ab_P := ab_ild 1 (ab_ild 2 (ab_if2 (fun x y => x = y) (M 18) (ab_ald 0 (ab_ild 1 (ab_cN w 2 s_X10_mostFlown (ab_ci (-1) (ab_if2 (fun x y => x = y) (M 18) (ab_ci (nI 1) (M 19)))))))))
def bX10_canMove_18 (w : ab_W) (s_X10_mostFlown : ab_S) (M : Nat → ab_P) (Kn : Option Value → ab_H → Prop) : ab_P := ab_ci (nI 0) (M 19)
def bX10_canMove_19 (w : ab_W) (s_X10_mostFlown : ab_S) (M : Nat → ab_P) (Kn : Option Value → ab_H → Prop) : ab_P := ab_zr Kn
set_option maxRecDepth 20000 in
set_option maxHeartbeats 2000000 in
theorem vc_X10_canMove {l : Launch} (hl : l.stackTraces = false) {w : ab_W} (hI : ab_Inj w) {mc : Nat} {σ : ab_H} {As : List Value} {Kn : Option Value → ab_H → Prop} {Kx : String → ab_H → Prop} {s_X10_mostFlown : ab_S} (ok_X10_mostFlown : ab_OkN l yX10_mostFlown (Cond.code yX10_mostFlown cX10_mostFlown 4 (some .int)) 2 s_X10_mostFlown) (hlen : (ab_xl As).length ≤ 3) (h : ∀ M : Nat → ab_P, (∀ L st σ, bX10_canMove_0 w s_X10_mostFlown M Kn L st σ → M 0 L st σ) → (∀ L st σ, bX10_canMove_18 w s_X10_mostFlown M Kn L st σ → M 18 L st σ) → (∀ L st σ, bX10_canMove_19 w s_X10_mostFlown M Kn L st σ → M 19 L st σ) → M 0 (ab_pd 3 (ab_xl As)) [] σ) : ab_Met l yX10_canMove (Cond.code yX10_canMove cX10_canMove 3 (some .boolean)) 3 mc w σ As Kn Kx := by
  refine ab_enter (by decide) hl hI hlen (by decide) ?_
  intro p e R s m args below meth c C hno hr
  exact h _ (sd_iload_n C (i := 1) dX10_canMove_0 rfl (sd_iload_n C (i := 2) dX10_canMove_1 rfl (sd_icmp_eq C dX10_canMove_2 (tgt := 18) (by decide) (fun _ _ _ h => h) (sd_aload_n C (i := 0) dX10_canMove_5 rfl (sd_iload_n C (i := 1) dX10_canMove_6 rfl (sd_cS C ok_X10_mostFlown ⟨by decide, by decide, wd_1157, wd_11, by decide +kernel⟩ wd_1155 wd_1156 dX10_canMove_7 (sd_iconst C (x := -1) dX10_canMove_10 (by decide +kernel) (sd_icmp_eq C dX10_canMove_11 (tgt := 18) (by decide) (fun _ _ _ h => h) (sd_iconst C (x := nI 1) dX10_canMove_14 (by decide +kernel) (sd_goto C dX10_canMove_15 (tgt := 19) (by decide) (fun _ _ _ h => h)))))))))))
    (sd_iconst C (x := nI 0) dX10_canMove_18 (by decide +kernel) (fun _ _ _ h => h))
    (sd_zr C hr dX10_canMove_19)
theorem dX10_moveIn_0 : decode cX10_moveIn 0 = .ok (.aload_n 0, 1) := by decide +kernel
theorem dX10_moveIn_1 : decode cX10_moveIn 1 = .ok (.iload_n 1, 1) := by decide +kernel
theorem dX10_moveIn_2 : decode cX10_moveIn 2 = .ok (.invokestatic 86, 3) := by decide +kernel
theorem dX10_moveIn_5 : decode cX10_moveIn 5 = .ok (.istore_n 3, 1) := by decide +kernel
theorem dX10_moveIn_6 : decode cX10_moveIn 6 = .ok (.aload_n 0, 1) := by decide +kernel
theorem dX10_moveIn_7 : decode cX10_moveIn 7 = .ok (.iload_n 1, 1) := by decide +kernel
theorem dX10_moveIn_8 : decode cX10_moveIn 8 = .ok (.iconst 4, 1) := by decide +kernel
theorem dX10_moveIn_9 : decode cX10_moveIn 9 = .ok (.iload_n 3, 1) := by decide +kernel
theorem dX10_moveIn_10 : decode cX10_moveIn 10 = .ok (.iadd, 1) := by decide +kernel
theorem dX10_moveIn_11 : decode cX10_moveIn 11 = .ok (.invokestatic 52, 3) := by decide +kernel
theorem dX10_moveIn_14 : decode cX10_moveIn 14 = .ok (.dup2, 1) := by decide +kernel
theorem dX10_moveIn_15 : decode cX10_moveIn 15 = .ok (.iaload, 1) := by decide +kernel
theorem dX10_moveIn_16 : decode cX10_moveIn 16 = .ok (.iconst 1, 1) := by decide +kernel
theorem dX10_moveIn_17 : decode cX10_moveIn 17 = .ok (.isub, 1) := by decide +kernel
theorem dX10_moveIn_18 : decode cX10_moveIn 18 = .ok (.iastore, 1) := by decide +kernel
theorem dX10_moveIn_19 : decode cX10_moveIn 19 = .ok (.aload_n 0, 1) := by decide +kernel
theorem dX10_moveIn_20 : decode cX10_moveIn 20 = .ok (.iload_n 2, 1) := by decide +kernel
theorem dX10_moveIn_21 : decode cX10_moveIn 21 = .ok (.iconst 4, 1) := by decide +kernel
theorem dX10_moveIn_22 : decode cX10_moveIn 22 = .ok (.iload_n 3, 1) := by decide +kernel
theorem dX10_moveIn_23 : decode cX10_moveIn 23 = .ok (.iadd, 1) := by decide +kernel
theorem dX10_moveIn_24 : decode cX10_moveIn 24 = .ok (.invokestatic 52, 3) := by decide +kernel
theorem dX10_moveIn_27 : decode cX10_moveIn 27 = .ok (.dup2, 1) := by decide +kernel
theorem dX10_moveIn_28 : decode cX10_moveIn 28 = .ok (.iaload, 1) := by decide +kernel
theorem dX10_moveIn_29 : decode cX10_moveIn 29 = .ok (.iconst 1, 1) := by decide +kernel
theorem dX10_moveIn_30 : decode cX10_moveIn 30 = .ok (.iadd, 1) := by decide +kernel
theorem dX10_moveIn_31 : decode cX10_moveIn 31 = .ok (.iastore, 1) := by decide +kernel
theorem dX10_moveIn_32 : decode cX10_moveIn 32 = .ok (.iload_n 3, 1) := by decide +kernel
theorem dX10_moveIn_33 : decode cX10_moveIn 33 = .ok (.ireturn, 1) := by decide +kernel
def bX10_moveIn_0 (w : ab_W) (s_X10_mostFlown : ab_S) (s_X10_stationAt : ab_S) (M : Nat → ab_P) (Kn : Option Value → ab_H → Prop) : ab_P := ab_ald 0 (ab_ild 1 (ab_cN w 2 s_X10_mostFlown (ab_ist 3 (ab_ald 0 (ab_ild 1 (ab_ci (nI 4) (ab_ild 3 (ab_b2 (fun x y => x + y) (ab_cN w 2 s_X10_stationAt (ab_dup2 (ab_ia w 11 (ab_ci (nI 1) (ab_b2 (fun x y => x - y) (ab_is w (ab_ald 0 (ab_ild 2 (ab_ci (nI 4) (ab_ild 3 (ab_b2 (fun x y => x + y) (ab_cN w 2 s_X10_stationAt (ab_dup2 (ab_ia w 11 (ab_ci (nI 1) (ab_b2 (fun x y => x + y) (ab_is w (ab_ild 3 (ab_ir Kn)))))))))))))))))))))))))))
set_option maxRecDepth 20000 in
set_option maxHeartbeats 2000000 in
theorem vc_X10_moveIn {l : Launch} (hl : l.stackTraces = false) {w : ab_W} (hI : ab_Inj w) {mc : Nat} {σ : ab_H} {As : List Value} {Kn : Option Value → ab_H → Prop} {Kx : String → ab_H → Prop} {s_X10_mostFlown : ab_S} (ok_X10_mostFlown : ab_OkN l yX10_mostFlown (Cond.code yX10_mostFlown cX10_mostFlown 4 (some .int)) 2 s_X10_mostFlown) {s_X10_stationAt : ab_S} (ok_X10_stationAt : ab_OkN l yX10_stationAt (Cond.code yX10_stationAt cX10_stationAt 2 (some .int)) 1 s_X10_stationAt) (hlen : (ab_xl As).length ≤ 4) (h : ∀ M : Nat → ab_P, (∀ L st σ, bX10_moveIn_0 w s_X10_mostFlown s_X10_stationAt M Kn L st σ → M 0 L st σ) → M 0 (ab_pd 4 (ab_xl As)) [] σ) : ab_Met l yX10_moveIn (Cond.code yX10_moveIn cX10_moveIn 4 (some .int)) 3 mc w σ As Kn Kx := by
  refine ab_enter (by decide) hl hI hlen (by decide) ?_
  intro p e R s m args below meth c C hno hr
  exact h _ (sd_aload_n C (i := 0) dX10_moveIn_0 rfl (sd_iload_n C (i := 1) dX10_moveIn_1 rfl (sd_cS C ok_X10_mostFlown ⟨by decide, by decide, wd_1157, wd_11, by decide +kernel⟩ wd_1155 wd_1156 dX10_moveIn_2 (sd_istore_n C (i := 3) dX10_moveIn_5 rfl (by decide) (sd_aload_n C (i := 0) dX10_moveIn_6 rfl (sd_iload_n C (i := 1) dX10_moveIn_7 rfl (sd_iconst C (x := nI 4) dX10_moveIn_8 (by decide +kernel) (sd_iload_n C (i := 3) dX10_moveIn_9 rfl (sd_iadd C dX10_moveIn_10 (sd_cS C ok_X10_stationAt ⟨by decide, by decide, wd_1097, wd_11, by decide +kernel⟩ wd_1095 wd_1096 dX10_moveIn_11 (sd_dup2 C dX10_moveIn_14 (sd_ia C dX10_moveIn_15 (sd_iconst C (x := nI 1) dX10_moveIn_16 (by decide +kernel) (sd_isub C dX10_moveIn_17 (sd_is C dX10_moveIn_18 (sd_aload_n C (i := 0) dX10_moveIn_19 rfl (sd_iload_n C (i := 2) dX10_moveIn_20 rfl (sd_iconst C (x := nI 4) dX10_moveIn_21 (by decide +kernel) (sd_iload_n C (i := 3) dX10_moveIn_22 rfl (sd_iadd C dX10_moveIn_23 (sd_cS C ok_X10_stationAt ⟨by decide, by decide, wd_1097, wd_11, by decide +kernel⟩ wd_1095 wd_1096 dX10_moveIn_24 (sd_dup2 C dX10_moveIn_27 (sd_ia C dX10_moveIn_28 (sd_iconst C (x := nI 1) dX10_moveIn_29 (by decide +kernel) (sd_iadd C dX10_moveIn_30 (sd_is C dX10_moveIn_31 (sd_iload_n C (i := 3) dX10_moveIn_32 rfl (sd_ir C hr dX10_moveIn_33))))))))))))))))))))))))))))
theorem dX10_changeIn_0 : decode cX10_changeIn 0 = .ok (.aload_n 0, 1) := by decide +kernel
theorem dX10_changeIn_1 : decode cX10_changeIn 1 = .ok (.iload_n 1, 1) := by decide +kernel
theorem dX10_changeIn_2 : decode cX10_changeIn 2 = .ok (.iconst 1, 1) := by decide +kernel
theorem dX10_changeIn_3 : decode cX10_changeIn 3 = .ok (.invokestatic 52, 3) := by decide +kernel
theorem dX10_changeIn_6 : decode cX10_changeIn 6 = .ok (.iaload, 1) := by decide +kernel
theorem dX10_changeIn_7 : decode cX10_changeIn 7 = .ok (.istore 4, 2) := by decide +kernel
theorem dX10_changeIn_9 : decode cX10_changeIn 9 = .ok (.aload_n 0, 1) := by decide +kernel
theorem dX10_changeIn_10 : decode cX10_changeIn 10 = .ok (.iload_n 1, 1) := by decide +kernel
theorem dX10_changeIn_11 : decode cX10_changeIn 11 = .ok (.iconst 1, 1) := by decide +kernel
theorem dX10_changeIn_12 : decode cX10_changeIn 12 = .ok (.invokestatic 52, 3) := by decide +kernel
theorem dX10_changeIn_15 : decode cX10_changeIn 15 = .ok (.iload_n 2, 1) := by decide +kernel
theorem dX10_changeIn_16 : decode cX10_changeIn 16 = .ok (.iastore, 1) := by decide +kernel
theorem dX10_changeIn_17 : decode cX10_changeIn 17 = .ok (.aload_n 0, 1) := by decide +kernel
theorem dX10_changeIn_18 : decode cX10_changeIn 18 = .ok (.iload_n 1, 1) := by decide +kernel
theorem dX10_changeIn_19 : decode cX10_changeIn 19 = .ok (.iconst 2, 1) := by decide +kernel
theorem dX10_changeIn_20 : decode cX10_changeIn 20 = .ok (.invokestatic 52, 3) := by decide +kernel
theorem dX10_changeIn_23 : decode cX10_changeIn 23 = .ok (.iload_n 3, 1) := by decide +kernel
theorem dX10_changeIn_24 : decode cX10_changeIn 24 = .ok (.iastore, 1) := by decide +kernel
theorem dX10_changeIn_25 : decode cX10_changeIn 25 = .ok (.iload 4, 2) := by decide +kernel
theorem dX10_changeIn_27 : decode cX10_changeIn 27 = .ok (.ireturn, 1) := by decide +kernel
def bX10_changeIn_0 (w : ab_W) (s_X10_stationAt : ab_S) (M : Nat → ab_P) (Kn : Option Value → ab_H → Prop) : ab_P := ab_ald 0 (ab_ild 1 (ab_ci (nI 1) (ab_cN w 2 s_X10_stationAt (ab_ia w 11 (ab_ist 4 (ab_ald 0 (ab_ild 1 (ab_ci (nI 1) (ab_cN w 2 s_X10_stationAt (ab_ild 2 (ab_is w (ab_ald 0 (ab_ild 1 (ab_ci (nI 2) (ab_cN w 2 s_X10_stationAt (ab_ild 3 (ab_is w (ab_ild 4 (ab_ir Kn)))))))))))))))))))
set_option maxRecDepth 20000 in
set_option maxHeartbeats 2000000 in
theorem vc_X10_changeIn {l : Launch} (hl : l.stackTraces = false) {w : ab_W} (hI : ab_Inj w) {mc : Nat} {σ : ab_H} {As : List Value} {Kn : Option Value → ab_H → Prop} {Kx : String → ab_H → Prop} {s_X10_stationAt : ab_S} (ok_X10_stationAt : ab_OkN l yX10_stationAt (Cond.code yX10_stationAt cX10_stationAt 2 (some .int)) 1 s_X10_stationAt) (hlen : (ab_xl As).length ≤ 5) (h : ∀ M : Nat → ab_P, (∀ L st σ, bX10_changeIn_0 w s_X10_stationAt M Kn L st σ → M 0 L st σ) → M 0 (ab_pd 5 (ab_xl As)) [] σ) : ab_Met l yX10_changeIn (Cond.code yX10_changeIn cX10_changeIn 5 (some .int)) 2 mc w σ As Kn Kx := by
  refine ab_enter (by decide) hl hI hlen (by decide) ?_
  intro p e R s m args below meth c C hno hr
  exact h _ (sd_aload_n C (i := 0) dX10_changeIn_0 rfl (sd_iload_n C (i := 1) dX10_changeIn_1 rfl (sd_iconst C (x := nI 1) dX10_changeIn_2 (by decide +kernel) (sd_cS C ok_X10_stationAt ⟨by decide, by decide, wd_1097, wd_11, by decide +kernel⟩ wd_1095 wd_1096 dX10_changeIn_3 (sd_ia C dX10_changeIn_6 (sd_istore C dX10_changeIn_7 (by decide) (sd_aload_n C (i := 0) dX10_changeIn_9 rfl (sd_iload_n C (i := 1) dX10_changeIn_10 rfl (sd_iconst C (x := nI 1) dX10_changeIn_11 (by decide +kernel) (sd_cS C ok_X10_stationAt ⟨by decide, by decide, wd_1097, wd_11, by decide +kernel⟩ wd_1095 wd_1096 dX10_changeIn_12 (sd_iload_n C (i := 2) dX10_changeIn_15 rfl (sd_is C dX10_changeIn_16 (sd_aload_n C (i := 0) dX10_changeIn_17 rfl (sd_iload_n C (i := 1) dX10_changeIn_18 rfl (sd_iconst C (x := nI 2) dX10_changeIn_19 (by decide +kernel) (sd_cS C ok_X10_stationAt ⟨by decide, by decide, wd_1097, wd_11, by decide +kernel⟩ wd_1095 wd_1096 dX10_changeIn_20 (sd_iload_n C (i := 3) dX10_changeIn_23 rfl (sd_is C dX10_changeIn_24 (sd_iload C dX10_changeIn_25 (sd_ir C hr dX10_changeIn_27))))))))))))))))))))
theorem dX10_append_0 : decode cX10_append 0 = .ok (.aload_n 0, 1) := by decide +kernel
theorem dX10_append_1 : decode cX10_append 1 = .ok (.iload_n 1, 1) := by decide +kernel
theorem dX10_append_2 : decode cX10_append 2 = .ok (.i2l, 1) := by decide +kernel
theorem dX10_append_3 : decode cX10_append 3 = .ok (.lconst 0, 1) := by decide +kernel
theorem dX10_append_4 : decode cX10_append 4 = .ok (.ldc2_w 122, 3) := by decide +kernel
theorem dX10_append_7 : decode cX10_append 7 = .ok (.invokestatic 62, 3) := by decide +kernel
theorem dX10_append_10 : decode cX10_append 10 = .ok (.ifCond .ne 7, 3) := by decide +kernel
theorem dX10_append_13 : decode cX10_append 13 = .ok (.iconst 1, 1) := by decide +kernel
theorem dX10_append_14 : decode cX10_append 14 = .ok (.goto 17, 3) := by decide +kernel
theorem dX10_append_17 : decode cX10_append 17 = .ok (.aload_n 0, 1) := by decide +kernel
theorem dX10_append_18 : decode cX10_append 18 = .ok (.getfield 124, 3) := by decide +kernel
theorem dX10_append_21 : decode cX10_append 21 = .ok (.bipush 120, 2) := by decide +kernel
theorem dX10_append_23 : decode cX10_append 23 = .ok (.if_icmp .ne 7, 3) := by decide +kernel
theorem dX10_append_26 : decode cX10_append 26 = .ok (.iconst 2, 1) := by decide +kernel
theorem dX10_append_27 : decode cX10_append 27 = .ok (.goto 4, 3) := by decide +kernel
theorem dX10_append_30 : decode cX10_append 30 = .ok (.iconst 0, 1) := by decide +kernel
theorem dX10_append_31 : decode cX10_append 31 = .ok (.invokevirtual 127, 3) := by decide +kernel
theorem dX10_append_34 : decode cX10_append 34 = .ok (.ifCond .eq 5, 3) := by decide +kernel
theorem dX10_append_37 : decode cX10_append 37 = .ok (.iconst 0, 1) := by decide +kernel
theorem dX10_append_38 : decode cX10_append 38 = .ok (.ireturn, 1) := by decide +kernel
theorem dX10_append_39 : decode cX10_append 39 = .ok (.aload_n 0, 1) := by decide +kernel
theorem dX10_append_40 : decode cX10_append 40 = .ok (.getfield 7, 3) := by decide +kernel
theorem dX10_append_43 : decode cX10_append 43 = .ok (.aload_n 0, 1) := by decide +kernel
theorem dX10_append_44 : decode cX10_append 44 = .ok (.getfield 124, 3) := by decide +kernel
theorem dX10_append_47 : decode cX10_append 47 = .ok (.iload_n 1, 1) := by decide +kernel
theorem dX10_append_48 : decode cX10_append 48 = .ok (.iastore, 1) := by decide +kernel
theorem dX10_append_49 : decode cX10_append 49 = .ok (.aload_n 0, 1) := by decide +kernel
theorem dX10_append_50 : decode cX10_append 50 = .ok (.dup, 1) := by decide +kernel
theorem dX10_append_51 : decode cX10_append 51 = .ok (.getfield 124, 3) := by decide +kernel
theorem dX10_append_54 : decode cX10_append 54 = .ok (.iconst 1, 1) := by decide +kernel
theorem dX10_append_55 : decode cX10_append 55 = .ok (.iadd, 1) := by decide +kernel
theorem dX10_append_56 : decode cX10_append 56 = .ok (.putfield 124, 3) := by decide +kernel
theorem dX10_append_59 : decode cX10_append 59 = .ok (.aload_n 0, 1) := by decide +kernel
theorem dX10_append_60 : decode cX10_append 60 = .ok (.getfield 124, 3) := by decide +kernel
theorem dX10_append_63 : decode cX10_append 63 = .ok (.ireturn, 1) := by decide +kernel
def bX10_append_0 (w : ab_W) (s_X10_in : ab_S) (s_X10_refused : ab_S) (M : Nat → ab_P) (Kn : Option Value → ab_H → Prop) : ab_P := ab_ald 0 (ab_ild 1 (ab_i2l (ab_cl (lN 0) (ab_cl (255) (ab_cN w 3 s_X10_in (ab_if1 (fun x => ¬ x = 0) (ab_ald 0 (ab_gf w 10 2 (ab_ci (nI 120) (ab_if2 (fun x y => ¬ x = y) (ab_ci (nI 0) (M 31)) (ab_ci (nI 2) (M 31)))))) (ab_ci (nI 1) (M 31))))))))
def bX10_append_31 (w : ab_W) (s_X10_in : ab_S) (s_X10_refused : ab_S) (M : Nat → ab_P) (Kn : Option Value → ab_H → Prop) : ab_P := ab_cV w 2 10 s_X10_refused (ab_if1 (fun x => x = 0) (ab_ald 0 (ab_gr w 10 1 (ab_ald 0 (ab_gf w 10 2 (ab_ild 1 (ab_is w (ab_ald 0 (ab_dup (ab_gf w 10 2 (ab_ci (nI 1) (ab_b2 (fun x y => x + y) (ab_pf w 10 2 (ab_ald 0 (ab_gf w 10 2 (ab_ir Kn))))))))))))))) (ab_ci (nI 0) (ab_ir Kn)))
set_option maxRecDepth 20000 in
set_option maxHeartbeats 2000000 in
theorem vc_X10_append {l : Launch} (hl : l.stackTraces = false) {w : ab_W} (hI : ab_Inj w) {mc : Nat} {σ : ab_H} {As : List Value} {Kn : Option Value → ab_H → Prop} {Kx : String → ab_H → Prop} {s_X10_in : ab_S} (ok_X10_in : ab_OkN l yX10_in (Cond.code yX10_in cX10_in 6 (some .boolean)) 1 s_X10_in) {s_X10_refused : ab_S} (ok_X10_refused : ab_OkN l yX10_refused (Cond.code yX10_refused cX10_refused 2 (some .boolean)) 1 s_X10_refused) (hlen : (ab_xl As).length ≤ 2) (h : ∀ M : Nat → ab_P, (∀ L st σ, bX10_append_0 w s_X10_in s_X10_refused M Kn L st σ → M 0 L st σ) → (∀ L st σ, bX10_append_31 w s_X10_in s_X10_refused M Kn L st σ → M 31 L st σ) → M 0 (ab_pd 2 (ab_xl As)) [] σ) : ab_Met l yX10_append (Cond.code yX10_append cX10_append 2 (some .int)) 2 mc w σ As Kn Kx := by
  refine ab_enter (by decide) hl hI hlen (by decide) ?_
  intro p e R s m args below meth c C hno hr
  exact h _ (sd_aload_n C (i := 0) dX10_append_0 rfl (sd_iload_n C (i := 1) dX10_append_1 rfl (sd_i2l C dX10_append_2 (sd_lconst C (x := lN 0) dX10_append_3 (by decide +kernel) (sd_ldc2 C (x := 255) dX10_append_4 wd_1043 (sd_cS C ok_X10_in ⟨by decide, by decide, wd_1046, wd_11, by decide +kernel⟩ wd_1044 wd_1045 dX10_append_7 (sd_if_ne C dX10_append_10 (tgt := 17) (by decide) (sd_aload_n C (i := 0) dX10_append_17 rfl (sd_gf C (ci := 10) (k := 2) (r := (RX10, TX10, 15)) rfl (by decide) rfl wd_990 dX10_append_18 (sd_bipush C (x := nI 120) dX10_append_21 (by decide +kernel) (sd_icmp_ne C dX10_append_23 (tgt := 30) (by decide) (sd_iconst C (x := nI 0) dX10_append_30 (by decide +kernel) (fun _ _ _ h => h)) (sd_iconst C (x := nI 2) dX10_append_26 (by decide +kernel) (sd_goto C dX10_append_27 (tgt := 31) (by decide) (fun _ _ _ h => h))))))) (sd_iconst C (x := nI 1) dX10_append_13 (by decide +kernel) (sd_goto C dX10_append_14 (tgt := 31) (by decide) (fun _ _ _ h => h))))))))))
    (sd_cV C ok_X10_refused (ci := 10) (row := (RX10, TX10, 15)) rfl rfl ⟨by decide, by decide, wd_1050, wd_11, by decide +kernel⟩ wd_1047 wd_1049 ws_15 dX10_append_31 (sd_if_eq C dX10_append_34 (tgt := 39) (by decide) (sd_aload_n C (i := 0) dX10_append_39 rfl (sd_gr C (ci := 10) (k := 1) (r := (RX10, TX10, 15)) rfl (by decide) rfl wd_989 dX10_append_40 (sd_aload_n C (i := 0) dX10_append_43 rfl (sd_gf C (ci := 10) (k := 2) (r := (RX10, TX10, 15)) rfl (by decide) rfl wd_990 dX10_append_44 (sd_iload_n C (i := 1) dX10_append_47 rfl (sd_is C dX10_append_48 (sd_aload_n C (i := 0) dX10_append_49 rfl (sd_dup C dX10_append_50 (sd_gf C (ci := 10) (k := 2) (r := (RX10, TX10, 15)) rfl (by decide) rfl wd_990 dX10_append_51 (sd_iconst C (x := nI 1) dX10_append_54 (by decide +kernel) (sd_iadd C dX10_append_55 (sd_pf C (ci := 10) (k := 2) (r := (RX10, TX10, 15)) rfl (by decide) rfl rfl (by decide +kernel) wd_990 dX10_append_56 (sd_aload_n C (i := 0) dX10_append_59 rfl (sd_gf C (ci := 10) (k := 2) (r := (RX10, TX10, 15)) rfl (by decide) rfl wd_990 dX10_append_60 (sd_ir C hr dX10_append_63))))))))))))))) (sd_iconst C (x := nI 0) dX10_append_37 (by decide +kernel) (sd_ir C hr dX10_append_38))))
theorem dX10_clearText_0 : decode cX10_clearText 0 = .ok (.aload_n 0, 1) := by decide +kernel
theorem dX10_clearText_1 : decode cX10_clearText 1 = .ok (.iconst 0, 1) := by decide +kernel
theorem dX10_clearText_2 : decode cX10_clearText 2 = .ok (.putfield 36, 3) := by decide +kernel
theorem dX10_clearText_5 : decode cX10_clearText 5 = .ok (.aload_n 0, 1) := by decide +kernel
theorem dX10_clearText_6 : decode cX10_clearText 6 = .ok (.getfield 124, 3) := by decide +kernel
theorem dX10_clearText_9 : decode cX10_clearText 9 = .ok (.istore_n 1, 1) := by decide +kernel
theorem dX10_clearText_10 : decode cX10_clearText 10 = .ok (.aload_n 0, 1) := by decide +kernel
theorem dX10_clearText_11 : decode cX10_clearText 11 = .ok (.iconst 0, 1) := by decide +kernel
theorem dX10_clearText_12 : decode cX10_clearText 12 = .ok (.putfield 124, 3) := by decide +kernel
theorem dX10_clearText_15 : decode cX10_clearText 15 = .ok (.iload_n 1, 1) := by decide +kernel
theorem dX10_clearText_16 : decode cX10_clearText 16 = .ok (.ireturn, 1) := by decide +kernel
def bX10_clearText_0 (w : ab_W) (M : Nat → ab_P) (Kn : Option Value → ab_H → Prop) : ab_P := ab_ald 0 (ab_ci (nI 0) (ab_pf w 10 0 (ab_ald 0 (ab_gf w 10 2 (ab_ist 1 (ab_ald 0 (ab_ci (nI 0) (ab_pf w 10 2 (ab_ild 1 (ab_ir Kn))))))))))
set_option maxRecDepth 20000 in
set_option maxHeartbeats 2000000 in
theorem vc_X10_clearText {l : Launch} (hl : l.stackTraces = false) {w : ab_W} (hI : ab_Inj w) {mc : Nat} {σ : ab_H} {As : List Value} {Kn : Option Value → ab_H → Prop} {Kx : String → ab_H → Prop} (hlen : (ab_xl As).length ≤ 2) (h : ∀ M : Nat → ab_P, (∀ L st σ, bX10_clearText_0 w M Kn L st σ → M 0 L st σ) → M 0 (ab_pd 2 (ab_xl As)) [] σ) : ab_Met l yX10_clearText (Cond.code yX10_clearText cX10_clearText 2 (some .int)) 1 mc w σ As Kn Kx := by
  refine ab_enter (by decide) hl hI hlen (by decide) ?_
  intro p e R s m args below meth c C hno hr
  exact h _ (sd_aload_n C (i := 0) dX10_clearText_0 rfl (sd_iconst C (x := nI 0) dX10_clearText_1 (by decide +kernel) (sd_pf C (ci := 10) (k := 0) (r := (RX10, TX10, 15)) rfl (by decide) rfl rfl (by decide +kernel) wd_988 dX10_clearText_2 (sd_aload_n C (i := 0) dX10_clearText_5 rfl (sd_gf C (ci := 10) (k := 2) (r := (RX10, TX10, 15)) rfl (by decide) rfl wd_990 dX10_clearText_6 (sd_istore_n C (i := 1) dX10_clearText_9 rfl (by decide) (sd_aload_n C (i := 0) dX10_clearText_10 rfl (sd_iconst C (x := nI 0) dX10_clearText_11 (by decide +kernel) (sd_pf C (ci := 10) (k := 2) (r := (RX10, TX10, 15)) rfl (by decide) rfl rfl (by decide +kernel) wd_990 dX10_clearText_12 (sd_iload_n C (i := 1) dX10_clearText_15 rfl (sd_ir C hr dX10_clearText_16)))))))))))
theorem dX10_isNext_0 : decode cX10_isNext 0 = .ok (.aload_n 0, 1) := by decide +kernel
theorem dX10_isNext_1 : decode cX10_isNext 1 = .ok (.getfield 131, 3) := by decide +kernel
theorem dX10_isNext_4 : decode cX10_isNext 4 = .ok (.aload_n 0, 1) := by decide +kernel
theorem dX10_isNext_5 : decode cX10_isNext 5 = .ok (.getfield 124, 3) := by decide +kernel
theorem dX10_isNext_8 : decode cX10_isNext 8 = .ok (.if_icmp .ge 20, 3) := by decide +kernel
theorem dX10_isNext_11 : decode cX10_isNext 11 = .ok (.aload_n 0, 1) := by decide +kernel
theorem dX10_isNext_12 : decode cX10_isNext 12 = .ok (.getfield 7, 3) := by decide +kernel
theorem dX10_isNext_15 : decode cX10_isNext 15 = .ok (.aload_n 0, 1) := by decide +kernel
theorem dX10_isNext_16 : decode cX10_isNext 16 = .ok (.getfield 131, 3) := by decide +kernel
theorem dX10_isNext_19 : decode cX10_isNext 19 = .ok (.iaload, 1) := by decide +kernel
theorem dX10_isNext_20 : decode cX10_isNext 20 = .ok (.iload_n 1, 1) := by decide +kernel
theorem dX10_isNext_21 : decode cX10_isNext 21 = .ok (.if_icmp .ne 7, 3) := by decide +kernel
theorem dX10_isNext_24 : decode cX10_isNext 24 = .ok (.iconst 1, 1) := by decide +kernel
theorem dX10_isNext_25 : decode cX10_isNext 25 = .ok (.goto 4, 3) := by decide +kernel
theorem dX10_isNext_28 : decode cX10_isNext 28 = .ok (.iconst 0, 1) := by decide +kernel
theorem dX10_isNext_29 : decode cX10_isNext 29 = .ok (.ireturn, 1) := by decide +kernel
def bX10_isNext_0 (w : ab_W) (M : Nat → ab_P) (Kn : Option Value → ab_H → Prop) : ab_P := ab_ald 0 (ab_gf w 10 3 (ab_ald 0 (ab_gf w 10 2 (ab_if2 (fun x y => y ≤ x) (M 28) (ab_ald 0 (ab_gr w 10 1 (ab_ald 0 (ab_gf w 10 3 (ab_ia w 11 (ab_ild 1 (ab_if2 (fun x y => ¬ x = y) (M 28) (ab_ci (nI 1) (M 29)))))))))))))
def bX10_isNext_28 (w : ab_W) (M : Nat → ab_P) (Kn : Option Value → ab_H → Prop) : ab_P := ab_ci (nI 0) (M 29)
def bX10_isNext_29 (w : ab_W) (M : Nat → ab_P) (Kn : Option Value → ab_H → Prop) : ab_P := ab_zr Kn
set_option maxRecDepth 20000 in
set_option maxHeartbeats 2000000 in
theorem vc_X10_isNext {l : Launch} (hl : l.stackTraces = false) {w : ab_W} (hI : ab_Inj w) {mc : Nat} {σ : ab_H} {As : List Value} {Kn : Option Value → ab_H → Prop} {Kx : String → ab_H → Prop} (hlen : (ab_xl As).length ≤ 2) (h : ∀ M : Nat → ab_P, (∀ L st σ, bX10_isNext_0 w M Kn L st σ → M 0 L st σ) → (∀ L st σ, bX10_isNext_28 w M Kn L st σ → M 28 L st σ) → (∀ L st σ, bX10_isNext_29 w M Kn L st σ → M 29 L st σ) → M 0 (ab_pd 2 (ab_xl As)) [] σ) : ab_Met l yX10_isNext (Cond.code yX10_isNext cX10_isNext 2 (some .boolean)) 1 mc w σ As Kn Kx := by
  refine ab_enter (by decide) hl hI hlen (by decide) ?_
  intro p e R s m args below meth c C hno hr
  exact h _ (sd_aload_n C (i := 0) dX10_isNext_0 rfl (sd_gf C (ci := 10) (k := 3) (r := (RX10, TX10, 15)) rfl (by decide) rfl wd_991 dX10_isNext_1 (sd_aload_n C (i := 0) dX10_isNext_4 rfl (sd_gf C (ci := 10) (k := 2) (r := (RX10, TX10, 15)) rfl (by decide) rfl wd_990 dX10_isNext_5 (sd_icmp_ge C dX10_isNext_8 (tgt := 28) (by decide) (fun _ _ _ h => h) (sd_aload_n C (i := 0) dX10_isNext_11 rfl (sd_gr C (ci := 10) (k := 1) (r := (RX10, TX10, 15)) rfl (by decide) rfl wd_989 dX10_isNext_12 (sd_aload_n C (i := 0) dX10_isNext_15 rfl (sd_gf C (ci := 10) (k := 3) (r := (RX10, TX10, 15)) rfl (by decide) rfl wd_991 dX10_isNext_16 (sd_ia C dX10_isNext_19 (sd_iload_n C (i := 1) dX10_isNext_20 rfl (sd_icmp_ne C dX10_isNext_21 (tgt := 28) (by decide) (fun _ _ _ h => h) (sd_iconst C (x := nI 1) dX10_isNext_24 (by decide +kernel) (sd_goto C dX10_isNext_25 (tgt := 29) (by decide) (fun _ _ _ h => h)))))))))))))))
    (sd_iconst C (x := nI 0) dX10_isNext_28 (by decide +kernel) (fun _ _ _ h => h))
    (sd_zr C hr dX10_isNext_29)
theorem dX10_accept_0 : decode cX10_accept 0 = .ok (.aload_n 0, 1) := by decide +kernel
theorem dX10_accept_1 : decode cX10_accept 1 = .ok (.aload_n 0, 1) := by decide +kernel
theorem dX10_accept_2 : decode cX10_accept 2 = .ok (.getfield 134, 3) := by decide +kernel
theorem dX10_accept_5 : decode cX10_accept 5 = .ok (.ifCond .eq 11, 3) := by decide +kernel
theorem dX10_accept_8 : decode cX10_accept 8 = .ok (.iload_n 1, 1) := by decide +kernel
theorem dX10_accept_9 : decode cX10_accept 9 = .ok (.ifCond .eq 7, 3) := by decide +kernel
theorem dX10_accept_12 : decode cX10_accept 12 = .ok (.iconst 1, 1) := by decide +kernel
theorem dX10_accept_13 : decode cX10_accept 13 = .ok (.goto 4, 3) := by decide +kernel
theorem dX10_accept_16 : decode cX10_accept 16 = .ok (.iconst 0, 1) := by decide +kernel
theorem dX10_accept_17 : decode cX10_accept 17 = .ok (.putfield 134, 3) := by decide +kernel
theorem dX10_accept_20 : decode cX10_accept 20 = .ok (.aload_n 0, 1) := by decide +kernel
theorem dX10_accept_21 : decode cX10_accept 21 = .ok (.dup, 1) := by decide +kernel
theorem dX10_accept_22 : decode cX10_accept 22 = .ok (.getfield 131, 3) := by decide +kernel
theorem dX10_accept_25 : decode cX10_accept 25 = .ok (.aload_n 0, 1) := by decide +kernel
theorem dX10_accept_26 : decode cX10_accept 26 = .ok (.getfield 134, 3) := by decide +kernel
theorem dX10_accept_29 : decode cX10_accept 29 = .ok (.ifCond .eq 7, 3) := by decide +kernel
theorem dX10_accept_32 : decode cX10_accept 32 = .ok (.iconst 1, 1) := by decide +kernel
theorem dX10_accept_33 : decode cX10_accept 33 = .ok (.goto 4, 3) := by decide +kernel
theorem dX10_accept_36 : decode cX10_accept 36 = .ok (.iconst 0, 1) := by decide +kernel
theorem dX10_accept_37 : decode cX10_accept 37 = .ok (.iadd, 1) := by decide +kernel
theorem dX10_accept_38 : decode cX10_accept 38 = .ok (.putfield 131, 3) := by decide +kernel
theorem dX10_accept_41 : decode cX10_accept 41 = .ok (.return_, 1) := by decide +kernel
def bX10_accept_0 (w : ab_W) (M : Nat → ab_P) (Kn : Option Value → ab_H → Prop) : ab_P := ab_ald 0 (ab_ald 0 (ab_gf w 10 4 (ab_if1 (fun x => x = 0) (M 16) (ab_ild 1 (ab_if1 (fun x => x = 0) (M 16) (ab_ci (nI 1) (M 17)))))))
def bX10_accept_16 (w : ab_W) (M : Nat → ab_P) (Kn : Option Value → ab_H → Prop) : ab_P := ab_ci (nI 0) (M 17)
def bX10_accept_17 (w : ab_W) (M : Nat → ab_P) (Kn : Option Value → ab_H → Prop) : ab_P := ab_pz w 10 4 (ab_ald 0 (ab_dup (ab_gf w 10 3 (ab_ald 0 (ab_gf w 10 4 (ab_if1 (fun x => x = 0) (ab_ci (nI 0) (M 37)) (ab_ci (nI 1) (M 37))))))))
def bX10_accept_37 (w : ab_W) (M : Nat → ab_P) (Kn : Option Value → ab_H → Prop) : ab_P := ab_b2 (fun x y => x + y) (ab_pf w 10 3 (ab_vr Kn))
set_option maxRecDepth 20000 in
set_option maxHeartbeats 2000000 in
theorem vc_X10_accept {l : Launch} (hl : l.stackTraces = false) {w : ab_W} (hI : ab_Inj w) {mc : Nat} {σ : ab_H} {As : List Value} {Kn : Option Value → ab_H → Prop} {Kx : String → ab_H → Prop} (hlen : (ab_xl As).length ≤ 2) (h : ∀ M : Nat → ab_P, (∀ L st σ, bX10_accept_0 w M Kn L st σ → M 0 L st σ) → (∀ L st σ, bX10_accept_16 w M Kn L st σ → M 16 L st σ) → (∀ L st σ, bX10_accept_17 w M Kn L st σ → M 17 L st σ) → (∀ L st σ, bX10_accept_37 w M Kn L st σ → M 37 L st σ) → M 0 (ab_pd 2 (ab_xl As)) [] σ) : ab_Met l yX10_accept (Cond.code yX10_accept cX10_accept 2 none) 1 mc w σ As Kn Kx := by
  refine ab_enter (by decide) hl hI hlen (by decide) ?_
  intro p e R s m args below meth c C hno hr
  exact h _ (sd_aload_n C (i := 0) dX10_accept_0 rfl (sd_aload_n C (i := 0) dX10_accept_1 rfl (sd_gf C (ci := 10) (k := 4) (r := (RX10, TX10, 15)) rfl (by decide) rfl wd_992 dX10_accept_2 (sd_if_eq C dX10_accept_5 (tgt := 16) (by decide) (fun _ _ _ h => h) (sd_iload_n C (i := 1) dX10_accept_8 rfl (sd_if_eq C dX10_accept_9 (tgt := 16) (by decide) (fun _ _ _ h => h) (sd_iconst C (x := nI 1) dX10_accept_12 (by decide +kernel) (sd_goto C dX10_accept_13 (tgt := 17) (by decide) (fun _ _ _ h => h)))))))))
    (sd_iconst C (x := nI 0) dX10_accept_16 (by decide +kernel) (fun _ _ _ h => h))
    (sd_pz C (ci := 10) (k := 4) (r := (RX10, TX10, 15)) rfl (by decide) rfl rfl (by decide +kernel) wd_992 dX10_accept_17 (sd_aload_n C (i := 0) dX10_accept_20 rfl (sd_dup C dX10_accept_21 (sd_gf C (ci := 10) (k := 3) (r := (RX10, TX10, 15)) rfl (by decide) rfl wd_991 dX10_accept_22 (sd_aload_n C (i := 0) dX10_accept_25 rfl (sd_gf C (ci := 10) (k := 4) (r := (RX10, TX10, 15)) rfl (by decide) rfl wd_992 dX10_accept_26 (sd_if_eq C dX10_accept_29 (tgt := 36) (by decide) (sd_iconst C (x := nI 0) dX10_accept_36 (by decide +kernel) (fun _ _ _ h => h)) (sd_iconst C (x := nI 1) dX10_accept_32 (by decide +kernel) (sd_goto C dX10_accept_33 (tgt := 37) (by decide) (fun _ _ _ h => h))))))))))
    (sd_iadd C dX10_accept_37 (sd_pf C (ci := 10) (k := 3) (r := (RX10, TX10, 15)) rfl (by decide) rfl rfl (by decide +kernel) wd_991 dX10_accept_38 (sd_vr C hr dX10_accept_41)))
theorem dX10_digit_0 : decode cX10_digit 0 = .ok (.aload_n 0, 1) := by decide +kernel
theorem dX10_digit_1 : decode cX10_digit 1 = .ok (.getfield 131, 3) := by decide +kernel
theorem dX10_digit_4 : decode cX10_digit 4 = .ok (.aload_n 0, 1) := by decide +kernel
theorem dX10_digit_5 : decode cX10_digit 5 = .ok (.getfield 124, 3) := by decide +kernel
theorem dX10_digit_8 : decode cX10_digit 8 = .ok (.if_icmp .ge 18, 3) := by decide +kernel
theorem dX10_digit_11 : decode cX10_digit 11 = .ok (.aload_n 0, 1) := by decide +kernel
theorem dX10_digit_12 : decode cX10_digit 12 = .ok (.getfield 7, 3) := by decide +kernel
theorem dX10_digit_15 : decode cX10_digit 15 = .ok (.aload_n 0, 1) := by decide +kernel
theorem dX10_digit_16 : decode cX10_digit 16 = .ok (.getfield 131, 3) := by decide +kernel
theorem dX10_digit_19 : decode cX10_digit 19 = .ok (.iaload, 1) := by decide +kernel
theorem dX10_digit_20 : decode cX10_digit 20 = .ok (.bipush 48, 2) := by decide +kernel
theorem dX10_digit_22 : decode cX10_digit 22 = .ok (.isub, 1) := by decide +kernel
theorem dX10_digit_23 : decode cX10_digit 23 = .ok (.goto 4, 3) := by decide +kernel
theorem dX10_digit_26 : decode cX10_digit 26 = .ok (.iconst (-1), 1) := by decide +kernel
theorem dX10_digit_27 : decode cX10_digit 27 = .ok (.istore_n 3, 1) := by decide +kernel
theorem dX10_digit_28 : decode cX10_digit 28 = .ok (.aload_n 0, 1) := by decide +kernel
theorem dX10_digit_29 : decode cX10_digit 29 = .ok (.iload_n 3, 1) := by decide +kernel
theorem dX10_digit_30 : decode cX10_digit 30 = .ok (.i2l, 1) := by decide +kernel
theorem dX10_digit_31 : decode cX10_digit 31 = .ok (.lconst 0, 1) := by decide +kernel
theorem dX10_digit_32 : decode cX10_digit 32 = .ok (.ldc2_w 138, 3) := by decide +kernel
theorem dX10_digit_35 : decode cX10_digit 35 = .ok (.invokestatic 62, 3) := by decide +kernel
theorem dX10_digit_38 : decode cX10_digit 38 = .ok (.ifCond .eq 19, 3) := by decide +kernel
theorem dX10_digit_41 : decode cX10_digit 41 = .ok (.iload_n 3, 1) := by decide +kernel
theorem dX10_digit_42 : decode cX10_digit 42 = .ok (.i2l, 1) := by decide +kernel
theorem dX10_digit_43 : decode cX10_digit 43 = .ok (.iload_n 1, 1) := by decide +kernel
theorem dX10_digit_44 : decode cX10_digit 44 = .ok (.i2l, 1) := by decide +kernel
theorem dX10_digit_45 : decode cX10_digit 45 = .ok (.iload_n 2, 1) := by decide +kernel
theorem dX10_digit_46 : decode cX10_digit 46 = .ok (.i2l, 1) := by decide +kernel
theorem dX10_digit_47 : decode cX10_digit 47 = .ok (.invokestatic 62, 3) := by decide +kernel
theorem dX10_digit_50 : decode cX10_digit 50 = .ok (.ifCond .eq 7, 3) := by decide +kernel
theorem dX10_digit_53 : decode cX10_digit 53 = .ok (.iconst 1, 1) := by decide +kernel
theorem dX10_digit_54 : decode cX10_digit 54 = .ok (.goto 4, 3) := by decide +kernel
theorem dX10_digit_57 : decode cX10_digit 57 = .ok (.iconst 0, 1) := by decide +kernel
theorem dX10_digit_58 : decode cX10_digit 58 = .ok (.invokevirtual 140, 3) := by decide +kernel
theorem dX10_digit_61 : decode cX10_digit 61 = .ok (.aload_n 0, 1) := by decide +kernel
theorem dX10_digit_62 : decode cX10_digit 62 = .ok (.getfield 134, 3) := by decide +kernel
theorem dX10_digit_65 : decode cX10_digit 65 = .ok (.ifCond .eq 7, 3) := by decide +kernel
theorem dX10_digit_68 : decode cX10_digit 68 = .ok (.iload_n 3, 1) := by decide +kernel
theorem dX10_digit_69 : decode cX10_digit 69 = .ok (.goto 4, 3) := by decide +kernel
theorem dX10_digit_72 : decode cX10_digit 72 = .ok (.iload_n 1, 1) := by decide +kernel
theorem dX10_digit_73 : decode cX10_digit 73 = .ok (.ireturn, 1) := by decide +kernel
def bX10_digit_0 (w : ab_W) (s_X10_in : ab_S) (s_X10_accept : ab_S) (M : Nat → ab_P) (Kn : Option Value → ab_H → Prop) : ab_P := ab_ald 0 (ab_gf w 10 3 (ab_ald 0 (ab_gf w 10 2 (ab_if2 (fun x y => y ≤ x) (ab_ci (-1) (M 27)) (ab_ald 0 (ab_gr w 10 1 (ab_ald 0 (ab_gf w 10 3 (ab_ia w 11 (ab_ci (nI 48) (ab_b2 (fun x y => x - y) (M 27))))))))))))
def bX10_digit_27 (w : ab_W) (s_X10_in : ab_S) (s_X10_accept : ab_S) (M : Nat → ab_P) (Kn : Option Value → ab_H → Prop) : ab_P := ab_ist 3 (ab_ald 0 (ab_ild 3 (ab_i2l (ab_cl (lN 0) (ab_cl (9) (ab_cN w 3 s_X10_in (ab_if1 (fun x => x = 0) (M 57) (ab_ild 3 (ab_i2l (ab_ild 1 (ab_i2l (ab_ild 2 (ab_i2l (ab_cN w 3 s_X10_in (ab_if1 (fun x => x = 0) (M 57) (ab_ci (nI 1) (M 58)))))))))))))))))
def bX10_digit_57 (w : ab_W) (s_X10_in : ab_S) (s_X10_accept : ab_S) (M : Nat → ab_P) (Kn : Option Value → ab_H → Prop) : ab_P := ab_ci (nI 0) (M 58)
def bX10_digit_58 (w : ab_W) (s_X10_in : ab_S) (s_X10_accept : ab_S) (M : Nat → ab_P) (Kn : Option Value → ab_H → Prop) : ab_P := ab_cV w 2 10 s_X10_accept (ab_ald 0 (ab_gf w 10 4 (ab_if1 (fun x => x = 0) (ab_ild 1 (M 73)) (ab_ild 3 (M 73)))))
def bX10_digit_73 (w : ab_W) (s_X10_in : ab_S) (s_X10_accept : ab_S) (M : Nat → ab_P) (Kn : Option Value → ab_H → Prop) : ab_P := ab_ir Kn
set_option maxRecDepth 20000 in
set_option maxHeartbeats 2000000 in
theorem vc_X10_digit {l : Launch} (hl : l.stackTraces = false) {w : ab_W} (hI : ab_Inj w) {mc : Nat} {σ : ab_H} {As : List Value} {Kn : Option Value → ab_H → Prop} {Kx : String → ab_H → Prop} {s_X10_in : ab_S} (ok_X10_in : ab_OkN l yX10_in (Cond.code yX10_in cX10_in 6 (some .boolean)) 1 s_X10_in) {s_X10_accept : ab_S} (ok_X10_accept : ab_OkN l yX10_accept (Cond.code yX10_accept cX10_accept 2 none) 1 s_X10_accept) (hlen : (ab_xl As).length ≤ 4) (h : ∀ M : Nat → ab_P, (∀ L st σ, bX10_digit_0 w s_X10_in s_X10_accept M Kn L st σ → M 0 L st σ) → (∀ L st σ, bX10_digit_27 w s_X10_in s_X10_accept M Kn L st σ → M 27 L st σ) → (∀ L st σ, bX10_digit_57 w s_X10_in s_X10_accept M Kn L st σ → M 57 L st σ) → (∀ L st σ, bX10_digit_58 w s_X10_in s_X10_accept M Kn L st σ → M 58 L st σ) → (∀ L st σ, bX10_digit_73 w s_X10_in s_X10_accept M Kn L st σ → M 73 L st σ) → M 0 (ab_pd 4 (ab_xl As)) [] σ) : ab_Met l yX10_digit (Cond.code yX10_digit cX10_digit 4 (some .int)) 2 mc w σ As Kn Kx := by
  refine ab_enter (by decide) hl hI hlen (by decide) ?_
  intro p e R s m args below meth c C hno hr
  exact h _ (sd_aload_n C (i := 0) dX10_digit_0 rfl (sd_gf C (ci := 10) (k := 3) (r := (RX10, TX10, 15)) rfl (by decide) rfl wd_991 dX10_digit_1 (sd_aload_n C (i := 0) dX10_digit_4 rfl (sd_gf C (ci := 10) (k := 2) (r := (RX10, TX10, 15)) rfl (by decide) rfl wd_990 dX10_digit_5 (sd_icmp_ge C dX10_digit_8 (tgt := 26) (by decide) (sd_iconst C (x := -1) dX10_digit_26 (by decide +kernel) (fun _ _ _ h => h)) (sd_aload_n C (i := 0) dX10_digit_11 rfl (sd_gr C (ci := 10) (k := 1) (r := (RX10, TX10, 15)) rfl (by decide) rfl wd_989 dX10_digit_12 (sd_aload_n C (i := 0) dX10_digit_15 rfl (sd_gf C (ci := 10) (k := 3) (r := (RX10, TX10, 15)) rfl (by decide) rfl wd_991 dX10_digit_16 (sd_ia C dX10_digit_19 (sd_bipush C (x := nI 48) dX10_digit_20 (by decide +kernel) (sd_isub C dX10_digit_22 (sd_goto C dX10_digit_23 (tgt := 27) (by decide) (fun _ _ _ h => h))))))))))))))
    (sd_istore_n C (i := 3) dX10_digit_27 rfl (by decide) (sd_aload_n C (i := 0) dX10_digit_28 rfl (sd_iload_n C (i := 3) dX10_digit_29 rfl (sd_i2l C dX10_digit_30 (sd_lconst C (x := lN 0) dX10_digit_31 (by decide +kernel) (sd_ldc2 C (x := 9) dX10_digit_32 wd_1087 (sd_cS C ok_X10_in ⟨by decide, by decide, wd_1046, wd_11, by decide +kernel⟩ wd_1044 wd_1045 dX10_digit_35 (sd_if_eq C dX10_digit_38 (tgt := 57) (by decide) (fun _ _ _ h => h) (sd_iload_n C (i := 3) dX10_digit_41 rfl (sd_i2l C dX10_digit_42 (sd_iload_n C (i := 1) dX10_digit_43 rfl (sd_i2l C dX10_digit_44 (sd_iload_n C (i := 2) dX10_digit_45 rfl (sd_i2l C dX10_digit_46 (sd_cS C ok_X10_in ⟨by decide, by decide, wd_1046, wd_11, by decide +kernel⟩ wd_1044 wd_1045 dX10_digit_47 (sd_if_eq C dX10_digit_50 (tgt := 57) (by decide) (fun _ _ _ h => h) (sd_iconst C (x := nI 1) dX10_digit_53 (by decide +kernel) (sd_goto C dX10_digit_54 (tgt := 58) (by decide) (fun _ _ _ h => h)))))))))))))))))))
    (sd_iconst C (x := nI 0) dX10_digit_57 (by decide +kernel) (fun _ _ _ h => h))
    (sd_cV C ok_X10_accept (ci := 10) (row := (RX10, TX10, 15)) rfl rfl ⟨by decide, by decide, wd_1070, wd_11, by decide +kernel⟩ wd_1067 wd_1069 ws_18 dX10_digit_58 (sd_aload_n C (i := 0) dX10_digit_61 rfl (sd_gf C (ci := 10) (k := 4) (r := (RX10, TX10, 15)) rfl (by decide) rfl wd_992 dX10_digit_62 (sd_if_eq C dX10_digit_65 (tgt := 72) (by decide) (sd_iload_n C (i := 1) dX10_digit_72 rfl (fun _ _ _ h => h)) (sd_iload_n C (i := 3) dX10_digit_68 rfl (sd_goto C dX10_digit_69 (tgt := 73) (by decide) (fun _ _ _ h => h)))))))
    (sd_ir C hr dX10_digit_73)
theorem dX10_two_0 : decode cX10_two 0 = .ok (.aload_n 0, 1) := by decide +kernel
theorem dX10_two_1 : decode cX10_two 1 = .ok (.iload_n 1, 1) := by decide +kernel
theorem dX10_two_2 : decode cX10_two 2 = .ok (.bipush 10, 2) := by decide +kernel
theorem dX10_two_4 : decode cX10_two 4 = .ok (.idiv, 1) := by decide +kernel
theorem dX10_two_5 : decode cX10_two 5 = .ok (.iload_n 2, 1) := by decide +kernel
theorem dX10_two_6 : decode cX10_two 6 = .ok (.bipush 10, 2) := by decide +kernel
theorem dX10_two_8 : decode cX10_two 8 = .ok (.idiv, 1) := by decide +kernel
theorem dX10_two_9 : decode cX10_two 9 = .ok (.invokevirtual 144, 3) := by decide +kernel
theorem dX10_two_12 : decode cX10_two 12 = .ok (.istore_n 3, 1) := by decide +kernel
theorem dX10_two_13 : decode cX10_two 13 = .ok (.bipush 10, 2) := by decide +kernel
theorem dX10_two_15 : decode cX10_two 15 = .ok (.iload_n 3, 1) := by decide +kernel
theorem dX10_two_16 : decode cX10_two 16 = .ok (.imul, 1) := by decide +kernel
theorem dX10_two_17 : decode cX10_two 17 = .ok (.aload_n 0, 1) := by decide +kernel
theorem dX10_two_18 : decode cX10_two 18 = .ok (.iload_n 3, 1) := by decide +kernel
theorem dX10_two_19 : decode cX10_two 19 = .ok (.iload_n 1, 1) := by decide +kernel
theorem dX10_two_20 : decode cX10_two 20 = .ok (.bipush 10, 2) := by decide +kernel
theorem dX10_two_22 : decode cX10_two 22 = .ok (.idiv, 1) := by decide +kernel
theorem dX10_two_23 : decode cX10_two 23 = .ok (.if_icmp .ne 10, 3) := by decide +kernel
theorem dX10_two_26 : decode cX10_two 26 = .ok (.iload_n 1, 1) := by decide +kernel
theorem dX10_two_27 : decode cX10_two 27 = .ok (.bipush 10, 2) := by decide +kernel
theorem dX10_two_29 : decode cX10_two 29 = .ok (.irem, 1) := by decide +kernel
theorem dX10_two_30 : decode cX10_two 30 = .ok (.goto 4, 3) := by decide +kernel
theorem dX10_two_33 : decode cX10_two 33 = .ok (.iconst 0, 1) := by decide +kernel
theorem dX10_two_34 : decode cX10_two 34 = .ok (.iload_n 3, 1) := by decide +kernel
theorem dX10_two_35 : decode cX10_two 35 = .ok (.iload_n 2, 1) := by decide +kernel
theorem dX10_two_36 : decode cX10_two 36 = .ok (.bipush 10, 2) := by decide +kernel
theorem dX10_two_38 : decode cX10_two 38 = .ok (.idiv, 1) := by decide +kernel
theorem dX10_two_39 : decode cX10_two 39 = .ok (.if_icmp .ne 10, 3) := by decide +kernel
theorem dX10_two_42 : decode cX10_two 42 = .ok (.iload_n 2, 1) := by decide +kernel
theorem dX10_two_43 : decode cX10_two 43 = .ok (.bipush 10, 2) := by decide +kernel
theorem dX10_two_45 : decode cX10_two 45 = .ok (.irem, 1) := by decide +kernel
theorem dX10_two_46 : decode cX10_two 46 = .ok (.goto 5, 3) := by decide +kernel
theorem dX10_two_49 : decode cX10_two 49 = .ok (.bipush 9, 2) := by decide +kernel
theorem dX10_two_51 : decode cX10_two 51 = .ok (.invokevirtual 144, 3) := by decide +kernel
theorem dX10_two_54 : decode cX10_two 54 = .ok (.iadd, 1) := by decide +kernel
theorem dX10_two_55 : decode cX10_two 55 = .ok (.ireturn, 1) := by decide +kernel
def bX10_two_0 (w : ab_W) (s_X10_digit : ab_S) (M : Nat → ab_P) (Kn : Option Value → ab_H → Prop) : ab_P := ab_ald 0 (ab_ild 1 (ab_ci (nI 10) (ab_d2 (fun x y => x / y) (ab_ild 2 (ab_ci (nI 10) (ab_d2 (fun x y => x / y) (ab_cV w 3 10 s_X10_digit (ab_ist 3 (ab_ci (nI 10) (ab_ild 3 (ab_b2 (fun x y => x * y) (ab_ald 0 (ab_ild 3 (ab_ild 1 (ab_ci (nI 10) (ab_d2 (fun x y => x / y) (ab_if2 (fun x y => ¬ x = y) (ab_ci (nI 0) (M 34)) (ab_ild 1 (ab_ci (nI 10) (ab_d2 (fun x y => x - x / y * y) (M 34)))))))))))))))))))))
def bX10_two_34 (w : ab_W) (s_X10_digit : ab_S) (M : Nat → ab_P) (Kn : Option Value → ab_H → Prop) : ab_P := ab_ild 3 (ab_ild 2 (ab_ci (nI 10) (ab_d2 (fun x y => x / y) (ab_if2 (fun x y => ¬ x = y) (ab_ci (nI 9) (M 51)) (ab_ild 2 (ab_ci (nI 10) (ab_d2 (fun x y => x - x / y * y) (M 51))))))))
def bX10_two_51 (w : ab_W) (s_X10_digit : ab_S) (M : Nat → ab_P) (Kn : Option Value → ab_H → Prop) : ab_P := ab_cV w 3 10 s_X10_digit (ab_b2 (fun x y => x + y) (ab_ir Kn))
set_option maxRecDepth 20000 in
set_option maxHeartbeats 2000000 in
theorem vc_X10_two {l : Launch} (hl : l.stackTraces = false) {w : ab_W} (hI : ab_Inj w) {mc : Nat} {σ : ab_H} {As : List Value} {Kn : Option Value → ab_H → Prop} {Kx : String → ab_H → Prop} {s_X10_digit : ab_S} (ok_X10_digit : ab_OkN l yX10_digit (Cond.code yX10_digit cX10_digit 4 (some .int)) 2 s_X10_digit) (hlen : (ab_xl As).length ≤ 4) (h : ∀ M : Nat → ab_P, (∀ L st σ, bX10_two_0 w s_X10_digit M Kn L st σ → M 0 L st σ) → (∀ L st σ, bX10_two_34 w s_X10_digit M Kn L st σ → M 34 L st σ) → (∀ L st σ, bX10_two_51 w s_X10_digit M Kn L st σ → M 51 L st σ) → M 0 (ab_pd 4 (ab_xl As)) [] σ) : ab_Met l yX10_two (Cond.code yX10_two cX10_two 4 (some .int)) 3 mc w σ As Kn Kx := by
  refine ab_enter (by decide) hl hI hlen (by decide) ?_
  intro p e R s m args below meth c C hno hr
  exact h _ (sd_aload_n C (i := 0) dX10_two_0 rfl (sd_iload_n C (i := 1) dX10_two_1 rfl (sd_bipush C (x := nI 10) dX10_two_2 (by decide +kernel) (sd_idiv C dX10_two_4 (sd_iload_n C (i := 2) dX10_two_5 rfl (sd_bipush C (x := nI 10) dX10_two_6 (by decide +kernel) (sd_idiv C dX10_two_8 (sd_cV C ok_X10_digit (ci := 10) (row := (RX10, TX10, 15)) rfl rfl ⟨by decide, by decide, wd_1086, wd_11, by decide +kernel⟩ wd_1083 wd_1085 ws_22 dX10_two_9 (sd_istore_n C (i := 3) dX10_two_12 rfl (by decide) (sd_bipush C (x := nI 10) dX10_two_13 (by decide +kernel) (sd_iload_n C (i := 3) dX10_two_15 rfl (sd_imul C dX10_two_16 (sd_aload_n C (i := 0) dX10_two_17 rfl (sd_iload_n C (i := 3) dX10_two_18 rfl (sd_iload_n C (i := 1) dX10_two_19 rfl (sd_bipush C (x := nI 10) dX10_two_20 (by decide +kernel) (sd_idiv C dX10_two_22 (sd_icmp_ne C dX10_two_23 (tgt := 33) (by decide) (sd_iconst C (x := nI 0) dX10_two_33 (by decide +kernel) (fun _ _ _ h => h)) (sd_iload_n C (i := 1) dX10_two_26 rfl (sd_bipush C (x := nI 10) dX10_two_27 (by decide +kernel) (sd_irem C dX10_two_29 (sd_goto C dX10_two_30 (tgt := 34) (by decide) (fun _ _ _ h => h)))))))))))))))))))))))
    (sd_iload_n C (i := 3) dX10_two_34 rfl (sd_iload_n C (i := 2) dX10_two_35 rfl (sd_bipush C (x := nI 10) dX10_two_36 (by decide +kernel) (sd_idiv C dX10_two_38 (sd_icmp_ne C dX10_two_39 (tgt := 49) (by decide) (sd_bipush C (x := nI 9) dX10_two_49 (by decide +kernel) (fun _ _ _ h => h)) (sd_iload_n C (i := 2) dX10_two_42 rfl (sd_bipush C (x := nI 10) dX10_two_43 (by decide +kernel) (sd_irem C dX10_two_45 (sd_goto C dX10_two_46 (tgt := 51) (by decide) (fun _ _ _ h => h))))))))))
    (sd_cV C ok_X10_digit (ci := 10) (row := (RX10, TX10, 15)) rfl rfl ⟨by decide, by decide, wd_1086, wd_11, by decide +kernel⟩ wd_1083 wd_1085 ws_22 dX10_two_51 (sd_iadd C dX10_two_54 (sd_ir C hr dX10_two_55)))
theorem dX10_goes_0 : decode cX10_goes 0 = .ok (.aload_n 0, 1) := by decide +kernel
theorem dX10_goes_1 : decode cX10_goes 1 = .ok (.dup, 1) := by decide +kernel
theorem dX10_goes_2 : decode cX10_goes 2 = .ok (.getfield 147, 3) := by decide +kernel
theorem dX10_goes_5 : decode cX10_goes 5 = .ok (.aload_n 0, 1) := by decide +kernel
theorem dX10_goes_6 : decode cX10_goes 6 = .ok (.getfield 134, 3) := by decide +kernel
theorem dX10_goes_9 : decode cX10_goes 9 = .ok (.ifCond .eq 11, 3) := by decide +kernel
theorem dX10_goes_12 : decode cX10_goes 12 = .ok (.iload_n 1, 1) := by decide +kernel
theorem dX10_goes_13 : decode cX10_goes 13 = .ok (.ifCond .ne 7, 3) := by decide +kernel
theorem dX10_goes_16 : decode cX10_goes 16 = .ok (.iconst 1, 1) := by decide +kernel
theorem dX10_goes_17 : decode cX10_goes 17 = .ok (.goto 4, 3) := by decide +kernel
theorem dX10_goes_20 : decode cX10_goes 20 = .ok (.iconst 0, 1) := by decide +kernel
theorem dX10_goes_21 : decode cX10_goes 21 = .ok (.iadd, 1) := by decide +kernel
theorem dX10_goes_22 : decode cX10_goes 22 = .ok (.putfield 147, 3) := by decide +kernel
theorem dX10_goes_25 : decode cX10_goes 25 = .ok (.aload_n 0, 1) := by decide +kernel
theorem dX10_goes_26 : decode cX10_goes 26 = .ok (.getfield 134, 3) := by decide +kernel
theorem dX10_goes_29 : decode cX10_goes 29 = .ok (.ifCond .eq 11, 3) := by decide +kernel
theorem dX10_goes_32 : decode cX10_goes 32 = .ok (.iload_n 1, 1) := by decide +kernel
theorem dX10_goes_33 : decode cX10_goes 33 = .ok (.ifCond .eq 7, 3) := by decide +kernel
theorem dX10_goes_36 : decode cX10_goes 36 = .ok (.iconst 1, 1) := by decide +kernel
theorem dX10_goes_37 : decode cX10_goes 37 = .ok (.goto 4, 3) := by decide +kernel
theorem dX10_goes_40 : decode cX10_goes 40 = .ok (.iconst 0, 1) := by decide +kernel
theorem dX10_goes_41 : decode cX10_goes 41 = .ok (.ireturn, 1) := by decide +kernel
def bX10_goes_0 (w : ab_W) (M : Nat → ab_P) (Kn : Option Value → ab_H → Prop) : ab_P := ab_ald 0 (ab_dup (ab_gf w 10 5 (ab_ald 0 (ab_gf w 10 4 (ab_if1 (fun x => x = 0) (M 20) (ab_ild 1 (ab_if1 (fun x => ¬ x = 0) (M 20) (ab_ci (nI 1) (M 21)))))))))
def bX10_goes_20 (w : ab_W) (M : Nat → ab_P) (Kn : Option Value → ab_H → Prop) : ab_P := ab_ci (nI 0) (M 21)
def bX10_goes_21 (w : ab_W) (M : Nat → ab_P) (Kn : Option Value → ab_H → Prop) : ab_P := ab_b2 (fun x y => x + y) (ab_pf w 10 5 (ab_ald 0 (ab_gf w 10 4 (ab_if1 (fun x => x = 0) (M 40) (ab_ild 1 (ab_if1 (fun x => x = 0) (M 40) (ab_ci (nI 1) (M 41))))))))
def bX10_goes_40 (w : ab_W) (M : Nat → ab_P) (Kn : Option Value → ab_H → Prop) : ab_P := ab_ci (nI 0) (M 41)
def bX10_goes_41 (w : ab_W) (M : Nat → ab_P) (Kn : Option Value → ab_H → Prop) : ab_P := ab_zr Kn
set_option maxRecDepth 20000 in
set_option maxHeartbeats 2000000 in
theorem vc_X10_goes {l : Launch} (hl : l.stackTraces = false) {w : ab_W} (hI : ab_Inj w) {mc : Nat} {σ : ab_H} {As : List Value} {Kn : Option Value → ab_H → Prop} {Kx : String → ab_H → Prop} (hlen : (ab_xl As).length ≤ 2) (h : ∀ M : Nat → ab_P, (∀ L st σ, bX10_goes_0 w M Kn L st σ → M 0 L st σ) → (∀ L st σ, bX10_goes_20 w M Kn L st σ → M 20 L st σ) → (∀ L st σ, bX10_goes_21 w M Kn L st σ → M 21 L st σ) → (∀ L st σ, bX10_goes_40 w M Kn L st σ → M 40 L st σ) → (∀ L st σ, bX10_goes_41 w M Kn L st σ → M 41 L st σ) → M 0 (ab_pd 2 (ab_xl As)) [] σ) : ab_Met l yX10_goes (Cond.code yX10_goes cX10_goes 2 (some .boolean)) 1 mc w σ As Kn Kx := by
  refine ab_enter (by decide) hl hI hlen (by decide) ?_
  intro p e R s m args below meth c C hno hr
  exact h _ (sd_aload_n C (i := 0) dX10_goes_0 rfl (sd_dup C dX10_goes_1 (sd_gf C (ci := 10) (k := 5) (r := (RX10, TX10, 15)) rfl (by decide) rfl wd_993 dX10_goes_2 (sd_aload_n C (i := 0) dX10_goes_5 rfl (sd_gf C (ci := 10) (k := 4) (r := (RX10, TX10, 15)) rfl (by decide) rfl wd_992 dX10_goes_6 (sd_if_eq C dX10_goes_9 (tgt := 20) (by decide) (fun _ _ _ h => h) (sd_iload_n C (i := 1) dX10_goes_12 rfl (sd_if_ne C dX10_goes_13 (tgt := 20) (by decide) (fun _ _ _ h => h) (sd_iconst C (x := nI 1) dX10_goes_16 (by decide +kernel) (sd_goto C dX10_goes_17 (tgt := 21) (by decide) (fun _ _ _ h => h)))))))))))
    (sd_iconst C (x := nI 0) dX10_goes_20 (by decide +kernel) (fun _ _ _ h => h))
    (sd_iadd C dX10_goes_21 (sd_pf C (ci := 10) (k := 5) (r := (RX10, TX10, 15)) rfl (by decide) rfl rfl (by decide +kernel) wd_993 dX10_goes_22 (sd_aload_n C (i := 0) dX10_goes_25 rfl (sd_gf C (ci := 10) (k := 4) (r := (RX10, TX10, 15)) rfl (by decide) rfl wd_992 dX10_goes_26 (sd_if_eq C dX10_goes_29 (tgt := 40) (by decide) (fun _ _ _ h => h) (sd_iload_n C (i := 1) dX10_goes_32 rfl (sd_if_eq C dX10_goes_33 (tgt := 40) (by decide) (fun _ _ _ h => h) (sd_iconst C (x := nI 1) dX10_goes_36 (by decide +kernel) (sd_goto C dX10_goes_37 (tgt := 41) (by decide) (fun _ _ _ h => h))))))))))
    (sd_iconst C (x := nI 0) dX10_goes_40 (by decide +kernel) (fun _ _ _ h => h))
    (sd_zr C hr dX10_goes_41)
theorem dX10_readStation_0 : decode cX10_readStation 0 = .ok (.aload_n 0, 1) := by decide +kernel
theorem dX10_readStation_1 : decode cX10_readStation 1 = .ok (.iconst 0, 1) := by decide +kernel
theorem dX10_readStation_2 : decode cX10_readStation 2 = .ok (.bipush 99, 2) := by decide +kernel
theorem dX10_readStation_4 : decode cX10_readStation 4 = .ok (.invokevirtual 150, 3) := by decide +kernel
theorem dX10_readStation_7 : decode cX10_readStation 7 = .ok (.istore_n 1, 1) := by decide +kernel
theorem dX10_readStation_8 : decode cX10_readStation 8 = .ok (.aload_n 0, 1) := by decide +kernel
theorem dX10_readStation_9 : decode cX10_readStation 9 = .ok (.iconst 0, 1) := by decide +kernel
theorem dX10_readStation_10 : decode cX10_readStation 10 = .ok (.bipush 15, 2) := by decide +kernel
theorem dX10_readStation_12 : decode cX10_readStation 12 = .ok (.invokevirtual 150, 3) := by decide +kernel
theorem dX10_readStation_15 : decode cX10_readStation 15 = .ok (.istore_n 2, 1) := by decide +kernel
theorem dX10_readStation_16 : decode cX10_readStation 16 = .ok (.aload_n 0, 1) := by decide +kernel
theorem dX10_readStation_17 : decode cX10_readStation 17 = .ok (.iconst 1, 1) := by decide +kernel
theorem dX10_readStation_18 : decode cX10_readStation 18 = .ok (.iconst 5, 1) := by decide +kernel
theorem dX10_readStation_19 : decode cX10_readStation 19 = .ok (.invokevirtual 144, 3) := by decide +kernel
theorem dX10_readStation_22 : decode cX10_readStation 22 = .ok (.istore_n 3, 1) := by decide +kernel
theorem dX10_readStation_23 : decode cX10_readStation 23 = .ok (.aload_n 0, 1) := by decide +kernel
theorem dX10_readStation_24 : decode cX10_readStation 24 = .ok (.iconst 0, 1) := by decide +kernel
theorem dX10_readStation_25 : decode cX10_readStation 25 = .ok (.bipush 99, 2) := by decide +kernel
theorem dX10_readStation_27 : decode cX10_readStation 27 = .ok (.invokevirtual 150, 3) := by decide +kernel
theorem dX10_readStation_30 : decode cX10_readStation 30 = .ok (.istore 4, 2) := by decide +kernel
theorem dX10_readStation_32 : decode cX10_readStation 32 = .ok (.aload_n 0, 1) := by decide +kernel
theorem dX10_readStation_33 : decode cX10_readStation 33 = .ok (.iconst 0, 1) := by decide +kernel
theorem dX10_readStation_34 : decode cX10_readStation 34 = .ok (.bipush 9, 2) := by decide +kernel
theorem dX10_readStation_36 : decode cX10_readStation 36 = .ok (.invokevirtual 144, 3) := by decide +kernel
theorem dX10_readStation_39 : decode cX10_readStation 39 = .ok (.istore 5, 2) := by decide +kernel
theorem dX10_readStation_41 : decode cX10_readStation 41 = .ok (.aload_n 0, 1) := by decide +kernel
theorem dX10_readStation_42 : decode cX10_readStation 42 = .ok (.aload_n 0, 1) := by decide +kernel
theorem dX10_readStation_43 : decode cX10_readStation 43 = .ok (.getfield 13, 3) := by decide +kernel
theorem dX10_readStation_46 : decode cX10_readStation 46 = .ok (.iconst 1, 1) := by decide +kernel
theorem dX10_readStation_47 : decode cX10_readStation 47 = .ok (.iaload, 1) := by decide +kernel
theorem dX10_readStation_48 : decode cX10_readStation 48 = .ok (.iconst 5, 1) := by decide +kernel
theorem dX10_readStation_49 : decode cX10_readStation 49 = .ok (.if_icmp .ge 7, 3) := by decide +kernel
theorem dX10_readStation_52 : decode cX10_readStation 52 = .ok (.iconst 1, 1) := by decide +kernel
theorem dX10_readStation_53 : decode cX10_readStation 53 = .ok (.goto 4, 3) := by decide +kernel
theorem dX10_readStation_56 : decode cX10_readStation 56 = .ok (.iconst 0, 1) := by decide +kernel
theorem dX10_readStation_57 : decode cX10_readStation 57 = .ok (.invokevirtual 153, 3) := by decide +kernel
theorem dX10_readStation_60 : decode cX10_readStation 60 = .ok (.ifCond .eq 18, 3) := by decide +kernel
theorem dX10_readStation_63 : decode cX10_readStation 63 = .ok (.aload_n 0, 1) := by decide +kernel
theorem dX10_readStation_64 : decode cX10_readStation 64 = .ok (.getfield 13, 3) := by decide +kernel
theorem dX10_readStation_67 : decode cX10_readStation 67 = .ok (.iload_n 1, 1) := by decide +kernel
theorem dX10_readStation_68 : decode cX10_readStation 68 = .ok (.iload_n 2, 1) := by decide +kernel
theorem dX10_readStation_69 : decode cX10_readStation 69 = .ok (.iload_n 3, 1) := by decide +kernel
theorem dX10_readStation_70 : decode cX10_readStation 70 = .ok (.iload 4, 2) := by decide +kernel
theorem dX10_readStation_72 : decode cX10_readStation 72 = .ok (.iload 5, 2) := by decide +kernel
theorem dX10_readStation_74 : decode cX10_readStation 74 = .ok (.invokestatic 157, 3) := by decide +kernel
theorem dX10_readStation_77 : decode cX10_readStation 77 = .ok (.pop, 1) := by decide +kernel
theorem dX10_readStation_78 : decode cX10_readStation 78 = .ok (.return_, 1) := by decide +kernel
def bX10_readStation_0 (w : ab_W) (s_X10_two : ab_S) (s_X10_digit : ab_S) (s_X10_goes : ab_S) (s_X10_addStationIn : ab_S) (M : Nat → ab_P) (Kn : Option Value → ab_H → Prop) : ab_P := ab_ald 0 (ab_ci (nI 0) (ab_ci (nI 99) (ab_cV w 3 10 s_X10_two (ab_ist 1 (ab_ald 0 (ab_ci (nI 0) (ab_ci (nI 15) (ab_cV w 3 10 s_X10_two (ab_ist 2 (ab_ald 0 (ab_ci (nI 1) (ab_ci (nI 5) (ab_cV w 3 10 s_X10_digit (ab_ist 3 (ab_ald 0 (ab_ci (nI 0) (ab_ci (nI 99) (ab_cV w 3 10 s_X10_two (ab_ist 4 (ab_ald 0 (ab_ci (nI 0) (ab_ci (nI 9) (ab_cV w 3 10 s_X10_digit (ab_ist 5 (ab_ald 0 (ab_ald 0 (ab_gr w 10 2 (ab_ci (nI 1) (ab_ia w 11 (ab_ci (nI 5) (ab_if2 (fun x y => y ≤ x) (ab_ci (nI 0) (M 57)) (ab_ci (nI 1) (M 57)))))))))))))))))))))))))))))))))
def bX10_readStation_57 (w : ab_W) (s_X10_two : ab_S) (s_X10_digit : ab_S) (s_X10_goes : ab_S) (s_X10_addStationIn : ab_S) (M : Nat → ab_P) (Kn : Option Value → ab_H → Prop) : ab_P := ab_cV w 2 10 s_X10_goes (ab_if1 (fun x => x = 0) (M 78) (ab_ald 0 (ab_gr w 10 2 (ab_ild 1 (ab_ild 2 (ab_ild 3 (ab_ild 4 (ab_ild 5 (ab_cN w 6 s_X10_addStationIn (ab_pop (M 78)))))))))))
def bX10_readStation_78 (w : ab_W) (s_X10_two : ab_S) (s_X10_digit : ab_S) (s_X10_goes : ab_S) (s_X10_addStationIn : ab_S) (M : Nat → ab_P) (Kn : Option Value → ab_H → Prop) : ab_P := ab_vr Kn
set_option maxRecDepth 20000 in
set_option maxHeartbeats 2000000 in
theorem vc_X10_readStation {l : Launch} (hl : l.stackTraces = false) {w : ab_W} (hI : ab_Inj w) {mc : Nat} {σ : ab_H} {As : List Value} {Kn : Option Value → ab_H → Prop} {Kx : String → ab_H → Prop} {s_X10_two : ab_S} (ok_X10_two : ab_OkN l yX10_two (Cond.code yX10_two cX10_two 4 (some .int)) 3 s_X10_two) {s_X10_digit : ab_S} (ok_X10_digit : ab_OkN l yX10_digit (Cond.code yX10_digit cX10_digit 4 (some .int)) 2 s_X10_digit) {s_X10_goes : ab_S} (ok_X10_goes : ab_OkN l yX10_goes (Cond.code yX10_goes cX10_goes 2 (some .boolean)) 1 s_X10_goes) {s_X10_addStationIn : ab_S} (ok_X10_addStationIn : ab_OkN l yX10_addStationIn (Cond.code yX10_addStationIn cX10_addStationIn 8 (some .int)) 2 s_X10_addStationIn) (hlen : (ab_xl As).length ≤ 6) (h : ∀ M : Nat → ab_P, (∀ L st σ, bX10_readStation_0 w s_X10_two s_X10_digit s_X10_goes s_X10_addStationIn M Kn L st σ → M 0 L st σ) → (∀ L st σ, bX10_readStation_57 w s_X10_two s_X10_digit s_X10_goes s_X10_addStationIn M Kn L st σ → M 57 L st σ) → (∀ L st σ, bX10_readStation_78 w s_X10_two s_X10_digit s_X10_goes s_X10_addStationIn M Kn L st σ → M 78 L st σ) → M 0 (ab_pd 6 (ab_xl As)) [] σ) : ab_Met l yX10_readStation (Cond.code yX10_readStation cX10_readStation 6 none) 4 mc w σ As Kn Kx := by
  refine ab_enter (by decide) hl hI hlen (by decide) ?_
  intro p e R s m args below meth c C hno hr
  exact h _ (sd_aload_n C (i := 0) dX10_readStation_0 rfl (sd_iconst C (x := nI 0) dX10_readStation_1 (by decide +kernel) (sd_bipush C (x := nI 99) dX10_readStation_2 (by decide +kernel) (sd_cV C ok_X10_two (ci := 10) (row := (RX10, TX10, 15)) rfl rfl ⟨by decide, by decide, wd_1082, wd_11, by decide +kernel⟩ wd_1079 wd_1081 ws_21 dX10_readStation_4 (sd_istore_n C (i := 1) dX10_readStation_7 rfl (by decide) (sd_aload_n C (i := 0) dX10_readStation_8 rfl (sd_iconst C (x := nI 0) dX10_readStation_9 (by decide +kernel) (sd_bipush C (x := nI 15) dX10_readStation_10 (by decide +kernel) (sd_cV C ok_X10_two (ci := 10) (row := (RX10, TX10, 15)) rfl rfl ⟨by decide, by decide, wd_1082, wd_11, by decide +kernel⟩ wd_1079 wd_1081 ws_21 dX10_readStation_12 (sd_istore_n C (i := 2) dX10_readStation_15 rfl (by decide) (sd_aload_n C (i := 0) dX10_readStation_16 rfl (sd_iconst C (x := nI 1) dX10_readStation_17 (by decide +kernel) (sd_iconst C (x := nI 5) dX10_readStation_18 (by decide +kernel) (sd_cV C ok_X10_digit (ci := 10) (row := (RX10, TX10, 15)) rfl rfl ⟨by decide, by decide, wd_1086, wd_11, by decide +kernel⟩ wd_1083 wd_1085 ws_22 dX10_readStation_19 (sd_istore_n C (i := 3) dX10_readStation_22 rfl (by decide) (sd_aload_n C (i := 0) dX10_readStation_23 rfl (sd_iconst C (x := nI 0) dX10_readStation_24 (by decide +kernel) (sd_bipush C (x := nI 99) dX10_readStation_25 (by decide +kernel) (sd_cV C ok_X10_two (ci := 10) (row := (RX10, TX10, 15)) rfl rfl ⟨by decide, by decide, wd_1082, wd_11, by decide +kernel⟩ wd_1079 wd_1081 ws_21 dX10_readStation_27 (sd_istore C dX10_readStation_30 (by decide) (sd_aload_n C (i := 0) dX10_readStation_32 rfl (sd_iconst C (x := nI 0) dX10_readStation_33 (by decide +kernel) (sd_bipush C (x := nI 9) dX10_readStation_34 (by decide +kernel) (sd_cV C ok_X10_digit (ci := 10) (row := (RX10, TX10, 15)) rfl rfl ⟨by decide, by decide, wd_1086, wd_11, by decide +kernel⟩ wd_1083 wd_1085 ws_22 dX10_readStation_36 (sd_istore C dX10_readStation_39 (by decide) (sd_aload_n C (i := 0) dX10_readStation_41 rfl (sd_aload_n C (i := 0) dX10_readStation_42 rfl (sd_gr C (ci := 10) (k := 6) (r := (RX10, TX10, 15)) rfl (by decide) rfl wd_994 dX10_readStation_43 (sd_iconst C (x := nI 1) dX10_readStation_46 (by decide +kernel) (sd_ia C dX10_readStation_47 (sd_iconst C (x := nI 5) dX10_readStation_48 (by decide +kernel) (sd_icmp_ge C dX10_readStation_49 (tgt := 56) (by decide) (sd_iconst C (x := nI 0) dX10_readStation_56 (by decide +kernel) (fun _ _ _ h => h)) (sd_iconst C (x := nI 1) dX10_readStation_52 (by decide +kernel) (sd_goto C dX10_readStation_53 (tgt := 57) (by decide) (fun _ _ _ h => h)))))))))))))))))))))))))))))))))))
    (sd_cV C ok_X10_goes (ci := 10) (row := (RX10, TX10, 15)) rfl rfl ⟨by decide, by decide, wd_1091, wd_11, by decide +kernel⟩ wd_1088 wd_1090 ws_23 dX10_readStation_57 (sd_if_eq C dX10_readStation_60 (tgt := 78) (by decide) (fun _ _ _ h => h) (sd_aload_n C (i := 0) dX10_readStation_63 rfl (sd_gr C (ci := 10) (k := 6) (r := (RX10, TX10, 15)) rfl (by decide) rfl wd_994 dX10_readStation_64 (sd_iload_n C (i := 1) dX10_readStation_67 rfl (sd_iload_n C (i := 2) dX10_readStation_68 rfl (sd_iload_n C (i := 3) dX10_readStation_69 rfl (sd_iload C dX10_readStation_70 (sd_iload C dX10_readStation_72 (sd_cS C ok_X10_addStationIn ⟨by decide, by decide, wd_1094, wd_11, by decide +kernel⟩ wd_1092 wd_1093 dX10_readStation_74 (sd_pop C dX10_readStation_77 (fun _ _ _ h => h))))))))))))
    (sd_vr C hr dX10_readStation_78)
theorem dX10_readFinder_0 : decode cX10_readFinder 0 = .ok (.aload_n 0, 1) := by decide +kernel
theorem dX10_readFinder_1 : decode cX10_readFinder 1 = .ok (.iconst 0, 1) := by decide +kernel
theorem dX10_readFinder_2 : decode cX10_readFinder 2 = .ok (.bipush 99, 2) := by decide +kernel
theorem dX10_readFinder_4 : decode cX10_readFinder 4 = .ok (.invokevirtual 150, 3) := by decide +kernel
theorem dX10_readFinder_7 : decode cX10_readFinder 7 = .ok (.istore_n 1, 1) := by decide +kernel
theorem dX10_readFinder_8 : decode cX10_readFinder 8 = .ok (.aload_n 0, 1) := by decide +kernel
theorem dX10_readFinder_9 : decode cX10_readFinder 9 = .ok (.iconst 0, 1) := by decide +kernel
theorem dX10_readFinder_10 : decode cX10_readFinder 10 = .ok (.bipush 20, 2) := by decide +kernel
theorem dX10_readFinder_12 : decode cX10_readFinder 12 = .ok (.invokevirtual 150, 3) := by decide +kernel
theorem dX10_readFinder_15 : decode cX10_readFinder 15 = .ok (.istore_n 2, 1) := by decide +kernel
theorem dX10_readFinder_16 : decode cX10_readFinder 16 = .ok (.aload_n 0, 1) := by decide +kernel
theorem dX10_readFinder_17 : decode cX10_readFinder 17 = .ok (.iconst 1, 1) := by decide +kernel
theorem dX10_readFinder_18 : decode cX10_readFinder 18 = .ok (.bipush 30, 2) := by decide +kernel
theorem dX10_readFinder_20 : decode cX10_readFinder 20 = .ok (.invokevirtual 150, 3) := by decide +kernel
theorem dX10_readFinder_23 : decode cX10_readFinder 23 = .ok (.istore_n 3, 1) := by decide +kernel
theorem dX10_readFinder_24 : decode cX10_readFinder 24 = .ok (.aload_n 0, 1) := by decide +kernel
theorem dX10_readFinder_25 : decode cX10_readFinder 25 = .ok (.aload_n 0, 1) := by decide +kernel
theorem dX10_readFinder_26 : decode cX10_readFinder 26 = .ok (.getfield 13, 3) := by decide +kernel
theorem dX10_readFinder_29 : decode cX10_readFinder 29 = .ok (.iconst 2, 1) := by decide +kernel
theorem dX10_readFinder_30 : decode cX10_readFinder 30 = .ok (.iaload, 1) := by decide +kernel
theorem dX10_readFinder_31 : decode cX10_readFinder 31 = .ok (.bipush 6, 2) := by decide +kernel
theorem dX10_readFinder_33 : decode cX10_readFinder 33 = .ok (.if_icmp .ge 7, 3) := by decide +kernel
theorem dX10_readFinder_36 : decode cX10_readFinder 36 = .ok (.iconst 1, 1) := by decide +kernel
theorem dX10_readFinder_37 : decode cX10_readFinder 37 = .ok (.goto 4, 3) := by decide +kernel
theorem dX10_readFinder_40 : decode cX10_readFinder 40 = .ok (.iconst 0, 1) := by decide +kernel
theorem dX10_readFinder_41 : decode cX10_readFinder 41 = .ok (.invokevirtual 153, 3) := by decide +kernel
theorem dX10_readFinder_44 : decode cX10_readFinder 44 = .ok (.ifCond .eq 14, 3) := by decide +kernel
theorem dX10_readFinder_47 : decode cX10_readFinder 47 = .ok (.aload_n 0, 1) := by decide +kernel
theorem dX10_readFinder_48 : decode cX10_readFinder 48 = .ok (.getfield 13, 3) := by decide +kernel
theorem dX10_readFinder_51 : decode cX10_readFinder 51 = .ok (.iload_n 1, 1) := by decide +kernel
theorem dX10_readFinder_52 : decode cX10_readFinder 52 = .ok (.iload_n 2, 1) := by decide +kernel
theorem dX10_readFinder_53 : decode cX10_readFinder 53 = .ok (.iload_n 3, 1) := by decide +kernel
theorem dX10_readFinder_54 : decode cX10_readFinder 54 = .ok (.invokestatic 161, 3) := by decide +kernel
theorem dX10_readFinder_57 : decode cX10_readFinder 57 = .ok (.pop, 1) := by decide +kernel
theorem dX10_readFinder_58 : decode cX10_readFinder 58 = .ok (.return_, 1) := by decide +kernel
def bX10_readFinder_0 (w : ab_W) (s_X10_two : ab_S) (s_X10_goes : ab_S) (s_X10_addFinderIn : ab_S) (M : Nat → ab_P) (Kn : Option Value → ab_H → Prop) : ab_P := ab_ald 0 (ab_ci (nI 0) (ab_ci (nI 99) (ab_cV w 3 10 s_X10_two (ab_ist 1 (ab_ald 0 (ab_ci (nI 0) (ab_ci (nI 20) (ab_cV w 3 10 s_X10_two (ab_ist 2 (ab_ald 0 (ab_ci (nI 1) (ab_ci (nI 30) (ab_cV w 3 10 s_X10_two (ab_ist 3 (ab_ald 0 (ab_ald 0 (ab_gr w 10 2 (ab_ci (nI 2) (ab_ia w 11 (ab_ci (nI 6) (ab_if2 (fun x y => y ≤ x) (ab_ci (nI 0) (M 41)) (ab_ci (nI 1) (M 41)))))))))))))))))))))))
def bX10_readFinder_41 (w : ab_W) (s_X10_two : ab_S) (s_X10_goes : ab_S) (s_X10_addFinderIn : ab_S) (M : Nat → ab_P) (Kn : Option Value → ab_H → Prop) : ab_P := ab_cV w 2 10 s_X10_goes (ab_if1 (fun x => x = 0) (M 58) (ab_ald 0 (ab_gr w 10 2 (ab_ild 1 (ab_ild 2 (ab_ild 3 (ab_cN w 4 s_X10_addFinderIn (ab_pop (M 58)))))))))
def bX10_readFinder_58 (w : ab_W) (s_X10_two : ab_S) (s_X10_goes : ab_S) (s_X10_addFinderIn : ab_S) (M : Nat → ab_P) (Kn : Option Value → ab_H → Prop) : ab_P := ab_vr Kn
set_option maxRecDepth 20000 in
set_option maxHeartbeats 2000000 in
theorem vc_X10_readFinder {l : Launch} (hl : l.stackTraces = false) {w : ab_W} (hI : ab_Inj w) {mc : Nat} {σ : ab_H} {As : List Value} {Kn : Option Value → ab_H → Prop} {Kx : String → ab_H → Prop} {s_X10_two : ab_S} (ok_X10_two : ab_OkN l yX10_two (Cond.code yX10_two cX10_two 4 (some .int)) 3 s_X10_two) {s_X10_goes : ab_S} (ok_X10_goes : ab_OkN l yX10_goes (Cond.code yX10_goes cX10_goes 2 (some .boolean)) 1 s_X10_goes) {s_X10_addFinderIn : ab_S} (ok_X10_addFinderIn : ab_OkN l yX10_addFinderIn (Cond.code yX10_addFinderIn cX10_addFinderIn 5 (some .int)) 2 s_X10_addFinderIn) (hlen : (ab_xl As).length ≤ 4) (h : ∀ M : Nat → ab_P, (∀ L st σ, bX10_readFinder_0 w s_X10_two s_X10_goes s_X10_addFinderIn M Kn L st σ → M 0 L st σ) → (∀ L st σ, bX10_readFinder_41 w s_X10_two s_X10_goes s_X10_addFinderIn M Kn L st σ → M 41 L st σ) → (∀ L st σ, bX10_readFinder_58 w s_X10_two s_X10_goes s_X10_addFinderIn M Kn L st σ → M 58 L st σ) → M 0 (ab_pd 4 (ab_xl As)) [] σ) : ab_Met l yX10_readFinder (Cond.code yX10_readFinder cX10_readFinder 4 none) 4 mc w σ As Kn Kx := by
  refine ab_enter (by decide) hl hI hlen (by decide) ?_
  intro p e R s m args below meth c C hno hr
  exact h _ (sd_aload_n C (i := 0) dX10_readFinder_0 rfl (sd_iconst C (x := nI 0) dX10_readFinder_1 (by decide +kernel) (sd_bipush C (x := nI 99) dX10_readFinder_2 (by decide +kernel) (sd_cV C ok_X10_two (ci := 10) (row := (RX10, TX10, 15)) rfl rfl ⟨by decide, by decide, wd_1082, wd_11, by decide +kernel⟩ wd_1079 wd_1081 ws_21 dX10_readFinder_4 (sd_istore_n C (i := 1) dX10_readFinder_7 rfl (by decide) (sd_aload_n C (i := 0) dX10_readFinder_8 rfl (sd_iconst C (x := nI 0) dX10_readFinder_9 (by decide +kernel) (sd_bipush C (x := nI 20) dX10_readFinder_10 (by decide +kernel) (sd_cV C ok_X10_two (ci := 10) (row := (RX10, TX10, 15)) rfl rfl ⟨by decide, by decide, wd_1082, wd_11, by decide +kernel⟩ wd_1079 wd_1081 ws_21 dX10_readFinder_12 (sd_istore_n C (i := 2) dX10_readFinder_15 rfl (by decide) (sd_aload_n C (i := 0) dX10_readFinder_16 rfl (sd_iconst C (x := nI 1) dX10_readFinder_17 (by decide +kernel) (sd_bipush C (x := nI 30) dX10_readFinder_18 (by decide +kernel) (sd_cV C ok_X10_two (ci := 10) (row := (RX10, TX10, 15)) rfl rfl ⟨by decide, by decide, wd_1082, wd_11, by decide +kernel⟩ wd_1079 wd_1081 ws_21 dX10_readFinder_20 (sd_istore_n C (i := 3) dX10_readFinder_23 rfl (by decide) (sd_aload_n C (i := 0) dX10_readFinder_24 rfl (sd_aload_n C (i := 0) dX10_readFinder_25 rfl (sd_gr C (ci := 10) (k := 6) (r := (RX10, TX10, 15)) rfl (by decide) rfl wd_994 dX10_readFinder_26 (sd_iconst C (x := nI 2) dX10_readFinder_29 (by decide +kernel) (sd_ia C dX10_readFinder_30 (sd_bipush C (x := nI 6) dX10_readFinder_31 (by decide +kernel) (sd_icmp_ge C dX10_readFinder_33 (tgt := 40) (by decide) (sd_iconst C (x := nI 0) dX10_readFinder_40 (by decide +kernel) (fun _ _ _ h => h)) (sd_iconst C (x := nI 1) dX10_readFinder_36 (by decide +kernel) (sd_goto C dX10_readFinder_37 (tgt := 41) (by decide) (fun _ _ _ h => h)))))))))))))))))))))))))
    (sd_cV C ok_X10_goes (ci := 10) (row := (RX10, TX10, 15)) rfl rfl ⟨by decide, by decide, wd_1091, wd_11, by decide +kernel⟩ wd_1088 wd_1090 ws_23 dX10_readFinder_41 (sd_if_eq C dX10_readFinder_44 (tgt := 58) (by decide) (fun _ _ _ h => h) (sd_aload_n C (i := 0) dX10_readFinder_47 rfl (sd_gr C (ci := 10) (k := 6) (r := (RX10, TX10, 15)) rfl (by decide) rfl wd_994 dX10_readFinder_48 (sd_iload_n C (i := 1) dX10_readFinder_51 rfl (sd_iload_n C (i := 2) dX10_readFinder_52 rfl (sd_iload_n C (i := 3) dX10_readFinder_53 rfl (sd_cS C ok_X10_addFinderIn ⟨by decide, by decide, wd_1104, wd_11, by decide +kernel⟩ wd_1102 wd_1103 dX10_readFinder_54 (sd_pop C dX10_readFinder_57 (fun _ _ _ h => h))))))))))
    (sd_vr C hr dX10_readFinder_58)
theorem dX10_readWind_0 : decode cX10_readWind 0 = .ok (.aload_n 0, 1) := by decide +kernel
theorem dX10_readWind_1 : decode cX10_readWind 1 = .ok (.iconst 0, 1) := by decide +kernel
theorem dX10_readWind_2 : decode cX10_readWind 2 = .ok (.iconst 3, 1) := by decide +kernel
theorem dX10_readWind_3 : decode cX10_readWind 3 = .ok (.invokevirtual 144, 3) := by decide +kernel
theorem dX10_readWind_6 : decode cX10_readWind 6 = .ok (.istore_n 1, 1) := by decide +kernel
theorem dX10_readWind_7 : decode cX10_readWind 7 = .ok (.aload_n 0, 1) := by decide +kernel
theorem dX10_readWind_8 : decode cX10_readWind 8 = .ok (.bipush 45, 2) := by decide +kernel
theorem dX10_readWind_10 : decode cX10_readWind 10 = .ok (.invokevirtual 165, 3) := by decide +kernel
theorem dX10_readWind_13 : decode cX10_readWind 13 = .ok (.istore_n 2, 1) := by decide +kernel
theorem dX10_readWind_14 : decode cX10_readWind 14 = .ok (.aload_n 0, 1) := by decide +kernel
theorem dX10_readWind_15 : decode cX10_readWind 15 = .ok (.iload_n 2, 1) := by decide +kernel
theorem dX10_readWind_16 : decode cX10_readWind 16 = .ok (.ifCond .ne 12, 3) := by decide +kernel
theorem dX10_readWind_19 : decode cX10_readWind 19 = .ok (.aload_n 0, 1) := by decide +kernel
theorem dX10_readWind_20 : decode cX10_readWind 20 = .ok (.bipush 43, 2) := by decide +kernel
theorem dX10_readWind_22 : decode cX10_readWind 22 = .ok (.invokevirtual 165, 3) := by decide +kernel
theorem dX10_readWind_25 : decode cX10_readWind 25 = .ok (.ifCond .eq 7, 3) := by decide +kernel
theorem dX10_readWind_28 : decode cX10_readWind 28 = .ok (.iconst 1, 1) := by decide +kernel
theorem dX10_readWind_29 : decode cX10_readWind 29 = .ok (.goto 4, 3) := by decide +kernel
theorem dX10_readWind_32 : decode cX10_readWind 32 = .ok (.iconst 0, 1) := by decide +kernel
theorem dX10_readWind_33 : decode cX10_readWind 33 = .ok (.invokevirtual 140, 3) := by decide +kernel
theorem dX10_readWind_36 : decode cX10_readWind 36 = .ok (.aload_n 0, 1) := by decide +kernel
theorem dX10_readWind_37 : decode cX10_readWind 37 = .ok (.iconst 0, 1) := by decide +kernel
theorem dX10_readWind_38 : decode cX10_readWind 38 = .ok (.bipush 20, 2) := by decide +kernel
theorem dX10_readWind_40 : decode cX10_readWind 40 = .ok (.invokevirtual 150, 3) := by decide +kernel
theorem dX10_readWind_43 : decode cX10_readWind 43 = .ok (.istore_n 3, 1) := by decide +kernel
theorem dX10_readWind_44 : decode cX10_readWind 44 = .ok (.aload_n 0, 1) := by decide +kernel
theorem dX10_readWind_45 : decode cX10_readWind 45 = .ok (.getfield 13, 3) := by decide +kernel
theorem dX10_readWind_48 : decode cX10_readWind 48 = .ok (.bipush 17, 2) := by decide +kernel
theorem dX10_readWind_50 : decode cX10_readWind 50 = .ok (.iload_n 1, 1) := by decide +kernel
theorem dX10_readWind_51 : decode cX10_readWind 51 = .ok (.iadd, 1) := by decide +kernel
theorem dX10_readWind_52 : decode cX10_readWind 52 = .ok (.aload_n 0, 1) := by decide +kernel
theorem dX10_readWind_53 : decode cX10_readWind 53 = .ok (.getfield 134, 3) := by decide +kernel
theorem dX10_readWind_56 : decode cX10_readWind 56 = .ok (.ifCond .ne 15, 3) := by decide +kernel
theorem dX10_readWind_59 : decode cX10_readWind 59 = .ok (.aload_n 0, 1) := by decide +kernel
theorem dX10_readWind_60 : decode cX10_readWind 60 = .ok (.getfield 13, 3) := by decide +kernel
theorem dX10_readWind_63 : decode cX10_readWind 63 = .ok (.bipush 17, 2) := by decide +kernel
theorem dX10_readWind_65 : decode cX10_readWind 65 = .ok (.iload_n 1, 1) := by decide +kernel
theorem dX10_readWind_66 : decode cX10_readWind 66 = .ok (.iadd, 1) := by decide +kernel
theorem dX10_readWind_67 : decode cX10_readWind 67 = .ok (.iaload, 1) := by decide +kernel
theorem dX10_readWind_68 : decode cX10_readWind 68 = .ok (.goto 13, 3) := by decide +kernel
theorem dX10_readWind_71 : decode cX10_readWind 71 = .ok (.iload_n 2, 1) := by decide +kernel
theorem dX10_readWind_72 : decode cX10_readWind 72 = .ok (.ifCond .eq 8, 3) := by decide +kernel
theorem dX10_readWind_75 : decode cX10_readWind 75 = .ok (.iload_n 3, 1) := by decide +kernel
theorem dX10_readWind_76 : decode cX10_readWind 76 = .ok (.ineg, 1) := by decide +kernel
theorem dX10_readWind_77 : decode cX10_readWind 77 = .ok (.goto 4, 3) := by decide +kernel
theorem dX10_readWind_80 : decode cX10_readWind 80 = .ok (.iload_n 3, 1) := by decide +kernel
theorem dX10_readWind_81 : decode cX10_readWind 81 = .ok (.iastore, 1) := by decide +kernel
theorem dX10_readWind_82 : decode cX10_readWind 82 = .ok (.return_, 1) := by decide +kernel
def bX10_readWind_0 (w : ab_W) (s_X10_digit : ab_S) (s_X10_isNext : ab_S) (s_X10_accept : ab_S) (s_X10_two : ab_S) (M : Nat → ab_P) (Kn : Option Value → ab_H → Prop) : ab_P := ab_ald 0 (ab_ci (nI 0) (ab_ci (nI 3) (ab_cV w 3 10 s_X10_digit (ab_ist 1 (ab_ald 0 (ab_ci (nI 45) (ab_cV w 2 10 s_X10_isNext (ab_ist 2 (ab_ald 0 (ab_ild 2 (ab_if1 (fun x => ¬ x = 0) (M 28) (ab_ald 0 (ab_ci (nI 43) (ab_cV w 2 10 s_X10_isNext (ab_if1 (fun x => x = 0) (ab_ci (nI 0) (M 33)) (M 28))))))))))))))))
def bX10_readWind_28 (w : ab_W) (s_X10_digit : ab_S) (s_X10_isNext : ab_S) (s_X10_accept : ab_S) (s_X10_two : ab_S) (M : Nat → ab_P) (Kn : Option Value → ab_H → Prop) : ab_P := ab_ci (nI 1) (M 33)
def bX10_readWind_33 (w : ab_W) (s_X10_digit : ab_S) (s_X10_isNext : ab_S) (s_X10_accept : ab_S) (s_X10_two : ab_S) (M : Nat → ab_P) (Kn : Option Value → ab_H → Prop) : ab_P := ab_cV w 2 10 s_X10_accept (ab_ald 0 (ab_ci (nI 0) (ab_ci (nI 20) (ab_cV w 3 10 s_X10_two (ab_ist 3 (ab_ald 0 (ab_gr w 10 2 (ab_ci (nI 17) (ab_ild 1 (ab_b2 (fun x y => x + y) (ab_ald 0 (ab_gf w 10 4 (ab_if1 (fun x => ¬ x = 0) (ab_ild 2 (ab_if1 (fun x => x = 0) (ab_ild 3 (M 81)) (ab_ild 3 (ab_u1 (fun x => -x) (M 81))))) (ab_ald 0 (ab_gr w 10 2 (ab_ci (nI 17) (ab_ild 1 (ab_b2 (fun x y => x + y) (ab_ia w 11 (M 81))))))))))))))))))))
def bX10_readWind_81 (w : ab_W) (s_X10_digit : ab_S) (s_X10_isNext : ab_S) (s_X10_accept : ab_S) (s_X10_two : ab_S) (M : Nat → ab_P) (Kn : Option Value → ab_H → Prop) : ab_P := ab_is w (ab_vr Kn)
set_option maxRecDepth 20000 in
set_option maxHeartbeats 2000000 in
theorem vc_X10_readWind {l : Launch} (hl : l.stackTraces = false) {w : ab_W} (hI : ab_Inj w) {mc : Nat} {σ : ab_H} {As : List Value} {Kn : Option Value → ab_H → Prop} {Kx : String → ab_H → Prop} {s_X10_digit : ab_S} (ok_X10_digit : ab_OkN l yX10_digit (Cond.code yX10_digit cX10_digit 4 (some .int)) 2 s_X10_digit) {s_X10_isNext : ab_S} (ok_X10_isNext : ab_OkN l yX10_isNext (Cond.code yX10_isNext cX10_isNext 2 (some .boolean)) 1 s_X10_isNext) {s_X10_accept : ab_S} (ok_X10_accept : ab_OkN l yX10_accept (Cond.code yX10_accept cX10_accept 2 none) 1 s_X10_accept) {s_X10_two : ab_S} (ok_X10_two : ab_OkN l yX10_two (Cond.code yX10_two cX10_two 4 (some .int)) 3 s_X10_two) (hlen : (ab_xl As).length ≤ 4) (h : ∀ M : Nat → ab_P, (∀ L st σ, bX10_readWind_0 w s_X10_digit s_X10_isNext s_X10_accept s_X10_two M Kn L st σ → M 0 L st σ) → (∀ L st σ, bX10_readWind_28 w s_X10_digit s_X10_isNext s_X10_accept s_X10_two M Kn L st σ → M 28 L st σ) → (∀ L st σ, bX10_readWind_33 w s_X10_digit s_X10_isNext s_X10_accept s_X10_two M Kn L st σ → M 33 L st σ) → (∀ L st σ, bX10_readWind_81 w s_X10_digit s_X10_isNext s_X10_accept s_X10_two M Kn L st σ → M 81 L st σ) → M 0 (ab_pd 4 (ab_xl As)) [] σ) : ab_Met l yX10_readWind (Cond.code yX10_readWind cX10_readWind 4 none) 4 mc w σ As Kn Kx := by
  refine ab_enter (by decide) hl hI hlen (by decide) ?_
  intro p e R s m args below meth c C hno hr
  exact h _ (sd_aload_n C (i := 0) dX10_readWind_0 rfl (sd_iconst C (x := nI 0) dX10_readWind_1 (by decide +kernel) (sd_iconst C (x := nI 3) dX10_readWind_2 (by decide +kernel) (sd_cV C ok_X10_digit (ci := 10) (row := (RX10, TX10, 15)) rfl rfl ⟨by decide, by decide, wd_1086, wd_11, by decide +kernel⟩ wd_1083 wd_1085 ws_22 dX10_readWind_3 (sd_istore_n C (i := 1) dX10_readWind_6 rfl (by decide) (sd_aload_n C (i := 0) dX10_readWind_7 rfl (sd_bipush C (x := nI 45) dX10_readWind_8 (by decide +kernel) (sd_cV C ok_X10_isNext (ci := 10) (row := (RX10, TX10, 15)) rfl rfl ⟨by decide, by decide, wd_1066, wd_11, by decide +kernel⟩ wd_1063 wd_1065 ws_17 dX10_readWind_10 (sd_istore_n C (i := 2) dX10_readWind_13 rfl (by decide) (sd_aload_n C (i := 0) dX10_readWind_14 rfl (sd_iload_n C (i := 2) dX10_readWind_15 rfl (sd_if_ne C dX10_readWind_16 (tgt := 28) (by decide) (fun _ _ _ h => h) (sd_aload_n C (i := 0) dX10_readWind_19 rfl (sd_bipush C (x := nI 43) dX10_readWind_20 (by decide +kernel) (sd_cV C ok_X10_isNext (ci := 10) (row := (RX10, TX10, 15)) rfl rfl ⟨by decide, by decide, wd_1066, wd_11, by decide +kernel⟩ wd_1063 wd_1065 ws_17 dX10_readWind_22 (sd_if_eq C dX10_readWind_25 (tgt := 32) (by decide) (sd_iconst C (x := nI 0) dX10_readWind_32 (by decide +kernel) (fun _ _ _ h => h)) (fun _ _ _ h => h)))))))))))))))))
    (sd_iconst C (x := nI 1) dX10_readWind_28 (by decide +kernel) (sd_goto C dX10_readWind_29 (tgt := 33) (by decide) (fun _ _ _ h => h)))
    (sd_cV C ok_X10_accept (ci := 10) (row := (RX10, TX10, 15)) rfl rfl ⟨by decide, by decide, wd_1070, wd_11, by decide +kernel⟩ wd_1067 wd_1069 ws_18 dX10_readWind_33 (sd_aload_n C (i := 0) dX10_readWind_36 rfl (sd_iconst C (x := nI 0) dX10_readWind_37 (by decide +kernel) (sd_bipush C (x := nI 20) dX10_readWind_38 (by decide +kernel) (sd_cV C ok_X10_two (ci := 10) (row := (RX10, TX10, 15)) rfl rfl ⟨by decide, by decide, wd_1082, wd_11, by decide +kernel⟩ wd_1079 wd_1081 ws_21 dX10_readWind_40 (sd_istore_n C (i := 3) dX10_readWind_43 rfl (by decide) (sd_aload_n C (i := 0) dX10_readWind_44 rfl (sd_gr C (ci := 10) (k := 6) (r := (RX10, TX10, 15)) rfl (by decide) rfl wd_994 dX10_readWind_45 (sd_bipush C (x := nI 17) dX10_readWind_48 (by decide +kernel) (sd_iload_n C (i := 1) dX10_readWind_50 rfl (sd_iadd C dX10_readWind_51 (sd_aload_n C (i := 0) dX10_readWind_52 rfl (sd_gf C (ci := 10) (k := 4) (r := (RX10, TX10, 15)) rfl (by decide) rfl wd_992 dX10_readWind_53 (sd_if_ne C dX10_readWind_56 (tgt := 71) (by decide) (sd_iload_n C (i := 2) dX10_readWind_71 rfl (sd_if_eq C dX10_readWind_72 (tgt := 80) (by decide) (sd_iload_n C (i := 3) dX10_readWind_80 rfl (fun _ _ _ h => h)) (sd_iload_n C (i := 3) dX10_readWind_75 rfl (sd_ineg C dX10_readWind_76 (sd_goto C dX10_readWind_77 (tgt := 81) (by decide) (fun _ _ _ h => h)))))) (sd_aload_n C (i := 0) dX10_readWind_59 rfl (sd_gr C (ci := 10) (k := 6) (r := (RX10, TX10, 15)) rfl (by decide) rfl wd_994 dX10_readWind_60 (sd_bipush C (x := nI 17) dX10_readWind_63 (by decide +kernel) (sd_iload_n C (i := 1) dX10_readWind_65 rfl (sd_iadd C dX10_readWind_66 (sd_ia C dX10_readWind_67 (sd_goto C dX10_readWind_68 (tgt := 81) (by decide) (fun _ _ _ h => h))))))))))))))))))))))
    (sd_is C dX10_readWind_81 (sd_vr C hr dX10_readWind_82))
theorem dX10_readDelivery_0 : decode cX10_readDelivery 0 = .ok (.aload_n 0, 1) := by decide +kernel
theorem dX10_readDelivery_1 : decode cX10_readDelivery 1 = .ok (.iconst 0, 1) := by decide +kernel
theorem dX10_readDelivery_2 : decode cX10_readDelivery 2 = .ok (.iconst 4, 1) := by decide +kernel
theorem dX10_readDelivery_3 : decode cX10_readDelivery 3 = .ok (.invokevirtual 144, 3) := by decide +kernel
theorem dX10_readDelivery_6 : decode cX10_readDelivery 6 = .ok (.istore_n 1, 1) := by decide +kernel
theorem dX10_readDelivery_7 : decode cX10_readDelivery 7 = .ok (.aload_n 0, 1) := by decide +kernel
theorem dX10_readDelivery_8 : decode cX10_readDelivery 8 = .ok (.iconst 0, 1) := by decide +kernel
theorem dX10_readDelivery_9 : decode cX10_readDelivery 9 = .ok (.bipush 99, 2) := by decide +kernel
theorem dX10_readDelivery_11 : decode cX10_readDelivery 11 = .ok (.invokevirtual 150, 3) := by decide +kernel
theorem dX10_readDelivery_14 : decode cX10_readDelivery 14 = .ok (.istore_n 2, 1) := by decide +kernel
theorem dX10_readDelivery_15 : decode cX10_readDelivery 15 = .ok (.aload_n 0, 1) := by decide +kernel
theorem dX10_readDelivery_16 : decode cX10_readDelivery 16 = .ok (.iconst 0, 1) := by decide +kernel
theorem dX10_readDelivery_17 : decode cX10_readDelivery 17 = .ok (.bipush 9, 2) := by decide +kernel
theorem dX10_readDelivery_19 : decode cX10_readDelivery 19 = .ok (.invokevirtual 144, 3) := by decide +kernel
theorem dX10_readDelivery_22 : decode cX10_readDelivery 22 = .ok (.istore_n 3, 1) := by decide +kernel
theorem dX10_readDelivery_23 : decode cX10_readDelivery 23 = .ok (.aload_n 0, 1) := by decide +kernel
theorem dX10_readDelivery_24 : decode cX10_readDelivery 24 = .ok (.iload_n 1, 1) := by decide +kernel
theorem dX10_readDelivery_25 : decode cX10_readDelivery 25 = .ok (.aload_n 0, 1) := by decide +kernel
theorem dX10_readDelivery_26 : decode cX10_readDelivery 26 = .ok (.getfield 13, 3) := by decide +kernel
theorem dX10_readDelivery_29 : decode cX10_readDelivery 29 = .ok (.iconst 1, 1) := by decide +kernel
theorem dX10_readDelivery_30 : decode cX10_readDelivery 30 = .ok (.iaload, 1) := by decide +kernel
theorem dX10_readDelivery_31 : decode cX10_readDelivery 31 = .ok (.if_icmp .ge 19, 3) := by decide +kernel
theorem dX10_readDelivery_34 : decode cX10_readDelivery 34 = .ok (.aload_n 0, 1) := by decide +kernel
theorem dX10_readDelivery_35 : decode cX10_readDelivery 35 = .ok (.getfield 13, 3) := by decide +kernel
theorem dX10_readDelivery_38 : decode cX10_readDelivery 38 = .ok (.iload_n 2, 1) := by decide +kernel
theorem dX10_readDelivery_39 : decode cX10_readDelivery 39 = .ok (.iload_n 3, 1) := by decide +kernel
theorem dX10_readDelivery_40 : decode cX10_readDelivery 40 = .ok (.invokestatic 168, 3) := by decide +kernel
theorem dX10_readDelivery_43 : decode cX10_readDelivery 43 = .ok (.ifCond .eq 7, 3) := by decide +kernel
theorem dX10_readDelivery_46 : decode cX10_readDelivery 46 = .ok (.iconst 1, 1) := by decide +kernel
theorem dX10_readDelivery_47 : decode cX10_readDelivery 47 = .ok (.goto 4, 3) := by decide +kernel
theorem dX10_readDelivery_50 : decode cX10_readDelivery 50 = .ok (.iconst 0, 1) := by decide +kernel
theorem dX10_readDelivery_51 : decode cX10_readDelivery 51 = .ok (.invokevirtual 153, 3) := by decide +kernel
theorem dX10_readDelivery_54 : decode cX10_readDelivery 54 = .ok (.ifCond .eq 14, 3) := by decide +kernel
theorem dX10_readDelivery_57 : decode cX10_readDelivery 57 = .ok (.aload_n 0, 1) := by decide +kernel
theorem dX10_readDelivery_58 : decode cX10_readDelivery 58 = .ok (.getfield 13, 3) := by decide +kernel
theorem dX10_readDelivery_61 : decode cX10_readDelivery 61 = .ok (.iload_n 1, 1) := by decide +kernel
theorem dX10_readDelivery_62 : decode cX10_readDelivery 62 = .ok (.iload_n 2, 1) := by decide +kernel
theorem dX10_readDelivery_63 : decode cX10_readDelivery 63 = .ok (.iload_n 3, 1) := by decide +kernel
theorem dX10_readDelivery_64 : decode cX10_readDelivery 64 = .ok (.invokestatic 172, 3) := by decide +kernel
theorem dX10_readDelivery_67 : decode cX10_readDelivery 67 = .ok (.pop, 1) := by decide +kernel
theorem dX10_readDelivery_68 : decode cX10_readDelivery 68 = .ok (.return_, 1) := by decide +kernel
def bX10_readDelivery_0 (w : ab_W) (s_X10_digit : ab_S) (s_X10_two : ab_S) (s_X10_canDeliver : ab_S) (s_X10_goes : ab_S) (s_X10_deliverIn : ab_S) (M : Nat → ab_P) (Kn : Option Value → ab_H → Prop) : ab_P := ab_ald 0 (ab_ci (nI 0) (ab_ci (nI 4) (ab_cV w 3 10 s_X10_digit (ab_ist 1 (ab_ald 0 (ab_ci (nI 0) (ab_ci (nI 99) (ab_cV w 3 10 s_X10_two (ab_ist 2 (ab_ald 0 (ab_ci (nI 0) (ab_ci (nI 9) (ab_cV w 3 10 s_X10_digit (ab_ist 3 (ab_ald 0 (ab_ild 1 (ab_ald 0 (ab_gr w 10 2 (ab_ci (nI 1) (ab_ia w 11 (ab_if2 (fun x y => y ≤ x) (M 50) (ab_ald 0 (ab_gr w 10 2 (ab_ild 2 (ab_ild 3 (ab_cN w 3 s_X10_canDeliver (ab_if1 (fun x => x = 0) (M 50) (ab_ci (nI 1) (M 51)))))))))))))))))))))))))))))
def bX10_readDelivery_50 (w : ab_W) (s_X10_digit : ab_S) (s_X10_two : ab_S) (s_X10_canDeliver : ab_S) (s_X10_goes : ab_S) (s_X10_deliverIn : ab_S) (M : Nat → ab_P) (Kn : Option Value → ab_H → Prop) : ab_P := ab_ci (nI 0) (M 51)
def bX10_readDelivery_51 (w : ab_W) (s_X10_digit : ab_S) (s_X10_two : ab_S) (s_X10_canDeliver : ab_S) (s_X10_goes : ab_S) (s_X10_deliverIn : ab_S) (M : Nat → ab_P) (Kn : Option Value → ab_H → Prop) : ab_P := ab_cV w 2 10 s_X10_goes (ab_if1 (fun x => x = 0) (M 68) (ab_ald 0 (ab_gr w 10 2 (ab_ild 1 (ab_ild 2 (ab_ild 3 (ab_cN w 4 s_X10_deliverIn (ab_pop (M 68)))))))))
def bX10_readDelivery_68 (w : ab_W) (s_X10_digit : ab_S) (s_X10_two : ab_S) (s_X10_canDeliver : ab_S) (s_X10_goes : ab_S) (s_X10_deliverIn : ab_S) (M : Nat → ab_P) (Kn : Option Value → ab_H → Prop) : ab_P := ab_vr Kn
set_option maxRecDepth 20000 in
set_option maxHeartbeats 2000000 in
theorem vc_X10_readDelivery {l : Launch} (hl : l.stackTraces = false) {w : ab_W} (hI : ab_Inj w) {mc : Nat} {σ : ab_H} {As : List Value} {Kn : Option Value → ab_H → Prop} {Kx : String → ab_H → Prop} {s_X10_digit : ab_S} (ok_X10_digit : ab_OkN l yX10_digit (Cond.code yX10_digit cX10_digit 4 (some .int)) 2 s_X10_digit) {s_X10_two : ab_S} (ok_X10_two : ab_OkN l yX10_two (Cond.code yX10_two cX10_two 4 (some .int)) 3 s_X10_two) {s_X10_canDeliver : ab_S} (ok_X10_canDeliver : ab_OkN l yX10_canDeliver (Cond.code yX10_canDeliver cX10_canDeliver 3 (some .boolean)) 1 s_X10_canDeliver) {s_X10_goes : ab_S} (ok_X10_goes : ab_OkN l yX10_goes (Cond.code yX10_goes cX10_goes 2 (some .boolean)) 1 s_X10_goes) {s_X10_deliverIn : ab_S} (ok_X10_deliverIn : ab_OkN l yX10_deliverIn (Cond.code yX10_deliverIn cX10_deliverIn 6 (some .int)) 2 s_X10_deliverIn) (hlen : (ab_xl As).length ≤ 4) (h : ∀ M : Nat → ab_P, (∀ L st σ, bX10_readDelivery_0 w s_X10_digit s_X10_two s_X10_canDeliver s_X10_goes s_X10_deliverIn M Kn L st σ → M 0 L st σ) → (∀ L st σ, bX10_readDelivery_50 w s_X10_digit s_X10_two s_X10_canDeliver s_X10_goes s_X10_deliverIn M Kn L st σ → M 50 L st σ) → (∀ L st σ, bX10_readDelivery_51 w s_X10_digit s_X10_two s_X10_canDeliver s_X10_goes s_X10_deliverIn M Kn L st σ → M 51 L st σ) → (∀ L st σ, bX10_readDelivery_68 w s_X10_digit s_X10_two s_X10_canDeliver s_X10_goes s_X10_deliverIn M Kn L st σ → M 68 L st σ) → M 0 (ab_pd 4 (ab_xl As)) [] σ) : ab_Met l yX10_readDelivery (Cond.code yX10_readDelivery cX10_readDelivery 4 none) 4 mc w σ As Kn Kx := by
  refine ab_enter (by decide) hl hI hlen (by decide) ?_
  intro p e R s m args below meth c C hno hr
  exact h _ (sd_aload_n C (i := 0) dX10_readDelivery_0 rfl (sd_iconst C (x := nI 0) dX10_readDelivery_1 (by decide +kernel) (sd_iconst C (x := nI 4) dX10_readDelivery_2 (by decide +kernel) (sd_cV C ok_X10_digit (ci := 10) (row := (RX10, TX10, 15)) rfl rfl ⟨by decide, by decide, wd_1086, wd_11, by decide +kernel⟩ wd_1083 wd_1085 ws_22 dX10_readDelivery_3 (sd_istore_n C (i := 1) dX10_readDelivery_6 rfl (by decide) (sd_aload_n C (i := 0) dX10_readDelivery_7 rfl (sd_iconst C (x := nI 0) dX10_readDelivery_8 (by decide +kernel) (sd_bipush C (x := nI 99) dX10_readDelivery_9 (by decide +kernel) (sd_cV C ok_X10_two (ci := 10) (row := (RX10, TX10, 15)) rfl rfl ⟨by decide, by decide, wd_1082, wd_11, by decide +kernel⟩ wd_1079 wd_1081 ws_21 dX10_readDelivery_11 (sd_istore_n C (i := 2) dX10_readDelivery_14 rfl (by decide) (sd_aload_n C (i := 0) dX10_readDelivery_15 rfl (sd_iconst C (x := nI 0) dX10_readDelivery_16 (by decide +kernel) (sd_bipush C (x := nI 9) dX10_readDelivery_17 (by decide +kernel) (sd_cV C ok_X10_digit (ci := 10) (row := (RX10, TX10, 15)) rfl rfl ⟨by decide, by decide, wd_1086, wd_11, by decide +kernel⟩ wd_1083 wd_1085 ws_22 dX10_readDelivery_19 (sd_istore_n C (i := 3) dX10_readDelivery_22 rfl (by decide) (sd_aload_n C (i := 0) dX10_readDelivery_23 rfl (sd_iload_n C (i := 1) dX10_readDelivery_24 rfl (sd_aload_n C (i := 0) dX10_readDelivery_25 rfl (sd_gr C (ci := 10) (k := 6) (r := (RX10, TX10, 15)) rfl (by decide) rfl wd_994 dX10_readDelivery_26 (sd_iconst C (x := nI 1) dX10_readDelivery_29 (by decide +kernel) (sd_ia C dX10_readDelivery_30 (sd_icmp_ge C dX10_readDelivery_31 (tgt := 50) (by decide) (fun _ _ _ h => h) (sd_aload_n C (i := 0) dX10_readDelivery_34 rfl (sd_gr C (ci := 10) (k := 6) (r := (RX10, TX10, 15)) rfl (by decide) rfl wd_994 dX10_readDelivery_35 (sd_iload_n C (i := 2) dX10_readDelivery_38 rfl (sd_iload_n C (i := 3) dX10_readDelivery_39 rfl (sd_cS C ok_X10_canDeliver ⟨by decide, by decide, wd_1118, wd_11, by decide +kernel⟩ wd_1116 wd_1117 dX10_readDelivery_40 (sd_if_eq C dX10_readDelivery_43 (tgt := 50) (by decide) (fun _ _ _ h => h) (sd_iconst C (x := nI 1) dX10_readDelivery_46 (by decide +kernel) (sd_goto C dX10_readDelivery_47 (tgt := 51) (by decide) (fun _ _ _ h => h)))))))))))))))))))))))))))))))
    (sd_iconst C (x := nI 0) dX10_readDelivery_50 (by decide +kernel) (fun _ _ _ h => h))
    (sd_cV C ok_X10_goes (ci := 10) (row := (RX10, TX10, 15)) rfl rfl ⟨by decide, by decide, wd_1091, wd_11, by decide +kernel⟩ wd_1088 wd_1090 ws_23 dX10_readDelivery_51 (sd_if_eq C dX10_readDelivery_54 (tgt := 68) (by decide) (fun _ _ _ h => h) (sd_aload_n C (i := 0) dX10_readDelivery_57 rfl (sd_gr C (ci := 10) (k := 6) (r := (RX10, TX10, 15)) rfl (by decide) rfl wd_994 dX10_readDelivery_58 (sd_iload_n C (i := 1) dX10_readDelivery_61 rfl (sd_iload_n C (i := 2) dX10_readDelivery_62 rfl (sd_iload_n C (i := 3) dX10_readDelivery_63 rfl (sd_cS C ok_X10_deliverIn ⟨by decide, by decide, wd_1121, wd_11, by decide +kernel⟩ wd_1119 wd_1120 dX10_readDelivery_64 (sd_pop C dX10_readDelivery_67 (fun _ _ _ h => h))))))))))
    (sd_vr C hr dX10_readDelivery_68)
theorem dX10_readRun_0 : decode cX10_readRun 0 = .ok (.aload_n 0, 1) := by decide +kernel
theorem dX10_readRun_1 : decode cX10_readRun 1 = .ok (.iconst 1, 1) := by decide +kernel
theorem dX10_readRun_2 : decode cX10_readRun 2 = .ok (.bipush 9, 2) := by decide +kernel
theorem dX10_readRun_4 : decode cX10_readRun 4 = .ok (.invokevirtual 144, 3) := by decide +kernel
theorem dX10_readRun_7 : decode cX10_readRun 7 = .ok (.istore_n 1, 1) := by decide +kernel
theorem dX10_readRun_8 : decode cX10_readRun 8 = .ok (.aload_n 0, 1) := by decide +kernel
theorem dX10_readRun_9 : decode cX10_readRun 9 = .ok (.getfield 134, 3) := by decide +kernel
theorem dX10_readRun_12 : decode cX10_readRun 12 = .ok (.ifCond .eq 13, 3) := by decide +kernel
theorem dX10_readRun_15 : decode cX10_readRun 15 = .ok (.aload_n 0, 1) := by decide +kernel
theorem dX10_readRun_16 : decode cX10_readRun 16 = .ok (.aload_n 0, 1) := by decide +kernel
theorem dX10_readRun_17 : decode cX10_readRun 17 = .ok (.getfield 13, 3) := by decide +kernel
theorem dX10_readRun_20 : decode cX10_readRun 20 = .ok (.iload_n 1, 1) := by decide +kernel
theorem dX10_readRun_21 : decode cX10_readRun 21 = .ok (.invokevirtual 175, 3) := by decide +kernel
theorem dX10_readRun_24 : decode cX10_readRun 24 = .ok (.pop, 1) := by decide +kernel
theorem dX10_readRun_25 : decode cX10_readRun 25 = .ok (.return_, 1) := by decide +kernel
def bX10_readRun_0 (w : ab_W) (s_X10_digit : ab_S) (s_X10_runIn : ab_S) (M : Nat → ab_P) (Kn : Option Value → ab_H → Prop) : ab_P := ab_ald 0 (ab_ci (nI 1) (ab_ci (nI 9) (ab_cV w 3 10 s_X10_digit (ab_ist 1 (ab_ald 0 (ab_gf w 10 4 (ab_if1 (fun x => x = 0) (M 25) (ab_ald 0 (ab_ald 0 (ab_gr w 10 2 (ab_ild 1 (ab_cV w 3 10 s_X10_runIn (ab_pop (M 25))))))))))))))
def bX10_readRun_25 (w : ab_W) (s_X10_digit : ab_S) (s_X10_runIn : ab_S) (M : Nat → ab_P) (Kn : Option Value → ab_H → Prop) : ab_P := ab_vr Kn
set_option maxRecDepth 20000 in
set_option maxHeartbeats 2000000 in
theorem vc_X10_readRun {l : Launch} (hl : l.stackTraces = false) {w : ab_W} (hI : ab_Inj w) {mc : Nat} {σ : ab_H} {As : List Value} {Kn : Option Value → ab_H → Prop} {Kx : String → ab_H → Prop} {s_X10_digit : ab_S} (ok_X10_digit : ab_OkN l yX10_digit (Cond.code yX10_digit cX10_digit 4 (some .int)) 2 s_X10_digit) {s_X10_runIn : ab_S} (ok_X10_runIn : ab_OkN l yX10_runIn (Cond.code yX10_runIn cX10_runIn 5 (some .int)) 5 s_X10_runIn) (hlen : (ab_xl As).length ≤ 2) (h : ∀ M : Nat → ab_P, (∀ L st σ, bX10_readRun_0 w s_X10_digit s_X10_runIn M Kn L st σ → M 0 L st σ) → (∀ L st σ, bX10_readRun_25 w s_X10_digit s_X10_runIn M Kn L st σ → M 25 L st σ) → M 0 (ab_pd 2 (ab_xl As)) [] σ) : ab_Met l yX10_readRun (Cond.code yX10_readRun cX10_readRun 2 none) 6 mc w σ As Kn Kx := by
  refine ab_enter (by decide) hl hI hlen (by decide) ?_
  intro p e R s m args below meth c C hno hr
  exact h _ (sd_aload_n C (i := 0) dX10_readRun_0 rfl (sd_iconst C (x := nI 1) dX10_readRun_1 (by decide +kernel) (sd_bipush C (x := nI 9) dX10_readRun_2 (by decide +kernel) (sd_cV C ok_X10_digit (ci := 10) (row := (RX10, TX10, 15)) rfl rfl ⟨by decide, by decide, wd_1086, wd_11, by decide +kernel⟩ wd_1083 wd_1085 ws_22 dX10_readRun_4 (sd_istore_n C (i := 1) dX10_readRun_7 rfl (by decide) (sd_aload_n C (i := 0) dX10_readRun_8 rfl (sd_gf C (ci := 10) (k := 4) (r := (RX10, TX10, 15)) rfl (by decide) rfl wd_992 dX10_readRun_9 (sd_if_eq C dX10_readRun_12 (tgt := 25) (by decide) (fun _ _ _ h => h) (sd_aload_n C (i := 0) dX10_readRun_15 rfl (sd_aload_n C (i := 0) dX10_readRun_16 rfl (sd_gr C (ci := 10) (k := 6) (r := (RX10, TX10, 15)) rfl (by decide) rfl wd_994 dX10_readRun_17 (sd_iload_n C (i := 1) dX10_readRun_20 rfl (sd_cV C ok_X10_runIn (ci := 10) (row := (RX10, TX10, 15)) rfl rfl ⟨by decide, by decide, wd_1132, wd_11, by decide +kernel⟩ wd_1129 wd_1131 ws_28 dX10_readRun_21 (sd_pop C dX10_readRun_24 (fun _ _ _ h => h)))))))))))))))
    (sd_vr C hr dX10_readRun_25)
theorem dX10_readCommand_0 : decode cX10_readCommand 0 = .ok (.aload_n 0, 1) := by decide +kernel
theorem dX10_readCommand_1 : decode cX10_readCommand 1 = .ok (.getfield 7, 3) := by decide +kernel
theorem dX10_readCommand_4 : decode cX10_readCommand 4 = .ok (.aload_n 0, 1) := by decide +kernel
theorem dX10_readCommand_5 : decode cX10_readCommand 5 = .ok (.getfield 131, 3) := by decide +kernel
theorem dX10_readCommand_8 : decode cX10_readCommand 8 = .ok (.iaload, 1) := by decide +kernel
theorem dX10_readCommand_9 : decode cX10_readCommand 9 = .ok (.istore_n 1, 1) := by decide +kernel
theorem dX10_readCommand_10 : decode cX10_readCommand 10 = .ok (.aload_n 0, 1) := by decide +kernel
theorem dX10_readCommand_11 : decode cX10_readCommand 11 = .ok (.iload_n 1, 1) := by decide +kernel
theorem dX10_readCommand_12 : decode cX10_readCommand 12 = .ok (.bipush 115, 2) := by decide +kernel
theorem dX10_readCommand_14 : decode cX10_readCommand 14 = .ok (.if_icmp .eq 27, 3) := by decide +kernel
theorem dX10_readCommand_17 : decode cX10_readCommand 17 = .ok (.iload_n 1, 1) := by decide +kernel
theorem dX10_readCommand_18 : decode cX10_readCommand 18 = .ok (.bipush 102, 2) := by decide +kernel
theorem dX10_readCommand_20 : decode cX10_readCommand 20 = .ok (.if_icmp .eq 21, 3) := by decide +kernel
theorem dX10_readCommand_23 : decode cX10_readCommand 23 = .ok (.iload_n 1, 1) := by decide +kernel
theorem dX10_readCommand_24 : decode cX10_readCommand 24 = .ok (.bipush 119, 2) := by decide +kernel
theorem dX10_readCommand_26 : decode cX10_readCommand 26 = .ok (.if_icmp .eq 15, 3) := by decide +kernel
theorem dX10_readCommand_29 : decode cX10_readCommand 29 = .ok (.iload_n 1, 1) := by decide +kernel
theorem dX10_readCommand_30 : decode cX10_readCommand 30 = .ok (.bipush 100, 2) := by decide +kernel
theorem dX10_readCommand_32 : decode cX10_readCommand 32 = .ok (.if_icmp .eq 9, 3) := by decide +kernel
theorem dX10_readCommand_35 : decode cX10_readCommand 35 = .ok (.iload_n 1, 1) := by decide +kernel
theorem dX10_readCommand_36 : decode cX10_readCommand 36 = .ok (.bipush 114, 2) := by decide +kernel
theorem dX10_readCommand_38 : decode cX10_readCommand 38 = .ok (.if_icmp .ne 7, 3) := by decide +kernel
theorem dX10_readCommand_41 : decode cX10_readCommand 41 = .ok (.iconst 1, 1) := by decide +kernel
theorem dX10_readCommand_42 : decode cX10_readCommand 42 = .ok (.goto 4, 3) := by decide +kernel
theorem dX10_readCommand_45 : decode cX10_readCommand 45 = .ok (.iconst 0, 1) := by decide +kernel
theorem dX10_readCommand_46 : decode cX10_readCommand 46 = .ok (.invokevirtual 140, 3) := by decide +kernel
theorem dX10_readCommand_49 : decode cX10_readCommand 49 = .ok (.aload_n 0, 1) := by decide +kernel
theorem dX10_readCommand_50 : decode cX10_readCommand 50 = .ok (.getfield 134, 3) := by decide +kernel
theorem dX10_readCommand_53 : decode cX10_readCommand 53 = .ok (.ifCond .ne 4, 3) := by decide +kernel
theorem dX10_readCommand_56 : decode cX10_readCommand 56 = .ok (.return_, 1) := by decide +kernel
theorem dX10_readCommand_57 : decode cX10_readCommand 57 = .ok (.iload_n 1, 1) := by decide +kernel
theorem dX10_readCommand_58 : decode cX10_readCommand 58 = .ok (.bipush 115, 2) := by decide +kernel
theorem dX10_readCommand_60 : decode cX10_readCommand 60 = .ok (.if_icmp .ne 10, 3) := by decide +kernel
theorem dX10_readCommand_63 : decode cX10_readCommand 63 = .ok (.aload_n 0, 1) := by decide +kernel
theorem dX10_readCommand_64 : decode cX10_readCommand 64 = .ok (.invokevirtual 178, 3) := by decide +kernel
theorem dX10_readCommand_67 : decode cX10_readCommand 67 = .ok (.goto 46, 3) := by decide +kernel
theorem dX10_readCommand_70 : decode cX10_readCommand 70 = .ok (.iload_n 1, 1) := by decide +kernel
theorem dX10_readCommand_71 : decode cX10_readCommand 71 = .ok (.bipush 102, 2) := by decide +kernel
theorem dX10_readCommand_73 : decode cX10_readCommand 73 = .ok (.if_icmp .ne 10, 3) := by decide +kernel
theorem dX10_readCommand_76 : decode cX10_readCommand 76 = .ok (.aload_n 0, 1) := by decide +kernel
theorem dX10_readCommand_77 : decode cX10_readCommand 77 = .ok (.invokevirtual 181, 3) := by decide +kernel
theorem dX10_readCommand_80 : decode cX10_readCommand 80 = .ok (.goto 33, 3) := by decide +kernel
theorem dX10_readCommand_83 : decode cX10_readCommand 83 = .ok (.iload_n 1, 1) := by decide +kernel
theorem dX10_readCommand_84 : decode cX10_readCommand 84 = .ok (.bipush 119, 2) := by decide +kernel
theorem dX10_readCommand_86 : decode cX10_readCommand 86 = .ok (.if_icmp .ne 10, 3) := by decide +kernel
theorem dX10_readCommand_89 : decode cX10_readCommand 89 = .ok (.aload_n 0, 1) := by decide +kernel
theorem dX10_readCommand_90 : decode cX10_readCommand 90 = .ok (.invokevirtual 184, 3) := by decide +kernel
theorem dX10_readCommand_93 : decode cX10_readCommand 93 = .ok (.goto 20, 3) := by decide +kernel
theorem dX10_readCommand_96 : decode cX10_readCommand 96 = .ok (.iload_n 1, 1) := by decide +kernel
theorem dX10_readCommand_97 : decode cX10_readCommand 97 = .ok (.bipush 100, 2) := by decide +kernel
theorem dX10_readCommand_99 : decode cX10_readCommand 99 = .ok (.if_icmp .ne 10, 3) := by decide +kernel
theorem dX10_readCommand_102 : decode cX10_readCommand 102 = .ok (.aload_n 0, 1) := by decide +kernel
theorem dX10_readCommand_103 : decode cX10_readCommand 103 = .ok (.invokevirtual 187, 3) := by decide +kernel
theorem dX10_readCommand_106 : decode cX10_readCommand 106 = .ok (.goto 7, 3) := by decide +kernel
theorem dX10_readCommand_109 : decode cX10_readCommand 109 = .ok (.aload_n 0, 1) := by decide +kernel
theorem dX10_readCommand_110 : decode cX10_readCommand 110 = .ok (.invokevirtual 190, 3) := by decide +kernel
theorem dX10_readCommand_113 : decode cX10_readCommand 113 = .ok (.return_, 1) := by decide +kernel
def bX10_readCommand_0 (w : ab_W) (s_X10_accept : ab_S) (s_X10_readRun : ab_S) (s_X10_readDelivery : ab_S) (s_X10_readWind : ab_S) (s_X10_readFinder : ab_S) (s_X10_readStation : ab_S) (M : Nat → ab_P) (Kn : Option Value → ab_H → Prop) : ab_P := ab_ald 0 (ab_gr w 10 1 (ab_ald 0 (ab_gf w 10 3 (ab_ia w 11 (ab_ist 1 (ab_ald 0 (ab_ild 1 (ab_ci (nI 115) (ab_if2 (fun x y => x = y) (M 41) (ab_ild 1 (ab_ci (nI 102) (ab_if2 (fun x y => x = y) (M 41) (ab_ild 1 (ab_ci (nI 119) (ab_if2 (fun x y => x = y) (M 41) (ab_ild 1 (ab_ci (nI 100) (ab_if2 (fun x y => x = y) (M 41) (ab_ild 1 (ab_ci (nI 114) (ab_if2 (fun x y => ¬ x = y) (ab_ci (nI 0) (M 46)) (M 41))))))))))))))))))))))
def bX10_readCommand_41 (w : ab_W) (s_X10_accept : ab_S) (s_X10_readRun : ab_S) (s_X10_readDelivery : ab_S) (s_X10_readWind : ab_S) (s_X10_readFinder : ab_S) (s_X10_readStation : ab_S) (M : Nat → ab_P) (Kn : Option Value → ab_H → Prop) : ab_P := ab_ci (nI 1) (M 46)
def bX10_readCommand_46 (w : ab_W) (s_X10_accept : ab_S) (s_X10_readRun : ab_S) (s_X10_readDelivery : ab_S) (s_X10_readWind : ab_S) (s_X10_readFinder : ab_S) (s_X10_readStation : ab_S) (M : Nat → ab_P) (Kn : Option Value → ab_H → Prop) : ab_P := ab_cV w 2 10 s_X10_accept (ab_ald 0 (ab_gf w 10 4 (ab_if1 (fun x => ¬ x = 0) (ab_ild 1 (ab_ci (nI 115) (ab_if2 (fun x y => ¬ x = y) (ab_ild 1 (ab_ci (nI 102) (ab_if2 (fun x y => ¬ x = y) (ab_ild 1 (ab_ci (nI 119) (ab_if2 (fun x y => ¬ x = y) (ab_ild 1 (ab_ci (nI 100) (ab_if2 (fun x y => ¬ x = y) (ab_ald 0 (ab_cV w 1 10 s_X10_readRun (M 113))) (ab_ald 0 (ab_cV w 1 10 s_X10_readDelivery (M 113)))))) (ab_ald 0 (ab_cV w 1 10 s_X10_readWind (M 113)))))) (ab_ald 0 (ab_cV w 1 10 s_X10_readFinder (M 113)))))) (ab_ald 0 (ab_cV w 1 10 s_X10_readStation (M 113)))))) (ab_vr Kn))))
def bX10_readCommand_113 (w : ab_W) (s_X10_accept : ab_S) (s_X10_readRun : ab_S) (s_X10_readDelivery : ab_S) (s_X10_readWind : ab_S) (s_X10_readFinder : ab_S) (s_X10_readStation : ab_S) (M : Nat → ab_P) (Kn : Option Value → ab_H → Prop) : ab_P := ab_vr Kn
set_option maxRecDepth 20000 in
set_option maxHeartbeats 2000000 in
theorem vc_X10_readCommand {l : Launch} (hl : l.stackTraces = false) {w : ab_W} (hI : ab_Inj w) {mc : Nat} {σ : ab_H} {As : List Value} {Kn : Option Value → ab_H → Prop} {Kx : String → ab_H → Prop} {s_X10_accept : ab_S} (ok_X10_accept : ab_OkN l yX10_accept (Cond.code yX10_accept cX10_accept 2 none) 1 s_X10_accept) {s_X10_readRun : ab_S} (ok_X10_readRun : ab_OkN l yX10_readRun (Cond.code yX10_readRun cX10_readRun 2 none) 6 s_X10_readRun) {s_X10_readDelivery : ab_S} (ok_X10_readDelivery : ab_OkN l yX10_readDelivery (Cond.code yX10_readDelivery cX10_readDelivery 4 none) 4 s_X10_readDelivery) {s_X10_readWind : ab_S} (ok_X10_readWind : ab_OkN l yX10_readWind (Cond.code yX10_readWind cX10_readWind 4 none) 4 s_X10_readWind) {s_X10_readFinder : ab_S} (ok_X10_readFinder : ab_OkN l yX10_readFinder (Cond.code yX10_readFinder cX10_readFinder 4 none) 4 s_X10_readFinder) {s_X10_readStation : ab_S} (ok_X10_readStation : ab_OkN l yX10_readStation (Cond.code yX10_readStation cX10_readStation 6 none) 4 s_X10_readStation) (hlen : (ab_xl As).length ≤ 2) (h : ∀ M : Nat → ab_P, (∀ L st σ, bX10_readCommand_0 w s_X10_accept s_X10_readRun s_X10_readDelivery s_X10_readWind s_X10_readFinder s_X10_readStation M Kn L st σ → M 0 L st σ) → (∀ L st σ, bX10_readCommand_41 w s_X10_accept s_X10_readRun s_X10_readDelivery s_X10_readWind s_X10_readFinder s_X10_readStation M Kn L st σ → M 41 L st σ) → (∀ L st σ, bX10_readCommand_46 w s_X10_accept s_X10_readRun s_X10_readDelivery s_X10_readWind s_X10_readFinder s_X10_readStation M Kn L st σ → M 46 L st σ) → (∀ L st σ, bX10_readCommand_113 w s_X10_accept s_X10_readRun s_X10_readDelivery s_X10_readWind s_X10_readFinder s_X10_readStation M Kn L st σ → M 113 L st σ) → M 0 (ab_pd 2 (ab_xl As)) [] σ) : ab_Met l yX10_readCommand (Cond.code yX10_readCommand cX10_readCommand 2 none) 7 mc w σ As Kn Kx := by
  refine ab_enter (by decide) hl hI hlen (by decide) ?_
  intro p e R s m args below meth c C hno hr
  exact h _ (sd_aload_n C (i := 0) dX10_readCommand_0 rfl (sd_gr C (ci := 10) (k := 1) (r := (RX10, TX10, 15)) rfl (by decide) rfl wd_989 dX10_readCommand_1 (sd_aload_n C (i := 0) dX10_readCommand_4 rfl (sd_gf C (ci := 10) (k := 3) (r := (RX10, TX10, 15)) rfl (by decide) rfl wd_991 dX10_readCommand_5 (sd_ia C dX10_readCommand_8 (sd_istore_n C (i := 1) dX10_readCommand_9 rfl (by decide) (sd_aload_n C (i := 0) dX10_readCommand_10 rfl (sd_iload_n C (i := 1) dX10_readCommand_11 rfl (sd_bipush C (x := nI 115) dX10_readCommand_12 (by decide +kernel) (sd_icmp_eq C dX10_readCommand_14 (tgt := 41) (by decide) (fun _ _ _ h => h) (sd_iload_n C (i := 1) dX10_readCommand_17 rfl (sd_bipush C (x := nI 102) dX10_readCommand_18 (by decide +kernel) (sd_icmp_eq C dX10_readCommand_20 (tgt := 41) (by decide) (fun _ _ _ h => h) (sd_iload_n C (i := 1) dX10_readCommand_23 rfl (sd_bipush C (x := nI 119) dX10_readCommand_24 (by decide +kernel) (sd_icmp_eq C dX10_readCommand_26 (tgt := 41) (by decide) (fun _ _ _ h => h) (sd_iload_n C (i := 1) dX10_readCommand_29 rfl (sd_bipush C (x := nI 100) dX10_readCommand_30 (by decide +kernel) (sd_icmp_eq C dX10_readCommand_32 (tgt := 41) (by decide) (fun _ _ _ h => h) (sd_iload_n C (i := 1) dX10_readCommand_35 rfl (sd_bipush C (x := nI 114) dX10_readCommand_36 (by decide +kernel) (sd_icmp_ne C dX10_readCommand_38 (tgt := 45) (by decide) (sd_iconst C (x := nI 0) dX10_readCommand_45 (by decide +kernel) (fun _ _ _ h => h)) (fun _ _ _ h => h)))))))))))))))))))))))
    (sd_iconst C (x := nI 1) dX10_readCommand_41 (by decide +kernel) (sd_goto C dX10_readCommand_42 (tgt := 46) (by decide) (fun _ _ _ h => h)))
    (sd_cV C ok_X10_accept (ci := 10) (row := (RX10, TX10, 15)) rfl rfl ⟨by decide, by decide, wd_1070, wd_11, by decide +kernel⟩ wd_1067 wd_1069 ws_18 dX10_readCommand_46 (sd_aload_n C (i := 0) dX10_readCommand_49 rfl (sd_gf C (ci := 10) (k := 4) (r := (RX10, TX10, 15)) rfl (by decide) rfl wd_992 dX10_readCommand_50 (sd_if_ne C dX10_readCommand_53 (tgt := 57) (by decide) (sd_iload_n C (i := 1) dX10_readCommand_57 rfl (sd_bipush C (x := nI 115) dX10_readCommand_58 (by decide +kernel) (sd_icmp_ne C dX10_readCommand_60 (tgt := 70) (by decide) (sd_iload_n C (i := 1) dX10_readCommand_70 rfl (sd_bipush C (x := nI 102) dX10_readCommand_71 (by decide +kernel) (sd_icmp_ne C dX10_readCommand_73 (tgt := 83) (by decide) (sd_iload_n C (i := 1) dX10_readCommand_83 rfl (sd_bipush C (x := nI 119) dX10_readCommand_84 (by decide +kernel) (sd_icmp_ne C dX10_readCommand_86 (tgt := 96) (by decide) (sd_iload_n C (i := 1) dX10_readCommand_96 rfl (sd_bipush C (x := nI 100) dX10_readCommand_97 (by decide +kernel) (sd_icmp_ne C dX10_readCommand_99 (tgt := 109) (by decide) (sd_aload_n C (i := 0) dX10_readCommand_109 rfl (sd_cV C ok_X10_readRun (ci := 10) (row := (RX10, TX10, 15)) rfl rfl ⟨by decide, by decide, wd_1128, wd_11, by decide +kernel⟩ wd_1125 wd_1127 ws_27 dX10_readCommand_110 (fun _ _ _ h => h))) (sd_aload_n C (i := 0) dX10_readCommand_102 rfl (sd_cV C ok_X10_readDelivery (ci := 10) (row := (RX10, TX10, 15)) rfl rfl ⟨by decide, by decide, wd_1115, wd_11, by decide +kernel⟩ wd_1112 wd_1114 ws_26 dX10_readCommand_103 (sd_goto C dX10_readCommand_106 (tgt := 113) (by decide) (fun _ _ _ h => h))))))) (sd_aload_n C (i := 0) dX10_readCommand_89 rfl (sd_cV C ok_X10_readWind (ci := 10) (row := (RX10, TX10, 15)) rfl rfl ⟨by decide, by decide, wd_1111, wd_11, by decide +kernel⟩ wd_1108 wd_1110 ws_25 dX10_readCommand_90 (sd_goto C dX10_readCommand_93 (tgt := 113) (by decide) (fun _ _ _ h => h))))))) (sd_aload_n C (i := 0) dX10_readCommand_76 rfl (sd_cV C ok_X10_readFinder (ci := 10) (row := (RX10, TX10, 15)) rfl rfl ⟨by decide, by decide, wd_1101, wd_11, by decide +kernel⟩ wd_1098 wd_1100 ws_24 dX10_readCommand_77 (sd_goto C dX10_readCommand_80 (tgt := 113) (by decide) (fun _ _ _ h => h))))))) (sd_aload_n C (i := 0) dX10_readCommand_63 rfl (sd_cV C ok_X10_readStation (ci := 10) (row := (RX10, TX10, 15)) rfl rfl ⟨by decide, by decide, wd_1078, wd_11, by decide +kernel⟩ wd_1075 wd_1077 ws_20 dX10_readCommand_64 (sd_goto C dX10_readCommand_67 (tgt := 113) (by decide) (fun _ _ _ h => h))))))) (sd_vr C hr dX10_readCommand_56)))))
    (sd_vr C hr dX10_readCommand_113)
theorem dX10_readText_0 : decode cX10_readText 0 = .ok (.aload_n 0, 1) := by decide +kernel
theorem dX10_readText_1 : decode cX10_readText 1 = .ok (.iconst 0, 1) := by decide +kernel
theorem dX10_readText_2 : decode cX10_readText 2 = .ok (.putfield 131, 3) := by decide +kernel
theorem dX10_readText_5 : decode cX10_readText 5 = .ok (.aload_n 0, 1) := by decide +kernel
theorem dX10_readText_6 : decode cX10_readText 6 = .ok (.iconst 1, 1) := by decide +kernel
theorem dX10_readText_7 : decode cX10_readText 7 = .ok (.putfield 134, 3) := by decide +kernel
theorem dX10_readText_10 : decode cX10_readText 10 = .ok (.aload_n 0, 1) := by decide +kernel
theorem dX10_readText_11 : decode cX10_readText 11 = .ok (.iconst 0, 1) := by decide +kernel
theorem dX10_readText_12 : decode cX10_readText 12 = .ok (.putfield 147, 3) := by decide +kernel
theorem dX10_readText_15 : decode cX10_readText 15 = .ok (.aload_n 0, 1) := by decide +kernel
theorem dX10_readText_16 : decode cX10_readText 16 = .ok (.iconst (-1), 1) := by decide +kernel
theorem dX10_readText_17 : decode cX10_readText 17 = .ok (.putfield 49, 3) := by decide +kernel
theorem dX10_readText_20 : decode cX10_readText 20 = .ok (.aload_n 0, 1) := by decide +kernel
theorem dX10_readText_21 : decode cX10_readText 21 = .ok (.getfield 13, 3) := by decide +kernel
theorem dX10_readText_24 : decode cX10_readText 24 = .ok (.invokestatic 32, 3) := by decide +kernel
theorem dX10_readText_27 : decode cX10_readText 27 = .ok (.aload_n 0, 1) := by decide +kernel
theorem dX10_readText_28 : decode cX10_readText 28 = .ok (.aload_n 0, 1) := by decide +kernel
theorem dX10_readText_29 : decode cX10_readText 29 = .ok (.bipush 78, 2) := by decide +kernel
theorem dX10_readText_31 : decode cX10_readText 31 = .ok (.invokevirtual 165, 3) := by decide +kernel
theorem dX10_readText_34 : decode cX10_readText 34 = .ok (.invokevirtual 140, 3) := by decide +kernel
theorem dX10_readText_37 : decode cX10_readText 37 = .ok (.aload_n 0, 1) := by decide +kernel
theorem dX10_readText_38 : decode cX10_readText 38 = .ok (.getfield 134, 3) := by decide +kernel
theorem dX10_readText_41 : decode cX10_readText 41 = .ok (.ifCond .eq 21, 3) := by decide +kernel
theorem dX10_readText_44 : decode cX10_readText 44 = .ok (.aload_n 0, 1) := by decide +kernel
theorem dX10_readText_45 : decode cX10_readText 45 = .ok (.getfield 131, 3) := by decide +kernel
theorem dX10_readText_48 : decode cX10_readText 48 = .ok (.aload_n 0, 1) := by decide +kernel
theorem dX10_readText_49 : decode cX10_readText 49 = .ok (.getfield 124, 3) := by decide +kernel
theorem dX10_readText_52 : decode cX10_readText 52 = .ok (.if_icmp .ge 10, 3) := by decide +kernel
theorem dX10_readText_55 : decode cX10_readText 55 = .ok (.aload_n 0, 1) := by decide +kernel
theorem dX10_readText_56 : decode cX10_readText 56 = .ok (.invokevirtual 193, 3) := by decide +kernel
theorem dX10_readText_59 : decode cX10_readText 59 = .ok (.goto (-22), 3) := by decide +kernel
theorem dX10_readText_62 : decode cX10_readText 62 = .ok (.aload_n 0, 1) := by decide +kernel
theorem dX10_readText_63 : decode cX10_readText 63 = .ok (.getfield 134, 3) := by decide +kernel
theorem dX10_readText_66 : decode cX10_readText 66 = .ok (.ifCond .eq 7, 3) := by decide +kernel
theorem dX10_readText_69 : decode cX10_readText 69 = .ok (.iconst (-1), 1) := by decide +kernel
theorem dX10_readText_70 : decode cX10_readText 70 = .ok (.goto 7, 3) := by decide +kernel
theorem dX10_readText_73 : decode cX10_readText 73 = .ok (.aload_n 0, 1) := by decide +kernel
theorem dX10_readText_74 : decode cX10_readText 74 = .ok (.getfield 131, 3) := by decide +kernel
theorem dX10_readText_77 : decode cX10_readText 77 = .ok (.ireturn, 1) := by decide +kernel
def bX10_readText_0 (w : ab_W) (s_X10_clean : ab_S) (s_X10_isNext : ab_S) (s_X10_accept : ab_S) (s_X10_readCommand : ab_S) (M : Nat → ab_P) (Kn : Option Value → ab_H → Prop) : ab_P := ab_ald 0 (ab_ci (nI 0) (ab_pf w 10 3 (ab_ald 0 (ab_ci (nI 1) (ab_pz w 10 4 (ab_ald 0 (ab_ci (nI 0) (ab_pf w 10 5 (ab_ald 0 (ab_ci (-1) (ab_pf w 10 13 (ab_ald 0 (ab_gr w 10 2 (ab_cN w 1 s_X10_clean (ab_ald 0 (ab_ald 0 (ab_ci (nI 78) (ab_cV w 2 10 s_X10_isNext (ab_cV w 2 10 s_X10_accept (M 37))))))))))))))))))))
def bX10_readText_37 (w : ab_W) (s_X10_clean : ab_S) (s_X10_isNext : ab_S) (s_X10_accept : ab_S) (s_X10_readCommand : ab_S) (M : Nat → ab_P) (Kn : Option Value → ab_H → Prop) : ab_P := ab_ald 0 (ab_gf w 10 4 (ab_if1 (fun x => x = 0) (M 62) (ab_ald 0 (ab_gf w 10 3 (ab_ald 0 (ab_gf w 10 2 (ab_if2 (fun x y => y ≤ x) (M 62) (ab_ald 0 (ab_cV w 1 10 s_X10_readCommand (M 37))))))))))
def bX10_readText_62 (w : ab_W) (s_X10_clean : ab_S) (s_X10_isNext : ab_S) (s_X10_accept : ab_S) (s_X10_readCommand : ab_S) (M : Nat → ab_P) (Kn : Option Value → ab_H → Prop) : ab_P := ab_ald 0 (ab_gf w 10 4 (ab_if1 (fun x => x = 0) (ab_ald 0 (ab_gf w 10 3 (M 77))) (ab_ci (-1) (M 77))))
def bX10_readText_77 (w : ab_W) (s_X10_clean : ab_S) (s_X10_isNext : ab_S) (s_X10_accept : ab_S) (s_X10_readCommand : ab_S) (M : Nat → ab_P) (Kn : Option Value → ab_H → Prop) : ab_P := ab_ir Kn
set_option maxRecDepth 20000 in
set_option maxHeartbeats 2000000 in
theorem vc_X10_readText {l : Launch} (hl : l.stackTraces = false) {w : ab_W} (hI : ab_Inj w) {mc : Nat} {σ : ab_H} {As : List Value} {Kn : Option Value → ab_H → Prop} {Kx : String → ab_H → Prop} {s_X10_clean : ab_S} (ok_X10_clean : ab_OkN l yX10_clean (Cond.code yX10_clean cX10_clean 2 none) 1 s_X10_clean) {s_X10_isNext : ab_S} (ok_X10_isNext : ab_OkN l yX10_isNext (Cond.code yX10_isNext cX10_isNext 2 (some .boolean)) 1 s_X10_isNext) {s_X10_accept : ab_S} (ok_X10_accept : ab_OkN l yX10_accept (Cond.code yX10_accept cX10_accept 2 none) 1 s_X10_accept) {s_X10_readCommand : ab_S} (ok_X10_readCommand : ab_OkN l yX10_readCommand (Cond.code yX10_readCommand cX10_readCommand 2 none) 7 s_X10_readCommand) (hlen : (ab_xl As).length ≤ 1) (h : ∀ M : Nat → ab_P, (∀ L st σ, bX10_readText_0 w s_X10_clean s_X10_isNext s_X10_accept s_X10_readCommand M Kn L st σ → M 0 L st σ) → (∀ L st σ, bX10_readText_37 w s_X10_clean s_X10_isNext s_X10_accept s_X10_readCommand M Kn L st σ → M 37 L st σ) → (∀ L st σ, bX10_readText_62 w s_X10_clean s_X10_isNext s_X10_accept s_X10_readCommand M Kn L st σ → M 62 L st σ) → (∀ L st σ, bX10_readText_77 w s_X10_clean s_X10_isNext s_X10_accept s_X10_readCommand M Kn L st σ → M 77 L st σ) → M 0 (ab_pd 1 (ab_xl As)) [] σ) : ab_Met l yX10_readText (Cond.code yX10_readText cX10_readText 1 (some .int)) 8 mc w σ As Kn Kx := by
  refine ab_enter (by decide) hl hI hlen (by decide) ?_
  intro p e R s m args below meth c C hno hr
  exact h _ (sd_aload_n C (i := 0) dX10_readText_0 rfl (sd_iconst C (x := nI 0) dX10_readText_1 (by decide +kernel) (sd_pf C (ci := 10) (k := 3) (r := (RX10, TX10, 15)) rfl (by decide) rfl rfl (by decide +kernel) wd_991 dX10_readText_2 (sd_aload_n C (i := 0) dX10_readText_5 rfl (sd_iconst C (x := nI 1) dX10_readText_6 (by decide +kernel) (sd_pz C (ci := 10) (k := 4) (r := (RX10, TX10, 15)) rfl (by decide) rfl rfl (by decide +kernel) wd_992 dX10_readText_7 (sd_aload_n C (i := 0) dX10_readText_10 rfl (sd_iconst C (x := nI 0) dX10_readText_11 (by decide +kernel) (sd_pf C (ci := 10) (k := 5) (r := (RX10, TX10, 15)) rfl (by decide) rfl rfl (by decide +kernel) wd_993 dX10_readText_12 (sd_aload_n C (i := 0) dX10_readText_15 rfl (sd_iconst C (x := -1) dX10_readText_16 (by decide +kernel) (sd_pf C (ci := 10) (k := 13) (r := (RX10, TX10, 15)) rfl (by decide) rfl rfl (by decide +kernel) wd_1001 dX10_readText_17 (sd_aload_n C (i := 0) dX10_readText_20 rfl (sd_gr C (ci := 10) (k := 6) (r := (RX10, TX10, 15)) rfl (by decide) rfl wd_994 dX10_readText_21 (sd_cS C ok_X10_clean ⟨by decide, by decide, wd_987, wd_11, by decide +kernel⟩ wd_985 wd_986 dX10_readText_24 (sd_aload_n C (i := 0) dX10_readText_27 rfl (sd_aload_n C (i := 0) dX10_readText_28 rfl (sd_bipush C (x := nI 78) dX10_readText_29 (by decide +kernel) (sd_cV C ok_X10_isNext (ci := 10) (row := (RX10, TX10, 15)) rfl rfl ⟨by decide, by decide, wd_1066, wd_11, by decide +kernel⟩ wd_1063 wd_1065 ws_17 dX10_readText_31 (sd_cV C ok_X10_accept (ci := 10) (row := (RX10, TX10, 15)) rfl rfl ⟨by decide, by decide, wd_1070, wd_11, by decide +kernel⟩ wd_1067 wd_1069 ws_18 dX10_readText_34 (fun _ _ _ h => h)))))))))))))))))))))
    (sd_aload_n C (i := 0) dX10_readText_37 rfl (sd_gf C (ci := 10) (k := 4) (r := (RX10, TX10, 15)) rfl (by decide) rfl wd_992 dX10_readText_38 (sd_if_eq C dX10_readText_41 (tgt := 62) (by decide) (fun _ _ _ h => h) (sd_aload_n C (i := 0) dX10_readText_44 rfl (sd_gf C (ci := 10) (k := 3) (r := (RX10, TX10, 15)) rfl (by decide) rfl wd_991 dX10_readText_45 (sd_aload_n C (i := 0) dX10_readText_48 rfl (sd_gf C (ci := 10) (k := 2) (r := (RX10, TX10, 15)) rfl (by decide) rfl wd_990 dX10_readText_49 (sd_icmp_ge C dX10_readText_52 (tgt := 62) (by decide) (fun _ _ _ h => h) (sd_aload_n C (i := 0) dX10_readText_55 rfl (sd_cV C ok_X10_readCommand (ci := 10) (row := (RX10, TX10, 15)) rfl rfl ⟨by decide, by decide, wd_1074, wd_11, by decide +kernel⟩ wd_1071 wd_1073 ws_19 dX10_readText_56 (sd_goto C dX10_readText_59 (tgt := 37) (by decide) (fun _ _ _ h => h))))))))))))
    (sd_aload_n C (i := 0) dX10_readText_62 rfl (sd_gf C (ci := 10) (k := 4) (r := (RX10, TX10, 15)) rfl (by decide) rfl wd_992 dX10_readText_63 (sd_if_eq C dX10_readText_66 (tgt := 73) (by decide) (sd_aload_n C (i := 0) dX10_readText_73 rfl (sd_gf C (ci := 10) (k := 3) (r := (RX10, TX10, 15)) rfl (by decide) rfl wd_991 dX10_readText_74 (fun _ _ _ h => h))) (sd_iconst C (x := -1) dX10_readText_69 (by decide +kernel) (sd_goto C dX10_readText_70 (tgt := 77) (by decide) (fun _ _ _ h => h))))))
    (sd_ir C hr dX10_readText_77)
theorem dX10_errorPosition_0 : decode cX10_errorPosition 0 = .ok (.aload_n 0, 1) := by decide +kernel
theorem dX10_errorPosition_1 : decode cX10_errorPosition 1 = .ok (.iconst 0, 1) := by decide +kernel
theorem dX10_errorPosition_2 : decode cX10_errorPosition 2 = .ok (.putfield 36, 3) := by decide +kernel
theorem dX10_errorPosition_5 : decode cX10_errorPosition 5 = .ok (.aload_n 0, 1) := by decide +kernel
theorem dX10_errorPosition_6 : decode cX10_errorPosition 6 = .ok (.invokevirtual 196, 3) := by decide +kernel
theorem dX10_errorPosition_9 : decode cX10_errorPosition 9 = .ok (.ireturn, 1) := by decide +kernel
def bX10_errorPosition_0 (w : ab_W) (s_X10_readText : ab_S) (M : Nat → ab_P) (Kn : Option Value → ab_H → Prop) : ab_P := ab_ald 0 (ab_ci (nI 0) (ab_pf w 10 0 (ab_ald 0 (ab_cV w 1 10 s_X10_readText (ab_ir Kn)))))
set_option maxRecDepth 20000 in
set_option maxHeartbeats 2000000 in
theorem vc_X10_errorPosition {l : Launch} (hl : l.stackTraces = false) {w : ab_W} (hI : ab_Inj w) {mc : Nat} {σ : ab_H} {As : List Value} {Kn : Option Value → ab_H → Prop} {Kx : String → ab_H → Prop} {s_X10_readText : ab_S} (ok_X10_readText : ab_OkN l yX10_readText (Cond.code yX10_readText cX10_readText 1 (some .int)) 8 s_X10_readText) (hlen : (ab_xl As).length ≤ 1) (h : ∀ M : Nat → ab_P, (∀ L st σ, bX10_errorPosition_0 w s_X10_readText M Kn L st σ → M 0 L st σ) → M 0 (ab_pd 1 (ab_xl As)) [] σ) : ab_Met l yX10_errorPosition (Cond.code yX10_errorPosition cX10_errorPosition 1 (some .int)) 9 mc w σ As Kn Kx := by
  refine ab_enter (by decide) hl hI hlen (by decide) ?_
  intro p e R s m args below meth c C hno hr
  exact h _ (sd_aload_n C (i := 0) dX10_errorPosition_0 rfl (sd_iconst C (x := nI 0) dX10_errorPosition_1 (by decide +kernel) (sd_pf C (ci := 10) (k := 0) (r := (RX10, TX10, 15)) rfl (by decide) rfl rfl (by decide +kernel) wd_988 dX10_errorPosition_2 (sd_aload_n C (i := 0) dX10_errorPosition_5 rfl (sd_cV C ok_X10_readText (ci := 10) (row := (RX10, TX10, 15)) rfl rfl ⟨by decide, by decide, wd_1062, wd_11, by decide +kernel⟩ wd_1059 wd_1061 ws_16 dX10_errorPosition_6 (sd_ir C hr dX10_errorPosition_9))))))
theorem dX10_load_0 : decode cX10_load 0 = .ok (.aload_n 0, 1) := by decide +kernel
theorem dX10_load_1 : decode cX10_load 1 = .ok (.aload_n 0, 1) := by decide +kernel
theorem dX10_load_2 : decode cX10_load 2 = .ok (.invokevirtual 196, 3) := by decide +kernel
theorem dX10_load_5 : decode cX10_load 5 = .ok (.iconst (-1), 1) := by decide +kernel
theorem dX10_load_6 : decode cX10_load 6 = .ok (.if_icmp .ne 7, 3) := by decide +kernel
theorem dX10_load_9 : decode cX10_load 9 = .ok (.iconst 0, 1) := by decide +kernel
theorem dX10_load_10 : decode cX10_load 10 = .ok (.goto 4, 3) := by decide +kernel
theorem dX10_load_13 : decode cX10_load 13 = .ok (.iconst 1, 1) := by decide +kernel
theorem dX10_load_14 : decode cX10_load 14 = .ok (.invokevirtual 127, 3) := by decide +kernel
theorem dX10_load_17 : decode cX10_load 17 = .ok (.ifCond .eq 5, 3) := by decide +kernel
theorem dX10_load_20 : decode cX10_load 20 = .ok (.iconst 0, 1) := by decide +kernel
theorem dX10_load_21 : decode cX10_load 21 = .ok (.ireturn, 1) := by decide +kernel
theorem dX10_load_22 : decode cX10_load 22 = .ok (.aload_n 0, 1) := by decide +kernel
theorem dX10_load_23 : decode cX10_load 23 = .ok (.getfield 13, 3) := by decide +kernel
theorem dX10_load_26 : decode cX10_load 26 = .ok (.iconst 0, 1) := by decide +kernel
theorem dX10_load_27 : decode cX10_load 27 = .ok (.aload_n 0, 1) := by decide +kernel
theorem dX10_load_28 : decode cX10_load 28 = .ok (.getfield 16, 3) := by decide +kernel
theorem dX10_load_31 : decode cX10_load 31 = .ok (.iconst 0, 1) := by decide +kernel
theorem dX10_load_32 : decode cX10_load 32 = .ok (.sipush 304, 3) := by decide +kernel
theorem dX10_load_35 : decode cX10_load 35 = .ok (.invokestatic 45, 3) := by decide +kernel
theorem dX10_load_38 : decode cX10_load 38 = .ok (.aload_n 0, 1) := by decide +kernel
theorem dX10_load_39 : decode cX10_load 39 = .ok (.iconst 0, 1) := by decide +kernel
theorem dX10_load_40 : decode cX10_load 40 = .ok (.putfield 42, 3) := by decide +kernel
theorem dX10_load_43 : decode cX10_load 43 = .ok (.aload_n 0, 1) := by decide +kernel
theorem dX10_load_44 : decode cX10_load 44 = .ok (.getfield 28, 3) := by decide +kernel
theorem dX10_load_47 : decode cX10_load 47 = .ok (.iconst 0, 1) := by decide +kernel
theorem dX10_load_48 : decode cX10_load 48 = .ok (.iconst 0, 1) := by decide +kernel
theorem dX10_load_49 : decode cX10_load 49 = .ok (.bastore, 1) := by decide +kernel
theorem dX10_load_50 : decode cX10_load 50 = .ok (.aload_n 0, 1) := by decide +kernel
theorem dX10_load_51 : decode cX10_load 51 = .ok (.getfield 28, 3) := by decide +kernel
theorem dX10_load_54 : decode cX10_load 54 = .ok (.iconst 1, 1) := by decide +kernel
theorem dX10_load_55 : decode cX10_load 55 = .ok (.iconst 0, 1) := by decide +kernel
theorem dX10_load_56 : decode cX10_load 56 = .ok (.bastore, 1) := by decide +kernel
theorem dX10_load_57 : decode cX10_load 57 = .ok (.aload_n 0, 1) := by decide +kernel
theorem dX10_load_58 : decode cX10_load 58 = .ok (.getfield 147, 3) := by decide +kernel
theorem dX10_load_61 : decode cX10_load 61 = .ok (.ireturn, 1) := by decide +kernel
def bX10_load_0 (w : ab_W) (s_X10_readText : ab_S) (s_X10_refused : ab_S) (s_X10_copy : ab_S) (M : Nat → ab_P) (Kn : Option Value → ab_H → Prop) : ab_P := ab_ald 0 (ab_ald 0 (ab_cV w 1 10 s_X10_readText (ab_ci (-1) (ab_if2 (fun x y => ¬ x = y) (ab_ci (nI 1) (M 14)) (ab_ci (nI 0) (M 14))))))
def bX10_load_14 (w : ab_W) (s_X10_readText : ab_S) (s_X10_refused : ab_S) (s_X10_copy : ab_S) (M : Nat → ab_P) (Kn : Option Value → ab_H → Prop) : ab_P := ab_cV w 2 10 s_X10_refused (ab_if1 (fun x => x = 0) (ab_ald 0 (ab_gr w 10 2 (ab_ci (nI 0) (ab_ald 0 (ab_gr w 10 3 (ab_ci (nI 0) (ab_ci (nI 304) (ab_cN w 5 s_X10_copy (ab_ald 0 (ab_ci (nI 0) (ab_pf w 10 10 (ab_ald 0 (ab_gr w 10 7 (ab_ci (nI 0) (ab_ci (nI 0) (ab_zs w (ab_ald 0 (ab_gr w 10 7 (ab_ci (nI 1) (ab_ci (nI 0) (ab_zs w (ab_ald 0 (ab_gf w 10 5 (ab_ir Kn)))))))))))))))))))))))) (ab_ci (nI 0) (ab_ir Kn)))
set_option maxRecDepth 20000 in
set_option maxHeartbeats 2000000 in
theorem vc_X10_load {l : Launch} (hl : l.stackTraces = false) {w : ab_W} (hI : ab_Inj w) {mc : Nat} {σ : ab_H} {As : List Value} {Kn : Option Value → ab_H → Prop} {Kx : String → ab_H → Prop} {s_X10_readText : ab_S} (ok_X10_readText : ab_OkN l yX10_readText (Cond.code yX10_readText cX10_readText 1 (some .int)) 8 s_X10_readText) {s_X10_refused : ab_S} (ok_X10_refused : ab_OkN l yX10_refused (Cond.code yX10_refused cX10_refused 2 (some .boolean)) 1 s_X10_refused) {s_X10_copy : ab_S} (ok_X10_copy : ab_OkN l yX10_copy (Cond.code yX10_copy cX10_copy 6 none) 1 s_X10_copy) (hlen : (ab_xl As).length ≤ 1) (h : ∀ M : Nat → ab_P, (∀ L st σ, bX10_load_0 w s_X10_readText s_X10_refused s_X10_copy M Kn L st σ → M 0 L st σ) → (∀ L st σ, bX10_load_14 w s_X10_readText s_X10_refused s_X10_copy M Kn L st σ → M 14 L st σ) → M 0 (ab_pd 1 (ab_xl As)) [] σ) : ab_Met l yX10_load (Cond.code yX10_load cX10_load 1 (some .int)) 9 mc w σ As Kn Kx := by
  refine ab_enter (by decide) hl hI hlen (by decide) ?_
  intro p e R s m args below meth c C hno hr
  exact h _ (sd_aload_n C (i := 0) dX10_load_0 rfl (sd_aload_n C (i := 0) dX10_load_1 rfl (sd_cV C ok_X10_readText (ci := 10) (row := (RX10, TX10, 15)) rfl rfl ⟨by decide, by decide, wd_1062, wd_11, by decide +kernel⟩ wd_1059 wd_1061 ws_16 dX10_load_2 (sd_iconst C (x := -1) dX10_load_5 (by decide +kernel) (sd_icmp_ne C dX10_load_6 (tgt := 13) (by decide) (sd_iconst C (x := nI 1) dX10_load_13 (by decide +kernel) (fun _ _ _ h => h)) (sd_iconst C (x := nI 0) dX10_load_9 (by decide +kernel) (sd_goto C dX10_load_10 (tgt := 14) (by decide) (fun _ _ _ h => h))))))))
    (sd_cV C ok_X10_refused (ci := 10) (row := (RX10, TX10, 15)) rfl rfl ⟨by decide, by decide, wd_1050, wd_11, by decide +kernel⟩ wd_1047 wd_1049 ws_15 dX10_load_14 (sd_if_eq C dX10_load_17 (tgt := 22) (by decide) (sd_aload_n C (i := 0) dX10_load_22 rfl (sd_gr C (ci := 10) (k := 6) (r := (RX10, TX10, 15)) rfl (by decide) rfl wd_994 dX10_load_23 (sd_iconst C (x := nI 0) dX10_load_26 (by decide +kernel) (sd_aload_n C (i := 0) dX10_load_27 rfl (sd_gr C (ci := 10) (k := 7) (r := (RX10, TX10, 15)) rfl (by decide) rfl wd_995 dX10_load_28 (sd_iconst C (x := nI 0) dX10_load_31 (by decide +kernel) (sd_sipush C (x := nI 304) dX10_load_32 (by decide +kernel) (sd_cS C ok_X10_copy ⟨by decide, by decide, wd_1145, wd_11, by decide +kernel⟩ wd_1143 wd_1144 dX10_load_35 (sd_aload_n C (i := 0) dX10_load_38 rfl (sd_iconst C (x := nI 0) dX10_load_39 (by decide +kernel) (sd_pf C (ci := 10) (k := 10) (r := (RX10, TX10, 15)) rfl (by decide) rfl rfl (by decide +kernel) wd_998 dX10_load_40 (sd_aload_n C (i := 0) dX10_load_43 rfl (sd_gr C (ci := 10) (k := 12) (r := (RX10, TX10, 15)) rfl (by decide) rfl wd_1000 dX10_load_44 (sd_iconst C (x := nI 0) dX10_load_47 (by decide +kernel) (sd_iconst C (x := nI 0) dX10_load_48 (by decide +kernel) (sd_zs C dX10_load_49 (sd_aload_n C (i := 0) dX10_load_50 rfl (sd_gr C (ci := 10) (k := 12) (r := (RX10, TX10, 15)) rfl (by decide) rfl wd_1000 dX10_load_51 (sd_iconst C (x := nI 1) dX10_load_54 (by decide +kernel) (sd_iconst C (x := nI 0) dX10_load_55 (by decide +kernel) (sd_zs C dX10_load_56 (sd_aload_n C (i := 0) dX10_load_57 rfl (sd_gf C (ci := 10) (k := 5) (r := (RX10, TX10, 15)) rfl (by decide) rfl wd_993 dX10_load_58 (sd_ir C hr dX10_load_61)))))))))))))))))))))))) (sd_iconst C (x := nI 0) dX10_load_20 (by decide +kernel) (sd_ir C hr dX10_load_21))))
theorem dX10_about_0 : decode cX10_about 0 = .ok (.aload_n 0, 1) := by decide +kernel
theorem dX10_about_1 : decode cX10_about 1 = .ok (.iload_n 1, 1) := by decide +kernel
theorem dX10_about_2 : decode cX10_about 2 = .ok (.i2l, 1) := by decide +kernel
theorem dX10_about_3 : decode cX10_about 3 = .ok (.lconst 0, 1) := by decide +kernel
theorem dX10_about_4 : decode cX10_about 4 = .ok (.ldc2_w 200, 3) := by decide +kernel
theorem dX10_about_7 : decode cX10_about 7 = .ok (.invokestatic 62, 3) := by decide +kernel
theorem dX10_about_10 : decode cX10_about 10 = .ok (.ifCond .eq 7, 3) := by decide +kernel
theorem dX10_about_13 : decode cX10_about 13 = .ok (.iconst 0, 1) := by decide +kernel
theorem dX10_about_14 : decode cX10_about 14 = .ok (.goto 4, 3) := by decide +kernel
theorem dX10_about_17 : decode cX10_about 17 = .ok (.iconst 1, 1) := by decide +kernel
theorem dX10_about_18 : decode cX10_about 18 = .ok (.invokevirtual 127, 3) := by decide +kernel
theorem dX10_about_21 : decode cX10_about 21 = .ok (.ifCond .eq 5, 3) := by decide +kernel
theorem dX10_about_24 : decode cX10_about 24 = .ok (.iconst 0, 1) := by decide +kernel
theorem dX10_about_25 : decode cX10_about 25 = .ok (.ireturn, 1) := by decide +kernel
theorem dX10_about_26 : decode cX10_about 26 = .ok (.iload_n 1, 1) := by decide +kernel
theorem dX10_about_27 : decode cX10_about 27 = .ok (.tableswitch 139 0 10 #[57, 64, 71, 78, 85, 92, 99, 107, 115, 123, 131], 57) := by decide +kernel
theorem dX10_about_84 : decode cX10_about 84 = .ok (.aload_n 0, 1) := by decide +kernel
theorem dX10_about_85 : decode cX10_about 85 = .ok (.getfield 16, 3) := by decide +kernel
theorem dX10_about_88 : decode cX10_about 88 = .ok (.iconst 1, 1) := by decide +kernel
theorem dX10_about_89 : decode cX10_about 89 = .ok (.iaload, 1) := by decide +kernel
theorem dX10_about_90 : decode cX10_about 90 = .ok (.ireturn, 1) := by decide +kernel
theorem dX10_about_91 : decode cX10_about 91 = .ok (.aload_n 0, 1) := by decide +kernel
theorem dX10_about_92 : decode cX10_about 92 = .ok (.getfield 16, 3) := by decide +kernel
theorem dX10_about_95 : decode cX10_about 95 = .ok (.iconst 2, 1) := by decide +kernel
theorem dX10_about_96 : decode cX10_about 96 = .ok (.iaload, 1) := by decide +kernel
theorem dX10_about_97 : decode cX10_about 97 = .ok (.ireturn, 1) := by decide +kernel
theorem dX10_about_98 : decode cX10_about 98 = .ok (.aload_n 0, 1) := by decide +kernel
theorem dX10_about_99 : decode cX10_about 99 = .ok (.getfield 16, 3) := by decide +kernel
theorem dX10_about_102 : decode cX10_about 102 = .ok (.iconst 0, 1) := by decide +kernel
theorem dX10_about_103 : decode cX10_about 103 = .ok (.iaload, 1) := by decide +kernel
theorem dX10_about_104 : decode cX10_about 104 = .ok (.ireturn, 1) := by decide +kernel
theorem dX10_about_105 : decode cX10_about 105 = .ok (.aload_n 0, 1) := by decide +kernel
theorem dX10_about_106 : decode cX10_about 106 = .ok (.getfield 16, 3) := by decide +kernel
theorem dX10_about_109 : decode cX10_about 109 = .ok (.iconst 3, 1) := by decide +kernel
theorem dX10_about_110 : decode cX10_about 110 = .ok (.iaload, 1) := by decide +kernel
theorem dX10_about_111 : decode cX10_about 111 = .ok (.ireturn, 1) := by decide +kernel
theorem dX10_about_112 : decode cX10_about 112 = .ok (.aload_n 0, 1) := by decide +kernel
theorem dX10_about_113 : decode cX10_about 113 = .ok (.getfield 16, 3) := by decide +kernel
theorem dX10_about_116 : decode cX10_about 116 = .ok (.iconst 4, 1) := by decide +kernel
theorem dX10_about_117 : decode cX10_about 117 = .ok (.iaload, 1) := by decide +kernel
theorem dX10_about_118 : decode cX10_about 118 = .ok (.ireturn, 1) := by decide +kernel
theorem dX10_about_119 : decode cX10_about 119 = .ok (.aload_n 0, 1) := by decide +kernel
theorem dX10_about_120 : decode cX10_about 120 = .ok (.getfield 16, 3) := by decide +kernel
theorem dX10_about_123 : decode cX10_about 123 = .ok (.iconst 5, 1) := by decide +kernel
theorem dX10_about_124 : decode cX10_about 124 = .ok (.iaload, 1) := by decide +kernel
theorem dX10_about_125 : decode cX10_about 125 = .ok (.ireturn, 1) := by decide +kernel
theorem dX10_about_126 : decode cX10_about 126 = .ok (.aload_n 0, 1) := by decide +kernel
theorem dX10_about_127 : decode cX10_about 127 = .ok (.getfield 16, 3) := by decide +kernel
theorem dX10_about_130 : decode cX10_about 130 = .ok (.bipush 6, 2) := by decide +kernel
theorem dX10_about_132 : decode cX10_about 132 = .ok (.iaload, 1) := by decide +kernel
theorem dX10_about_133 : decode cX10_about 133 = .ok (.ireturn, 1) := by decide +kernel
theorem dX10_about_134 : decode cX10_about 134 = .ok (.aload_n 0, 1) := by decide +kernel
theorem dX10_about_135 : decode cX10_about 135 = .ok (.getfield 16, 3) := by decide +kernel
theorem dX10_about_138 : decode cX10_about 138 = .ok (.bipush 7, 2) := by decide +kernel
theorem dX10_about_140 : decode cX10_about 140 = .ok (.iaload, 1) := by decide +kernel
theorem dX10_about_141 : decode cX10_about 141 = .ok (.ireturn, 1) := by decide +kernel
theorem dX10_about_142 : decode cX10_about 142 = .ok (.aload_n 0, 1) := by decide +kernel
theorem dX10_about_143 : decode cX10_about 143 = .ok (.getfield 16, 3) := by decide +kernel
theorem dX10_about_146 : decode cX10_about 146 = .ok (.bipush 8, 2) := by decide +kernel
theorem dX10_about_148 : decode cX10_about 148 = .ok (.iaload, 1) := by decide +kernel
theorem dX10_about_149 : decode cX10_about 149 = .ok (.ireturn, 1) := by decide +kernel
theorem dX10_about_150 : decode cX10_about 150 = .ok (.aload_n 0, 1) := by decide +kernel
theorem dX10_about_151 : decode cX10_about 151 = .ok (.getfield 16, 3) := by decide +kernel
theorem dX10_about_154 : decode cX10_about 154 = .ok (.bipush 9, 2) := by decide +kernel
theorem dX10_about_156 : decode cX10_about 156 = .ok (.iaload, 1) := by decide +kernel
theorem dX10_about_157 : decode cX10_about 157 = .ok (.ireturn, 1) := by decide +kernel
theorem dX10_about_158 : decode cX10_about 158 = .ok (.aload_n 0, 1) := by decide +kernel
theorem dX10_about_159 : decode cX10_about 159 = .ok (.getfield 16, 3) := by decide +kernel
theorem dX10_about_162 : decode cX10_about 162 = .ok (.bipush 10, 2) := by decide +kernel
theorem dX10_about_164 : decode cX10_about 164 = .ok (.iaload, 1) := by decide +kernel
theorem dX10_about_165 : decode cX10_about 165 = .ok (.ireturn, 1) := by decide +kernel
theorem dX10_about_166 : decode cX10_about 166 = .ok (.aload_n 0, 1) := by decide +kernel
theorem dX10_about_167 : decode cX10_about 167 = .ok (.getfield 16, 3) := by decide +kernel
theorem dX10_about_170 : decode cX10_about 170 = .ok (.invokestatic 202, 3) := by decide +kernel
theorem dX10_about_173 : decode cX10_about 173 = .ok (.ireturn, 1) := by decide +kernel
def bX10_about_0 (w : ab_W) (s_X10_in : ab_S) (s_X10_refused : ab_S) (s_X10_allSondes : ab_S) (M : Nat → ab_P) (Kn : Option Value → ab_H → Prop) : ab_P := ab_ald 0 (ab_ild 1 (ab_i2l (ab_cl (lN 0) (ab_cl (11) (ab_cN w 3 s_X10_in (ab_if1 (fun x => x = 0) (ab_ci (nI 1) (M 18)) (ab_ci (nI 0) (M 18))))))))
def bX10_about_18 (w : ab_W) (s_X10_in : ab_S) (s_X10_refused : ab_S) (s_X10_allSondes : ab_S) (M : Nat → ab_P) (Kn : Option Value → ab_H → Prop) : ab_P := ab_cV w 2 10 s_X10_refused (ab_if1 (fun x => x = 0) (ab_ild 1 (ab_sw [(nI 0, ab_ald 0 (ab_gr w 10 3 (ab_ci (nI 1) (ab_ia w 11 (ab_ir Kn))))), (nI 1, ab_ald 0 (ab_gr w 10 3 (ab_ci (nI 2) (ab_ia w 11 (ab_ir Kn))))), (nI 2, ab_ald 0 (ab_gr w 10 3 (ab_ci (nI 0) (ab_ia w 11 (ab_ir Kn))))), (nI 3, ab_ald 0 (ab_gr w 10 3 (ab_ci (nI 3) (ab_ia w 11 (ab_ir Kn))))), (nI 4, ab_ald 0 (ab_gr w 10 3 (ab_ci (nI 4) (ab_ia w 11 (ab_ir Kn))))), (nI 5, ab_ald 0 (ab_gr w 10 3 (ab_ci (nI 5) (ab_ia w 11 (ab_ir Kn))))), (nI 6, ab_ald 0 (ab_gr w 10 3 (ab_ci (nI 6) (ab_ia w 11 (ab_ir Kn))))), (nI 7, ab_ald 0 (ab_gr w 10 3 (ab_ci (nI 7) (ab_ia w 11 (ab_ir Kn))))), (nI 8, ab_ald 0 (ab_gr w 10 3 (ab_ci (nI 8) (ab_ia w 11 (ab_ir Kn))))), (nI 9, ab_ald 0 (ab_gr w 10 3 (ab_ci (nI 9) (ab_ia w 11 (ab_ir Kn))))), (nI 10, ab_ald 0 (ab_gr w 10 3 (ab_ci (nI 10) (ab_ia w 11 (ab_ir Kn)))))] (ab_ald 0 (ab_gr w 10 3 (ab_cN w 1 s_X10_allSondes (ab_ir Kn)))))) (ab_ci (nI 0) (ab_ir Kn)))
set_option maxRecDepth 20000 in
set_option maxHeartbeats 2000000 in
theorem vc_X10_about {l : Launch} (hl : l.stackTraces = false) {w : ab_W} (hI : ab_Inj w) {mc : Nat} {σ : ab_H} {As : List Value} {Kn : Option Value → ab_H → Prop} {Kx : String → ab_H → Prop} {s_X10_in : ab_S} (ok_X10_in : ab_OkN l yX10_in (Cond.code yX10_in cX10_in 6 (some .boolean)) 1 s_X10_in) {s_X10_refused : ab_S} (ok_X10_refused : ab_OkN l yX10_refused (Cond.code yX10_refused cX10_refused 2 (some .boolean)) 1 s_X10_refused) {s_X10_allSondes : ab_S} (ok_X10_allSondes : ab_OkN l yX10_allSondes (Cond.code yX10_allSondes cX10_allSondes 3 (some .int)) 3 s_X10_allSondes) (hlen : (ab_xl As).length ≤ 2) (h : ∀ M : Nat → ab_P, (∀ L st σ, bX10_about_0 w s_X10_in s_X10_refused s_X10_allSondes M Kn L st σ → M 0 L st σ) → (∀ L st σ, bX10_about_18 w s_X10_in s_X10_refused s_X10_allSondes M Kn L st σ → M 18 L st σ) → M 0 (ab_pd 2 (ab_xl As)) [] σ) : ab_Met l yX10_about (Cond.code yX10_about cX10_about 2 (some .int)) 4 mc w σ As Kn Kx := by
  refine ab_enter (by decide) hl hI hlen (by decide) ?_
  intro p e R s m args below meth c C hno hr
  exact h _ (sd_aload_n C (i := 0) dX10_about_0 rfl (sd_iload_n C (i := 1) dX10_about_1 rfl (sd_i2l C dX10_about_2 (sd_lconst C (x := lN 0) dX10_about_3 (by decide +kernel) (sd_ldc2 C (x := 11) dX10_about_4 wd_1188 (sd_cS C ok_X10_in ⟨by decide, by decide, wd_1046, wd_11, by decide +kernel⟩ wd_1044 wd_1045 dX10_about_7 (sd_if_eq C dX10_about_10 (tgt := 17) (by decide) (sd_iconst C (x := nI 1) dX10_about_17 (by decide +kernel) (fun _ _ _ h => h)) (sd_iconst C (x := nI 0) dX10_about_13 (by decide +kernel) (sd_goto C dX10_about_14 (tgt := 18) (by decide) (fun _ _ _ h => h))))))))))
    (sd_cV C ok_X10_refused (ci := 10) (row := (RX10, TX10, 15)) rfl rfl ⟨by decide, by decide, wd_1050, wd_11, by decide +kernel⟩ wd_1047 wd_1049 ws_15 dX10_about_18 (sd_if_eq C dX10_about_21 (tgt := 26) (by decide) (sd_iload_n C (i := 1) dX10_about_26 rfl (sd_table C (td := 166) dX10_about_27 11 (by decide +kernel : ([nI 0, nI 1, nI 2, nI 3, nI 4, nI 5, nI 6, nI 7, nI 8, nI 9, nI 10] : List Int32) = _) (by decide) (List.forall_mem_cons.mpr ⟨⟨57, 84, (by decide +kernel : ¬ (nI 0 : Int32).toInt < 0), (by decide +kernel : ¬ (10 : Int) < (nI 0 : Int32).toInt), (by decide +kernel : (#[57, 64, 71, 78, 85, 92, 99, 107, 115, 123, 131] : Array Int)[((nI 0 : Int32).toInt - 0).toNat]? = some 57), (by decide), (sd_aload_n C (i := 0) dX10_about_84 rfl (sd_gr C (ci := 10) (k := 7) (r := (RX10, TX10, 15)) rfl (by decide) rfl wd_995 dX10_about_85 (sd_iconst C (x := nI 1) dX10_about_88 (by decide +kernel) (sd_ia C dX10_about_89 (sd_ir C hr dX10_about_90)))))⟩, (List.forall_mem_cons.mpr ⟨⟨64, 91, (by decide +kernel : ¬ (nI 1 : Int32).toInt < 0), (by decide +kernel : ¬ (10 : Int) < (nI 1 : Int32).toInt), (by decide +kernel : (#[57, 64, 71, 78, 85, 92, 99, 107, 115, 123, 131] : Array Int)[((nI 1 : Int32).toInt - 0).toNat]? = some 64), (by decide), (sd_aload_n C (i := 0) dX10_about_91 rfl (sd_gr C (ci := 10) (k := 7) (r := (RX10, TX10, 15)) rfl (by decide) rfl wd_995 dX10_about_92 (sd_iconst C (x := nI 2) dX10_about_95 (by decide +kernel) (sd_ia C dX10_about_96 (sd_ir C hr dX10_about_97)))))⟩, (List.forall_mem_cons.mpr ⟨⟨71, 98, (by decide +kernel : ¬ (nI 2 : Int32).toInt < 0), (by decide +kernel : ¬ (10 : Int) < (nI 2 : Int32).toInt), (by decide +kernel : (#[57, 64, 71, 78, 85, 92, 99, 107, 115, 123, 131] : Array Int)[((nI 2 : Int32).toInt - 0).toNat]? = some 71), (by decide), (sd_aload_n C (i := 0) dX10_about_98 rfl (sd_gr C (ci := 10) (k := 7) (r := (RX10, TX10, 15)) rfl (by decide) rfl wd_995 dX10_about_99 (sd_iconst C (x := nI 0) dX10_about_102 (by decide +kernel) (sd_ia C dX10_about_103 (sd_ir C hr dX10_about_104)))))⟩, (List.forall_mem_cons.mpr ⟨⟨78, 105, (by decide +kernel : ¬ (nI 3 : Int32).toInt < 0), (by decide +kernel : ¬ (10 : Int) < (nI 3 : Int32).toInt), (by decide +kernel : (#[57, 64, 71, 78, 85, 92, 99, 107, 115, 123, 131] : Array Int)[((nI 3 : Int32).toInt - 0).toNat]? = some 78), (by decide), (sd_aload_n C (i := 0) dX10_about_105 rfl (sd_gr C (ci := 10) (k := 7) (r := (RX10, TX10, 15)) rfl (by decide) rfl wd_995 dX10_about_106 (sd_iconst C (x := nI 3) dX10_about_109 (by decide +kernel) (sd_ia C dX10_about_110 (sd_ir C hr dX10_about_111)))))⟩, (List.forall_mem_cons.mpr ⟨⟨85, 112, (by decide +kernel : ¬ (nI 4 : Int32).toInt < 0), (by decide +kernel : ¬ (10 : Int) < (nI 4 : Int32).toInt), (by decide +kernel : (#[57, 64, 71, 78, 85, 92, 99, 107, 115, 123, 131] : Array Int)[((nI 4 : Int32).toInt - 0).toNat]? = some 85), (by decide), (sd_aload_n C (i := 0) dX10_about_112 rfl (sd_gr C (ci := 10) (k := 7) (r := (RX10, TX10, 15)) rfl (by decide) rfl wd_995 dX10_about_113 (sd_iconst C (x := nI 4) dX10_about_116 (by decide +kernel) (sd_ia C dX10_about_117 (sd_ir C hr dX10_about_118)))))⟩, (List.forall_mem_cons.mpr ⟨⟨92, 119, (by decide +kernel : ¬ (nI 5 : Int32).toInt < 0), (by decide +kernel : ¬ (10 : Int) < (nI 5 : Int32).toInt), (by decide +kernel : (#[57, 64, 71, 78, 85, 92, 99, 107, 115, 123, 131] : Array Int)[((nI 5 : Int32).toInt - 0).toNat]? = some 92), (by decide), (sd_aload_n C (i := 0) dX10_about_119 rfl (sd_gr C (ci := 10) (k := 7) (r := (RX10, TX10, 15)) rfl (by decide) rfl wd_995 dX10_about_120 (sd_iconst C (x := nI 5) dX10_about_123 (by decide +kernel) (sd_ia C dX10_about_124 (sd_ir C hr dX10_about_125)))))⟩, (List.forall_mem_cons.mpr ⟨⟨99, 126, (by decide +kernel : ¬ (nI 6 : Int32).toInt < 0), (by decide +kernel : ¬ (10 : Int) < (nI 6 : Int32).toInt), (by decide +kernel : (#[57, 64, 71, 78, 85, 92, 99, 107, 115, 123, 131] : Array Int)[((nI 6 : Int32).toInt - 0).toNat]? = some 99), (by decide), (sd_aload_n C (i := 0) dX10_about_126 rfl (sd_gr C (ci := 10) (k := 7) (r := (RX10, TX10, 15)) rfl (by decide) rfl wd_995 dX10_about_127 (sd_bipush C (x := nI 6) dX10_about_130 (by decide +kernel) (sd_ia C dX10_about_132 (sd_ir C hr dX10_about_133)))))⟩, (List.forall_mem_cons.mpr ⟨⟨107, 134, (by decide +kernel : ¬ (nI 7 : Int32).toInt < 0), (by decide +kernel : ¬ (10 : Int) < (nI 7 : Int32).toInt), (by decide +kernel : (#[57, 64, 71, 78, 85, 92, 99, 107, 115, 123, 131] : Array Int)[((nI 7 : Int32).toInt - 0).toNat]? = some 107), (by decide), (sd_aload_n C (i := 0) dX10_about_134 rfl (sd_gr C (ci := 10) (k := 7) (r := (RX10, TX10, 15)) rfl (by decide) rfl wd_995 dX10_about_135 (sd_bipush C (x := nI 7) dX10_about_138 (by decide +kernel) (sd_ia C dX10_about_140 (sd_ir C hr dX10_about_141)))))⟩, (List.forall_mem_cons.mpr ⟨⟨115, 142, (by decide +kernel : ¬ (nI 8 : Int32).toInt < 0), (by decide +kernel : ¬ (10 : Int) < (nI 8 : Int32).toInt), (by decide +kernel : (#[57, 64, 71, 78, 85, 92, 99, 107, 115, 123, 131] : Array Int)[((nI 8 : Int32).toInt - 0).toNat]? = some 115), (by decide), (sd_aload_n C (i := 0) dX10_about_142 rfl (sd_gr C (ci := 10) (k := 7) (r := (RX10, TX10, 15)) rfl (by decide) rfl wd_995 dX10_about_143 (sd_bipush C (x := nI 8) dX10_about_146 (by decide +kernel) (sd_ia C dX10_about_148 (sd_ir C hr dX10_about_149)))))⟩, (List.forall_mem_cons.mpr ⟨⟨123, 150, (by decide +kernel : ¬ (nI 9 : Int32).toInt < 0), (by decide +kernel : ¬ (10 : Int) < (nI 9 : Int32).toInt), (by decide +kernel : (#[57, 64, 71, 78, 85, 92, 99, 107, 115, 123, 131] : Array Int)[((nI 9 : Int32).toInt - 0).toNat]? = some 123), (by decide), (sd_aload_n C (i := 0) dX10_about_150 rfl (sd_gr C (ci := 10) (k := 7) (r := (RX10, TX10, 15)) rfl (by decide) rfl wd_995 dX10_about_151 (sd_bipush C (x := nI 9) dX10_about_154 (by decide +kernel) (sd_ia C dX10_about_156 (sd_ir C hr dX10_about_157)))))⟩, (List.forall_mem_cons.mpr ⟨⟨131, 158, (by decide +kernel : ¬ (nI 10 : Int32).toInt < 0), (by decide +kernel : ¬ (10 : Int) < (nI 10 : Int32).toInt), (by decide +kernel : (#[57, 64, 71, 78, 85, 92, 99, 107, 115, 123, 131] : Array Int)[((nI 10 : Int32).toInt - 0).toNat]? = some 131), (by decide), (sd_aload_n C (i := 0) dX10_about_158 rfl (sd_gr C (ci := 10) (k := 7) (r := (RX10, TX10, 15)) rfl (by decide) rfl wd_995 dX10_about_159 (sd_bipush C (x := nI 10) dX10_about_162 (by decide +kernel) (sd_ia C dX10_about_164 (sd_ir C hr dX10_about_165)))))⟩, (fun _ h => absurd h List.not_mem_nil)⟩)⟩)⟩)⟩)⟩)⟩)⟩)⟩)⟩)⟩)⟩) (by decide) (sd_aload_n C (i := 0) dX10_about_166 rfl (sd_gr C (ci := 10) (k := 7) (r := (RX10, TX10, 15)) rfl (by decide) rfl wd_995 dX10_about_167 (sd_cS C ok_X10_allSondes ⟨by decide, by decide, wd_1191, wd_11, by decide +kernel⟩ wd_1189 wd_1190 dX10_about_170 (sd_ir C hr dX10_about_173)))))) (sd_iconst C (x := nI 0) dX10_about_24 (by decide +kernel) (sd_ir C hr dX10_about_25))))
theorem dX10_isStation_0 : decode cX10_isStation 0 = .ok (.iload_n 1, 1) := by decide +kernel
theorem dX10_isStation_1 : decode cX10_isStation 1 = .ok (.i2l, 1) := by decide +kernel
theorem dX10_isStation_2 : decode cX10_isStation 2 = .ok (.lconst 0, 1) := by decide +kernel
theorem dX10_isStation_3 : decode cX10_isStation 3 = .ok (.aload_n 0, 1) := by decide +kernel
theorem dX10_isStation_4 : decode cX10_isStation 4 = .ok (.getfield 16, 3) := by decide +kernel
theorem dX10_isStation_7 : decode cX10_isStation 7 = .ok (.iconst 1, 1) := by decide +kernel
theorem dX10_isStation_8 : decode cX10_isStation 8 = .ok (.iaload, 1) := by decide +kernel
theorem dX10_isStation_9 : decode cX10_isStation 9 = .ok (.iconst 1, 1) := by decide +kernel
theorem dX10_isStation_10 : decode cX10_isStation 10 = .ok (.isub, 1) := by decide +kernel
theorem dX10_isStation_11 : decode cX10_isStation 11 = .ok (.i2l, 1) := by decide +kernel
theorem dX10_isStation_12 : decode cX10_isStation 12 = .ok (.invokestatic 62, 3) := by decide +kernel
theorem dX10_isStation_15 : decode cX10_isStation 15 = .ok (.ireturn, 1) := by decide +kernel
def bX10_isStation_0 (w : ab_W) (s_X10_in : ab_S) (M : Nat → ab_P) (Kn : Option Value → ab_H → Prop) : ab_P := ab_ild 1 (ab_i2l (ab_cl (lN 0) (ab_ald 0 (ab_gr w 10 3 (ab_ci (nI 1) (ab_ia w 11 (ab_ci (nI 1) (ab_b2 (fun x y => x - y) (ab_i2l (ab_cN w 3 s_X10_in (ab_zr Kn)))))))))))
set_option maxRecDepth 20000 in
set_option maxHeartbeats 2000000 in
theorem vc_X10_isStation {l : Launch} (hl : l.stackTraces = false) {w : ab_W} (hI : ab_Inj w) {mc : Nat} {σ : ab_H} {As : List Value} {Kn : Option Value → ab_H → Prop} {Kx : String → ab_H → Prop} {s_X10_in : ab_S} (ok_X10_in : ab_OkN l yX10_in (Cond.code yX10_in cX10_in 6 (some .boolean)) 1 s_X10_in) (hlen : (ab_xl As).length ≤ 2) (h : ∀ M : Nat → ab_P, (∀ L st σ, bX10_isStation_0 w s_X10_in M Kn L st σ → M 0 L st σ) → M 0 (ab_pd 2 (ab_xl As)) [] σ) : ab_Met l yX10_isStation (Cond.code yX10_isStation cX10_isStation 2 (some .boolean)) 2 mc w σ As Kn Kx := by
  refine ab_enter (by decide) hl hI hlen (by decide) ?_
  intro p e R s m args below meth c C hno hr
  exact h _ (sd_iload_n C (i := 1) dX10_isStation_0 rfl (sd_i2l C dX10_isStation_1 (sd_lconst C (x := lN 0) dX10_isStation_2 (by decide +kernel) (sd_aload_n C (i := 0) dX10_isStation_3 rfl (sd_gr C (ci := 10) (k := 7) (r := (RX10, TX10, 15)) rfl (by decide) rfl wd_995 dX10_isStation_4 (sd_iconst C (x := nI 1) dX10_isStation_7 (by decide +kernel) (sd_ia C dX10_isStation_8 (sd_iconst C (x := nI 1) dX10_isStation_9 (by decide +kernel) (sd_isub C dX10_isStation_10 (sd_i2l C dX10_isStation_11 (sd_cS C ok_X10_in ⟨by decide, by decide, wd_1046, wd_11, by decide +kernel⟩ wd_1044 wd_1045 dX10_isStation_12 (sd_zr C hr dX10_isStation_15))))))))))))
theorem dX10_deedNow_0 : decode cX10_deedNow 0 = .ok (.aload_n 0, 1) := by decide +kernel
theorem dX10_deedNow_1 : decode cX10_deedNow 1 = .ok (.invokevirtual 206, 3) := by decide +kernel
theorem dX10_deedNow_4 : decode cX10_deedNow 4 = .ok (.aload_n 0, 1) := by decide +kernel
theorem dX10_deedNow_5 : decode cX10_deedNow 5 = .ok (.getfield 19, 3) := by decide +kernel
theorem dX10_deedNow_8 : decode cX10_deedNow 8 = .ok (.invokestatic 103, 3) := by decide +kernel
theorem dX10_deedNow_11 : decode cX10_deedNow 11 = .ok (.aload_n 0, 1) := by decide +kernel
theorem dX10_deedNow_12 : decode cX10_deedNow 12 = .ok (.getfield 19, 3) := by decide +kernel
theorem dX10_deedNow_15 : decode cX10_deedNow 15 = .ok (.iload_n 1, 1) := by decide +kernel
theorem dX10_deedNow_16 : decode cX10_deedNow 16 = .ok (.invokestatic 106, 3) := by decide +kernel
theorem dX10_deedNow_19 : decode cX10_deedNow 19 = .ok (.ireturn, 1) := by decide +kernel
def bX10_deedNow_0 (w : ab_W) (s_X10_tryIt : ab_S) (s_X10_arrive : ab_S) (s_X10_deed : ab_S) (M : Nat → ab_P) (Kn : Option Value → ab_H → Prop) : ab_P := ab_ald 0 (ab_cV w 1 10 s_X10_tryIt (ab_ald 0 (ab_gr w 10 4 (ab_cN w 1 s_X10_arrive (ab_ald 0 (ab_gr w 10 4 (ab_ild 1 (ab_cN w 2 s_X10_deed (ab_ir Kn)))))))))
set_option maxRecDepth 20000 in
set_option maxHeartbeats 2000000 in
theorem vc_X10_deedNow {l : Launch} (hl : l.stackTraces = false) {w : ab_W} (hI : ab_Inj w) {mc : Nat} {σ : ab_H} {As : List Value} {Kn : Option Value → ab_H → Prop} {Kx : String → ab_H → Prop} {s_X10_tryIt : ab_S} (ok_X10_tryIt : ab_OkN l yX10_tryIt (Cond.code yX10_tryIt cX10_tryIt 1 none) 2 s_X10_tryIt) {s_X10_arrive : ab_S} (ok_X10_arrive : ab_OkN l yX10_arrive (Cond.code yX10_arrive cX10_arrive 3 none) 3 s_X10_arrive) {s_X10_deed : ab_S} (ok_X10_deed : ab_OkN l yX10_deed (Cond.code yX10_deed cX10_deed 2 (some .int)) 3 s_X10_deed) (hlen : (ab_xl As).length ≤ 2) (h : ∀ M : Nat → ab_P, (∀ L st σ, bX10_deedNow_0 w s_X10_tryIt s_X10_arrive s_X10_deed M Kn L st σ → M 0 L st σ) → M 0 (ab_pd 2 (ab_xl As)) [] σ) : ab_Met l yX10_deedNow (Cond.code yX10_deedNow cX10_deedNow 2 (some .int)) 4 mc w σ As Kn Kx := by
  refine ab_enter (by decide) hl hI hlen (by decide) ?_
  intro p e R s m args below meth c C hno hr
  exact h _ (sd_aload_n C (i := 0) dX10_deedNow_0 rfl (sd_cV C ok_X10_tryIt (ci := 10) (row := (RX10, TX10, 15)) rfl rfl ⟨by decide, by decide, wd_1211, wd_11, by decide +kernel⟩ wd_1208 wd_1210 ws_32 dX10_deedNow_1 (sd_aload_n C (i := 0) dX10_deedNow_4 rfl (sd_gr C (ci := 10) (k := 8) (r := (RX10, TX10, 15)) rfl (by decide) rfl wd_996 dX10_deedNow_5 (sd_cS C ok_X10_arrive ⟨by decide, by decide, wd_1139, wd_11, by decide +kernel⟩ wd_1137 wd_1138 dX10_deedNow_8 (sd_aload_n C (i := 0) dX10_deedNow_11 rfl (sd_gr C (ci := 10) (k := 8) (r := (RX10, TX10, 15)) rfl (by decide) rfl wd_996 dX10_deedNow_12 (sd_iload_n C (i := 1) dX10_deedNow_15 rfl (sd_cS C ok_X10_deed ⟨by decide, by decide, wd_1151, wd_11, by decide +kernel⟩ wd_1149 wd_1150 dX10_deedNow_16 (sd_ir C hr dX10_deedNow_19))))))))))
theorem dX10_station_0 : decode cX10_station 0 = .ok (.aload_n 0, 1) := by decide +kernel
theorem dX10_station_1 : decode cX10_station 1 = .ok (.aload_n 0, 1) := by decide +kernel
theorem dX10_station_2 : decode cX10_station 2 = .ok (.iload_n 1, 1) := by decide +kernel
theorem dX10_station_3 : decode cX10_station 3 = .ok (.invokevirtual 209, 3) := by decide +kernel
theorem dX10_station_6 : decode cX10_station 6 = .ok (.ifCond .ne 7, 3) := by decide +kernel
theorem dX10_station_9 : decode cX10_station 9 = .ok (.iconst 1, 1) := by decide +kernel
theorem dX10_station_10 : decode cX10_station 10 = .ok (.goto 20, 3) := by decide +kernel
theorem dX10_station_13 : decode cX10_station 13 = .ok (.iload_n 2, 1) := by decide +kernel
theorem dX10_station_14 : decode cX10_station 14 = .ok (.i2l, 1) := by decide +kernel
theorem dX10_station_15 : decode cX10_station 15 = .ok (.lconst 0, 1) := by decide +kernel
theorem dX10_station_16 : decode cX10_station 16 = .ok (.ldc2_w 212, 3) := by decide +kernel
theorem dX10_station_19 : decode cX10_station 19 = .ok (.invokestatic 62, 3) := by decide +kernel
theorem dX10_station_22 : decode cX10_station 22 = .ok (.ifCond .eq 7, 3) := by decide +kernel
theorem dX10_station_25 : decode cX10_station 25 = .ok (.iconst 0, 1) := by decide +kernel
theorem dX10_station_26 : decode cX10_station 26 = .ok (.goto 4, 3) := by decide +kernel
theorem dX10_station_29 : decode cX10_station 29 = .ok (.iconst 2, 1) := by decide +kernel
theorem dX10_station_30 : decode cX10_station 30 = .ok (.invokevirtual 127, 3) := by decide +kernel
theorem dX10_station_33 : decode cX10_station 33 = .ok (.ifCond .eq 5, 3) := by decide +kernel
theorem dX10_station_36 : decode cX10_station 36 = .ok (.iconst 0, 1) := by decide +kernel
theorem dX10_station_37 : decode cX10_station 37 = .ok (.ireturn, 1) := by decide +kernel
theorem dX10_station_38 : decode cX10_station 38 = .ok (.iload_n 2, 1) := by decide +kernel
theorem dX10_station_39 : decode cX10_station 39 = .ok (.tableswitch 68 4 7 #[29, 38, 50, 62], 29) := by decide +kernel
theorem dX10_station_68 : decode cX10_station 68 = .ok (.aload_n 0, 1) := by decide +kernel
theorem dX10_station_69 : decode cX10_station 69 = .ok (.getfield 16, 3) := by decide +kernel
theorem dX10_station_72 : decode cX10_station 72 = .ok (.iload_n 1, 1) := by decide +kernel
theorem dX10_station_73 : decode cX10_station 73 = .ok (.invokestatic 56, 3) := by decide +kernel
theorem dX10_station_76 : decode cX10_station 76 = .ok (.ireturn, 1) := by decide +kernel
theorem dX10_station_77 : decode cX10_station 77 = .ok (.aload_n 0, 1) := by decide +kernel
theorem dX10_station_78 : decode cX10_station 78 = .ok (.getfield 16, 3) := by decide +kernel
theorem dX10_station_81 : decode cX10_station 81 = .ok (.iload_n 1, 1) := by decide +kernel
theorem dX10_station_82 : decode cX10_station 82 = .ok (.bipush 9, 2) := by decide +kernel
theorem dX10_station_84 : decode cX10_station 84 = .ok (.invokestatic 52, 3) := by decide +kernel
theorem dX10_station_87 : decode cX10_station 87 = .ok (.iaload, 1) := by decide +kernel
theorem dX10_station_88 : decode cX10_station 88 = .ok (.ireturn, 1) := by decide +kernel
theorem dX10_station_89 : decode cX10_station 89 = .ok (.aload_n 0, 1) := by decide +kernel
theorem dX10_station_90 : decode cX10_station 90 = .ok (.getfield 16, 3) := by decide +kernel
theorem dX10_station_93 : decode cX10_station 93 = .ok (.iload_n 1, 1) := by decide +kernel
theorem dX10_station_94 : decode cX10_station 94 = .ok (.bipush 10, 2) := by decide +kernel
theorem dX10_station_96 : decode cX10_station 96 = .ok (.invokestatic 52, 3) := by decide +kernel
theorem dX10_station_99 : decode cX10_station 99 = .ok (.iaload, 1) := by decide +kernel
theorem dX10_station_100 : decode cX10_station 100 = .ok (.ireturn, 1) := by decide +kernel
theorem dX10_station_101 : decode cX10_station 101 = .ok (.aload_n 0, 1) := by decide +kernel
theorem dX10_station_102 : decode cX10_station 102 = .ok (.iload_n 1, 1) := by decide +kernel
theorem dX10_station_103 : decode cX10_station 103 = .ok (.invokevirtual 214, 3) := by decide +kernel
theorem dX10_station_106 : decode cX10_station 106 = .ok (.ireturn, 1) := by decide +kernel
theorem dX10_station_107 : decode cX10_station 107 = .ok (.aload_n 0, 1) := by decide +kernel
theorem dX10_station_108 : decode cX10_station 108 = .ok (.getfield 16, 3) := by decide +kernel
theorem dX10_station_111 : decode cX10_station 111 = .ok (.iload_n 1, 1) := by decide +kernel
theorem dX10_station_112 : decode cX10_station 112 = .ok (.iload_n 2, 1) := by decide +kernel
theorem dX10_station_113 : decode cX10_station 113 = .ok (.invokestatic 52, 3) := by decide +kernel
theorem dX10_station_116 : decode cX10_station 116 = .ok (.iaload, 1) := by decide +kernel
theorem dX10_station_117 : decode cX10_station 117 = .ok (.ireturn, 1) := by decide +kernel
def bX10_station_0 (w : ab_W) (s_X10_isStation : ab_S) (s_X10_in : ab_S) (s_X10_refused : ab_S) (s_X10_sondes : ab_S) (s_X10_stationAt : ab_S) (s_X10_deedNow : ab_S) (M : Nat → ab_P) (Kn : Option Value → ab_H → Prop) : ab_P := ab_ald 0 (ab_ald 0 (ab_ild 1 (ab_cV w 2 10 s_X10_isStation (ab_if1 (fun x => ¬ x = 0) (ab_ild 2 (ab_i2l (ab_cl (lN 0) (ab_cl (7) (ab_cN w 3 s_X10_in (ab_if1 (fun x => x = 0) (ab_ci (nI 2) (M 30)) (ab_ci (nI 0) (M 30)))))))) (ab_ci (nI 1) (M 30))))))
def bX10_station_30 (w : ab_W) (s_X10_isStation : ab_S) (s_X10_in : ab_S) (s_X10_refused : ab_S) (s_X10_sondes : ab_S) (s_X10_stationAt : ab_S) (s_X10_deedNow : ab_S) (M : Nat → ab_P) (Kn : Option Value → ab_H → Prop) : ab_P := ab_cV w 2 10 s_X10_refused (ab_if1 (fun x => x = 0) (ab_ild 2 (ab_sw [(nI 4, ab_ald 0 (ab_gr w 10 3 (ab_ild 1 (ab_cN w 2 s_X10_sondes (ab_ir Kn))))), (nI 5, ab_ald 0 (ab_gr w 10 3 (ab_ild 1 (ab_ci (nI 9) (ab_cN w 2 s_X10_stationAt (ab_ia w 11 (ab_ir Kn))))))), (nI 6, ab_ald 0 (ab_gr w 10 3 (ab_ild 1 (ab_ci (nI 10) (ab_cN w 2 s_X10_stationAt (ab_ia w 11 (ab_ir Kn))))))), (nI 7, ab_ald 0 (ab_ild 1 (ab_cV w 2 10 s_X10_deedNow (ab_ir Kn))))] (ab_ald 0 (ab_gr w 10 3 (ab_ild 1 (ab_ild 2 (ab_cN w 2 s_X10_stationAt (ab_ia w 11 (ab_ir Kn))))))))) (ab_ci (nI 0) (ab_ir Kn)))
set_option maxRecDepth 20000 in
set_option maxHeartbeats 2000000 in
theorem vc_X10_station {l : Launch} (hl : l.stackTraces = false) {w : ab_W} (hI : ab_Inj w) {mc : Nat} {σ : ab_H} {As : List Value} {Kn : Option Value → ab_H → Prop} {Kx : String → ab_H → Prop} {s_X10_isStation : ab_S} (ok_X10_isStation : ab_OkN l yX10_isStation (Cond.code yX10_isStation cX10_isStation 2 (some .boolean)) 2 s_X10_isStation) {s_X10_in : ab_S} (ok_X10_in : ab_OkN l yX10_in (Cond.code yX10_in cX10_in 6 (some .boolean)) 1 s_X10_in) {s_X10_refused : ab_S} (ok_X10_refused : ab_OkN l yX10_refused (Cond.code yX10_refused cX10_refused 2 (some .boolean)) 1 s_X10_refused) {s_X10_sondes : ab_S} (ok_X10_sondes : ab_OkN l yX10_sondes (Cond.code yX10_sondes cX10_sondes 4 (some .int)) 2 s_X10_sondes) {s_X10_stationAt : ab_S} (ok_X10_stationAt : ab_OkN l yX10_stationAt (Cond.code yX10_stationAt cX10_stationAt 2 (some .int)) 1 s_X10_stationAt) {s_X10_deedNow : ab_S} (ok_X10_deedNow : ab_OkN l yX10_deedNow (Cond.code yX10_deedNow cX10_deedNow 2 (some .int)) 4 s_X10_deedNow) (hlen : (ab_xl As).length ≤ 3) (h : ∀ M : Nat → ab_P, (∀ L st σ, bX10_station_0 w s_X10_isStation s_X10_in s_X10_refused s_X10_sondes s_X10_stationAt s_X10_deedNow M Kn L st σ → M 0 L st σ) → (∀ L st σ, bX10_station_30 w s_X10_isStation s_X10_in s_X10_refused s_X10_sondes s_X10_stationAt s_X10_deedNow M Kn L st σ → M 30 L st σ) → M 0 (ab_pd 3 (ab_xl As)) [] σ) : ab_Met l yX10_station (Cond.code yX10_station cX10_station 3 (some .int)) 5 mc w σ As Kn Kx := by
  refine ab_enter (by decide) hl hI hlen (by decide) ?_
  intro p e R s m args below meth c C hno hr
  exact h _ (sd_aload_n C (i := 0) dX10_station_0 rfl (sd_aload_n C (i := 0) dX10_station_1 rfl (sd_iload_n C (i := 1) dX10_station_2 rfl (sd_cV C ok_X10_isStation (ci := 10) (row := (RX10, TX10, 15)) rfl rfl ⟨by decide, by decide, wd_1202, wd_11, by decide +kernel⟩ wd_1199 wd_1201 ws_30 dX10_station_3 (sd_if_ne C dX10_station_6 (tgt := 13) (by decide) (sd_iload_n C (i := 2) dX10_station_13 rfl (sd_i2l C dX10_station_14 (sd_lconst C (x := lN 0) dX10_station_15 (by decide +kernel) (sd_ldc2 C (x := 7) dX10_station_16 wd_1203 (sd_cS C ok_X10_in ⟨by decide, by decide, wd_1046, wd_11, by decide +kernel⟩ wd_1044 wd_1045 dX10_station_19 (sd_if_eq C dX10_station_22 (tgt := 29) (by decide) (sd_iconst C (x := nI 2) dX10_station_29 (by decide +kernel) (fun _ _ _ h => h)) (sd_iconst C (x := nI 0) dX10_station_25 (by decide +kernel) (sd_goto C dX10_station_26 (tgt := 30) (by decide) (fun _ _ _ h => h))))))))) (sd_iconst C (x := nI 1) dX10_station_9 (by decide +kernel) (sd_goto C dX10_station_10 (tgt := 30) (by decide) (fun _ _ _ h => h))))))))
    (sd_cV C ok_X10_refused (ci := 10) (row := (RX10, TX10, 15)) rfl rfl ⟨by decide, by decide, wd_1050, wd_11, by decide +kernel⟩ wd_1047 wd_1049 ws_15 dX10_station_30 (sd_if_eq C dX10_station_33 (tgt := 38) (by decide) (sd_iload_n C (i := 2) dX10_station_38 rfl (sd_table C (td := 107) dX10_station_39 4 (by decide +kernel : ([nI 4, nI 5, nI 6, nI 7] : List Int32) = _) (by decide) (List.forall_mem_cons.mpr ⟨⟨29, 68, (by decide +kernel : ¬ (nI 4 : Int32).toInt < 4), (by decide +kernel : ¬ (7 : Int) < (nI 4 : Int32).toInt), (by decide +kernel : (#[29, 38, 50, 62] : Array Int)[((nI 4 : Int32).toInt - 4).toNat]? = some 29), (by decide), (sd_aload_n C (i := 0) dX10_station_68 rfl (sd_gr C (ci := 10) (k := 7) (r := (RX10, TX10, 15)) rfl (by decide) rfl wd_995 dX10_station_69 (sd_iload_n C (i := 1) dX10_station_72 rfl (sd_cS C ok_X10_sondes ⟨by decide, by decide, wd_1194, wd_11, by decide +kernel⟩ wd_1192 wd_1193 dX10_station_73 (sd_ir C hr dX10_station_76)))))⟩, (List.forall_mem_cons.mpr ⟨⟨38, 77, (by decide +kernel : ¬ (nI 5 : Int32).toInt < 4), (by decide +kernel : ¬ (7 : Int) < (nI 5 : Int32).toInt), (by decide +kernel : (#[29, 38, 50, 62] : Array Int)[((nI 5 : Int32).toInt - 4).toNat]? = some 38), (by decide), (sd_aload_n C (i := 0) dX10_station_77 rfl (sd_gr C (ci := 10) (k := 7) (r := (RX10, TX10, 15)) rfl (by decide) rfl wd_995 dX10_station_78 (sd_iload_n C (i := 1) dX10_station_81 rfl (sd_bipush C (x := nI 9) dX10_station_82 (by decide +kernel) (sd_cS C ok_X10_stationAt ⟨by decide, by decide, wd_1097, wd_11, by decide +kernel⟩ wd_1095 wd_1096 dX10_station_84 (sd_ia C dX10_station_87 (sd_ir C hr dX10_station_88)))))))⟩, (List.forall_mem_cons.mpr ⟨⟨50, 89, (by decide +kernel : ¬ (nI 6 : Int32).toInt < 4), (by decide +kernel : ¬ (7 : Int) < (nI 6 : Int32).toInt), (by decide +kernel : (#[29, 38, 50, 62] : Array Int)[((nI 6 : Int32).toInt - 4).toNat]? = some 50), (by decide), (sd_aload_n C (i := 0) dX10_station_89 rfl (sd_gr C (ci := 10) (k := 7) (r := (RX10, TX10, 15)) rfl (by decide) rfl wd_995 dX10_station_90 (sd_iload_n C (i := 1) dX10_station_93 rfl (sd_bipush C (x := nI 10) dX10_station_94 (by decide +kernel) (sd_cS C ok_X10_stationAt ⟨by decide, by decide, wd_1097, wd_11, by decide +kernel⟩ wd_1095 wd_1096 dX10_station_96 (sd_ia C dX10_station_99 (sd_ir C hr dX10_station_100)))))))⟩, (List.forall_mem_cons.mpr ⟨⟨62, 101, (by decide +kernel : ¬ (nI 7 : Int32).toInt < 4), (by decide +kernel : ¬ (7 : Int) < (nI 7 : Int32).toInt), (by decide +kernel : (#[29, 38, 50, 62] : Array Int)[((nI 7 : Int32).toInt - 4).toNat]? = some 62), (by decide), (sd_aload_n C (i := 0) dX10_station_101 rfl (sd_iload_n C (i := 1) dX10_station_102 rfl (sd_cV C ok_X10_deedNow (ci := 10) (row := (RX10, TX10, 15)) rfl rfl ⟨by decide, by decide, wd_1207, wd_11, by decide +kernel⟩ wd_1204 wd_1206 ws_31 dX10_station_103 (sd_ir C hr dX10_station_106))))⟩, (fun _ h => absurd h List.not_mem_nil)⟩)⟩)⟩)⟩) (by decide) (sd_aload_n C (i := 0) dX10_station_107 rfl (sd_gr C (ci := 10) (k := 7) (r := (RX10, TX10, 15)) rfl (by decide) rfl wd_995 dX10_station_108 (sd_iload_n C (i := 1) dX10_station_111 rfl (sd_iload_n C (i := 2) dX10_station_112 rfl (sd_cS C ok_X10_stationAt ⟨by decide, by decide, wd_1097, wd_11, by decide +kernel⟩ wd_1095 wd_1096 dX10_station_113 (sd_ia C dX10_station_116 (sd_ir C hr dX10_station_117))))))))) (sd_iconst C (x := nI 0) dX10_station_36 (by decide +kernel) (sd_ir C hr dX10_station_37))))
theorem dX10_stock_0 : decode cX10_stock 0 = .ok (.aload_n 0, 1) := by decide +kernel
theorem dX10_stock_1 : decode cX10_stock 1 = .ok (.aload_n 0, 1) := by decide +kernel
theorem dX10_stock_2 : decode cX10_stock 2 = .ok (.iload_n 1, 1) := by decide +kernel
theorem dX10_stock_3 : decode cX10_stock 3 = .ok (.invokevirtual 209, 3) := by decide +kernel
theorem dX10_stock_6 : decode cX10_stock 6 = .ok (.ifCond .ne 7, 3) := by decide +kernel
theorem dX10_stock_9 : decode cX10_stock 9 = .ok (.iconst 1, 1) := by decide +kernel
theorem dX10_stock_10 : decode cX10_stock 10 = .ok (.goto 20, 3) := by decide +kernel
theorem dX10_stock_13 : decode cX10_stock 13 = .ok (.iload_n 2, 1) := by decide +kernel
theorem dX10_stock_14 : decode cX10_stock 14 = .ok (.i2l, 1) := by decide +kernel
theorem dX10_stock_15 : decode cX10_stock 15 = .ok (.lconst 0, 1) := by decide +kernel
theorem dX10_stock_16 : decode cX10_stock 16 = .ok (.ldc2_w 218, 3) := by decide +kernel
theorem dX10_stock_19 : decode cX10_stock 19 = .ok (.invokestatic 62, 3) := by decide +kernel
theorem dX10_stock_22 : decode cX10_stock 22 = .ok (.ifCond .eq 7, 3) := by decide +kernel
theorem dX10_stock_25 : decode cX10_stock 25 = .ok (.iconst 0, 1) := by decide +kernel
theorem dX10_stock_26 : decode cX10_stock 26 = .ok (.goto 4, 3) := by decide +kernel
theorem dX10_stock_29 : decode cX10_stock 29 = .ok (.iconst 2, 1) := by decide +kernel
theorem dX10_stock_30 : decode cX10_stock 30 = .ok (.invokevirtual 127, 3) := by decide +kernel
theorem dX10_stock_33 : decode cX10_stock 33 = .ok (.ifCond .eq 5, 3) := by decide +kernel
theorem dX10_stock_36 : decode cX10_stock 36 = .ok (.iconst 0, 1) := by decide +kernel
theorem dX10_stock_37 : decode cX10_stock 37 = .ok (.ireturn, 1) := by decide +kernel
theorem dX10_stock_38 : decode cX10_stock 38 = .ok (.aload_n 0, 1) := by decide +kernel
theorem dX10_stock_39 : decode cX10_stock 39 = .ok (.getfield 16, 3) := by decide +kernel
theorem dX10_stock_42 : decode cX10_stock 42 = .ok (.iload_n 1, 1) := by decide +kernel
theorem dX10_stock_43 : decode cX10_stock 43 = .ok (.iconst 4, 1) := by decide +kernel
theorem dX10_stock_44 : decode cX10_stock 44 = .ok (.iload_n 2, 1) := by decide +kernel
theorem dX10_stock_45 : decode cX10_stock 45 = .ok (.iadd, 1) := by decide +kernel
theorem dX10_stock_46 : decode cX10_stock 46 = .ok (.invokestatic 52, 3) := by decide +kernel
theorem dX10_stock_49 : decode cX10_stock 49 = .ok (.iaload, 1) := by decide +kernel
theorem dX10_stock_50 : decode cX10_stock 50 = .ok (.ireturn, 1) := by decide +kernel
def bX10_stock_0 (w : ab_W) (s_X10_isStation : ab_S) (s_X10_in : ab_S) (s_X10_refused : ab_S) (s_X10_stationAt : ab_S) (M : Nat → ab_P) (Kn : Option Value → ab_H → Prop) : ab_P := ab_ald 0 (ab_ald 0 (ab_ild 1 (ab_cV w 2 10 s_X10_isStation (ab_if1 (fun x => ¬ x = 0) (ab_ild 2 (ab_i2l (ab_cl (lN 0) (ab_cl (4) (ab_cN w 3 s_X10_in (ab_if1 (fun x => x = 0) (ab_ci (nI 2) (M 30)) (ab_ci (nI 0) (M 30)))))))) (ab_ci (nI 1) (M 30))))))
def bX10_stock_30 (w : ab_W) (s_X10_isStation : ab_S) (s_X10_in : ab_S) (s_X10_refused : ab_S) (s_X10_stationAt : ab_S) (M : Nat → ab_P) (Kn : Option Value → ab_H → Prop) : ab_P := ab_cV w 2 10 s_X10_refused (ab_if1 (fun x => x = 0) (ab_ald 0 (ab_gr w 10 3 (ab_ild 1 (ab_ci (nI 4) (ab_ild 2 (ab_b2 (fun x y => x + y) (ab_cN w 2 s_X10_stationAt (ab_ia w 11 (ab_ir Kn))))))))) (ab_ci (nI 0) (ab_ir Kn)))
set_option maxRecDepth 20000 in
set_option maxHeartbeats 2000000 in
theorem vc_X10_stock {l : Launch} (hl : l.stackTraces = false) {w : ab_W} (hI : ab_Inj w) {mc : Nat} {σ : ab_H} {As : List Value} {Kn : Option Value → ab_H → Prop} {Kx : String → ab_H → Prop} {s_X10_isStation : ab_S} (ok_X10_isStation : ab_OkN l yX10_isStation (Cond.code yX10_isStation cX10_isStation 2 (some .boolean)) 2 s_X10_isStation) {s_X10_in : ab_S} (ok_X10_in : ab_OkN l yX10_in (Cond.code yX10_in cX10_in 6 (some .boolean)) 1 s_X10_in) {s_X10_refused : ab_S} (ok_X10_refused : ab_OkN l yX10_refused (Cond.code yX10_refused cX10_refused 2 (some .boolean)) 1 s_X10_refused) {s_X10_stationAt : ab_S} (ok_X10_stationAt : ab_OkN l yX10_stationAt (Cond.code yX10_stationAt cX10_stationAt 2 (some .int)) 1 s_X10_stationAt) (hlen : (ab_xl As).length ≤ 3) (h : ∀ M : Nat → ab_P, (∀ L st σ, bX10_stock_0 w s_X10_isStation s_X10_in s_X10_refused s_X10_stationAt M Kn L st σ → M 0 L st σ) → (∀ L st σ, bX10_stock_30 w s_X10_isStation s_X10_in s_X10_refused s_X10_stationAt M Kn L st σ → M 30 L st σ) → M 0 (ab_pd 3 (ab_xl As)) [] σ) : ab_Met l yX10_stock (Cond.code yX10_stock cX10_stock 3 (some .int)) 3 mc w σ As Kn Kx := by
  refine ab_enter (by decide) hl hI hlen (by decide) ?_
  intro p e R s m args below meth c C hno hr
  exact h _ (sd_aload_n C (i := 0) dX10_stock_0 rfl (sd_aload_n C (i := 0) dX10_stock_1 rfl (sd_iload_n C (i := 1) dX10_stock_2 rfl (sd_cV C ok_X10_isStation (ci := 10) (row := (RX10, TX10, 15)) rfl rfl ⟨by decide, by decide, wd_1202, wd_11, by decide +kernel⟩ wd_1199 wd_1201 ws_30 dX10_stock_3 (sd_if_ne C dX10_stock_6 (tgt := 13) (by decide) (sd_iload_n C (i := 2) dX10_stock_13 rfl (sd_i2l C dX10_stock_14 (sd_lconst C (x := lN 0) dX10_stock_15 (by decide +kernel) (sd_ldc2 C (x := 4) dX10_stock_16 wd_1216 (sd_cS C ok_X10_in ⟨by decide, by decide, wd_1046, wd_11, by decide +kernel⟩ wd_1044 wd_1045 dX10_stock_19 (sd_if_eq C dX10_stock_22 (tgt := 29) (by decide) (sd_iconst C (x := nI 2) dX10_stock_29 (by decide +kernel) (fun _ _ _ h => h)) (sd_iconst C (x := nI 0) dX10_stock_25 (by decide +kernel) (sd_goto C dX10_stock_26 (tgt := 30) (by decide) (fun _ _ _ h => h))))))))) (sd_iconst C (x := nI 1) dX10_stock_9 (by decide +kernel) (sd_goto C dX10_stock_10 (tgt := 30) (by decide) (fun _ _ _ h => h))))))))
    (sd_cV C ok_X10_refused (ci := 10) (row := (RX10, TX10, 15)) rfl rfl ⟨by decide, by decide, wd_1050, wd_11, by decide +kernel⟩ wd_1047 wd_1049 ws_15 dX10_stock_30 (sd_if_eq C dX10_stock_33 (tgt := 38) (by decide) (sd_aload_n C (i := 0) dX10_stock_38 rfl (sd_gr C (ci := 10) (k := 7) (r := (RX10, TX10, 15)) rfl (by decide) rfl wd_995 dX10_stock_39 (sd_iload_n C (i := 1) dX10_stock_42 rfl (sd_iconst C (x := nI 4) dX10_stock_43 (by decide +kernel) (sd_iload_n C (i := 2) dX10_stock_44 rfl (sd_iadd C dX10_stock_45 (sd_cS C ok_X10_stationAt ⟨by decide, by decide, wd_1097, wd_11, by decide +kernel⟩ wd_1095 wd_1096 dX10_stock_46 (sd_ia C dX10_stock_49 (sd_ir C hr dX10_stock_50))))))))) (sd_iconst C (x := nI 0) dX10_stock_36 (by decide +kernel) (sd_ir C hr dX10_stock_37))))
theorem dX10_finder_0 : decode cX10_finder 0 = .ok (.aload_n 0, 1) := by decide +kernel
theorem dX10_finder_1 : decode cX10_finder 1 = .ok (.iload_n 1, 1) := by decide +kernel
theorem dX10_finder_2 : decode cX10_finder 2 = .ok (.i2l, 1) := by decide +kernel
theorem dX10_finder_3 : decode cX10_finder 3 = .ok (.lconst 0, 1) := by decide +kernel
theorem dX10_finder_4 : decode cX10_finder 4 = .ok (.aload_n 0, 1) := by decide +kernel
theorem dX10_finder_5 : decode cX10_finder 5 = .ok (.getfield 16, 3) := by decide +kernel
theorem dX10_finder_8 : decode cX10_finder 8 = .ok (.iconst 2, 1) := by decide +kernel
theorem dX10_finder_9 : decode cX10_finder 9 = .ok (.iaload, 1) := by decide +kernel
theorem dX10_finder_10 : decode cX10_finder 10 = .ok (.iconst 1, 1) := by decide +kernel
theorem dX10_finder_11 : decode cX10_finder 11 = .ok (.isub, 1) := by decide +kernel
theorem dX10_finder_12 : decode cX10_finder 12 = .ok (.i2l, 1) := by decide +kernel
theorem dX10_finder_13 : decode cX10_finder 13 = .ok (.invokestatic 62, 3) := by decide +kernel
theorem dX10_finder_16 : decode cX10_finder 16 = .ok (.ifCond .ne 7, 3) := by decide +kernel
theorem dX10_finder_19 : decode cX10_finder 19 = .ok (.iconst 1, 1) := by decide +kernel
theorem dX10_finder_20 : decode cX10_finder 20 = .ok (.goto 20, 3) := by decide +kernel
theorem dX10_finder_23 : decode cX10_finder 23 = .ok (.iload_n 2, 1) := by decide +kernel
theorem dX10_finder_24 : decode cX10_finder 24 = .ok (.i2l, 1) := by decide +kernel
theorem dX10_finder_25 : decode cX10_finder 25 = .ok (.lconst 0, 1) := by decide +kernel
theorem dX10_finder_26 : decode cX10_finder 26 = .ok (.ldc2_w 218, 3) := by decide +kernel
theorem dX10_finder_29 : decode cX10_finder 29 = .ok (.invokestatic 62, 3) := by decide +kernel
theorem dX10_finder_32 : decode cX10_finder 32 = .ok (.ifCond .eq 7, 3) := by decide +kernel
theorem dX10_finder_35 : decode cX10_finder 35 = .ok (.iconst 0, 1) := by decide +kernel
theorem dX10_finder_36 : decode cX10_finder 36 = .ok (.goto 4, 3) := by decide +kernel
theorem dX10_finder_39 : decode cX10_finder 39 = .ok (.iconst 2, 1) := by decide +kernel
theorem dX10_finder_40 : decode cX10_finder 40 = .ok (.invokevirtual 127, 3) := by decide +kernel
theorem dX10_finder_43 : decode cX10_finder 43 = .ok (.ifCond .eq 5, 3) := by decide +kernel
theorem dX10_finder_46 : decode cX10_finder 46 = .ok (.iconst 0, 1) := by decide +kernel
theorem dX10_finder_47 : decode cX10_finder 47 = .ok (.ireturn, 1) := by decide +kernel
theorem dX10_finder_48 : decode cX10_finder 48 = .ok (.iload_n 2, 1) := by decide +kernel
theorem dX10_finder_49 : decode cX10_finder 49 = .ok (.iconst 4, 1) := by decide +kernel
theorem dX10_finder_50 : decode cX10_finder 50 = .ok (.if_icmp .ge 16, 3) := by decide +kernel
theorem dX10_finder_53 : decode cX10_finder 53 = .ok (.aload_n 0, 1) := by decide +kernel
theorem dX10_finder_54 : decode cX10_finder 54 = .ok (.getfield 16, 3) := by decide +kernel
theorem dX10_finder_57 : decode cX10_finder 57 = .ok (.iload_n 1, 1) := by decide +kernel
theorem dX10_finder_58 : decode cX10_finder 58 = .ok (.iload_n 2, 1) := by decide +kernel
theorem dX10_finder_59 : decode cX10_finder 59 = .ok (.invokestatic 66, 3) := by decide +kernel
theorem dX10_finder_62 : decode cX10_finder 62 = .ok (.iaload, 1) := by decide +kernel
theorem dX10_finder_63 : decode cX10_finder 63 = .ok (.goto 11, 3) := by decide +kernel
theorem dX10_finder_66 : decode cX10_finder 66 = .ok (.aload_n 0, 1) := by decide +kernel
theorem dX10_finder_67 : decode cX10_finder 67 = .ok (.getfield 16, 3) := by decide +kernel
theorem dX10_finder_70 : decode cX10_finder 70 = .ok (.iload_n 1, 1) := by decide +kernel
theorem dX10_finder_71 : decode cX10_finder 71 = .ok (.invokestatic 96, 3) := by decide +kernel
theorem dX10_finder_74 : decode cX10_finder 74 = .ok (.ireturn, 1) := by decide +kernel
def bX10_finder_0 (w : ab_W) (s_X10_in : ab_S) (s_X10_refused : ab_S) (s_X10_stationOf : ab_S) (s_X10_finderAt : ab_S) (M : Nat → ab_P) (Kn : Option Value → ab_H → Prop) : ab_P := ab_ald 0 (ab_ild 1 (ab_i2l (ab_cl (lN 0) (ab_ald 0 (ab_gr w 10 3 (ab_ci (nI 2) (ab_ia w 11 (ab_ci (nI 1) (ab_b2 (fun x y => x - y) (ab_i2l (ab_cN w 3 s_X10_in (ab_if1 (fun x => ¬ x = 0) (ab_ild 2 (ab_i2l (ab_cl (lN 0) (ab_cl (4) (ab_cN w 3 s_X10_in (ab_if1 (fun x => x = 0) (ab_ci (nI 2) (M 40)) (ab_ci (nI 0) (M 40)))))))) (ab_ci (nI 1) (M 40))))))))))))))
def bX10_finder_40 (w : ab_W) (s_X10_in : ab_S) (s_X10_refused : ab_S) (s_X10_stationOf : ab_S) (s_X10_finderAt : ab_S) (M : Nat → ab_P) (Kn : Option Value → ab_H → Prop) : ab_P := ab_cV w 2 10 s_X10_refused (ab_if1 (fun x => x = 0) (ab_ild 2 (ab_ci (nI 4) (ab_if2 (fun x y => y ≤ x) (ab_ald 0 (ab_gr w 10 3 (ab_ild 1 (ab_cN w 2 s_X10_stationOf (M 74))))) (ab_ald 0 (ab_gr w 10 3 (ab_ild 1 (ab_ild 2 (ab_cN w 2 s_X10_finderAt (ab_ia w 11 (M 74)))))))))) (ab_ci (nI 0) (ab_ir Kn)))
def bX10_finder_74 (w : ab_W) (s_X10_in : ab_S) (s_X10_refused : ab_S) (s_X10_stationOf : ab_S) (s_X10_finderAt : ab_S) (M : Nat → ab_P) (Kn : Option Value → ab_H → Prop) : ab_P := ab_ir Kn
set_option maxRecDepth 20000 in
set_option maxHeartbeats 2000000 in
theorem vc_X10_finder {l : Launch} (hl : l.stackTraces = false) {w : ab_W} (hI : ab_Inj w) {mc : Nat} {σ : ab_H} {As : List Value} {Kn : Option Value → ab_H → Prop} {Kx : String → ab_H → Prop} {s_X10_in : ab_S} (ok_X10_in : ab_OkN l yX10_in (Cond.code yX10_in cX10_in 6 (some .boolean)) 1 s_X10_in) {s_X10_refused : ab_S} (ok_X10_refused : ab_OkN l yX10_refused (Cond.code yX10_refused cX10_refused 2 (some .boolean)) 1 s_X10_refused) {s_X10_stationOf : ab_S} (ok_X10_stationOf : ab_OkN l yX10_stationOf (Cond.code yX10_stationOf cX10_stationOf 5 (some .int)) 2 s_X10_stationOf) {s_X10_finderAt : ab_S} (ok_X10_finderAt : ab_OkN l yX10_finderAt (Cond.code yX10_finderAt cX10_finderAt 2 (some .int)) 1 s_X10_finderAt) (hlen : (ab_xl As).length ≤ 3) (h : ∀ M : Nat → ab_P, (∀ L st σ, bX10_finder_0 w s_X10_in s_X10_refused s_X10_stationOf s_X10_finderAt M Kn L st σ → M 0 L st σ) → (∀ L st σ, bX10_finder_40 w s_X10_in s_X10_refused s_X10_stationOf s_X10_finderAt M Kn L st σ → M 40 L st σ) → (∀ L st σ, bX10_finder_74 w s_X10_in s_X10_refused s_X10_stationOf s_X10_finderAt M Kn L st σ → M 74 L st σ) → M 0 (ab_pd 3 (ab_xl As)) [] σ) : ab_Met l yX10_finder (Cond.code yX10_finder cX10_finder 3 (some .int)) 3 mc w σ As Kn Kx := by
  refine ab_enter (by decide) hl hI hlen (by decide) ?_
  intro p e R s m args below meth c C hno hr
  exact h _ (sd_aload_n C (i := 0) dX10_finder_0 rfl (sd_iload_n C (i := 1) dX10_finder_1 rfl (sd_i2l C dX10_finder_2 (sd_lconst C (x := lN 0) dX10_finder_3 (by decide +kernel) (sd_aload_n C (i := 0) dX10_finder_4 rfl (sd_gr C (ci := 10) (k := 7) (r := (RX10, TX10, 15)) rfl (by decide) rfl wd_995 dX10_finder_5 (sd_iconst C (x := nI 2) dX10_finder_8 (by decide +kernel) (sd_ia C dX10_finder_9 (sd_iconst C (x := nI 1) dX10_finder_10 (by decide +kernel) (sd_isub C dX10_finder_11 (sd_i2l C dX10_finder_12 (sd_cS C ok_X10_in ⟨by decide, by decide, wd_1046, wd_11, by decide +kernel⟩ wd_1044 wd_1045 dX10_finder_13 (sd_if_ne C dX10_finder_16 (tgt := 23) (by decide) (sd_iload_n C (i := 2) dX10_finder_23 rfl (sd_i2l C dX10_finder_24 (sd_lconst C (x := lN 0) dX10_finder_25 (by decide +kernel) (sd_ldc2 C (x := 4) dX10_finder_26 wd_1216 (sd_cS C ok_X10_in ⟨by decide, by decide, wd_1046, wd_11, by decide +kernel⟩ wd_1044 wd_1045 dX10_finder_29 (sd_if_eq C dX10_finder_32 (tgt := 39) (by decide) (sd_iconst C (x := nI 2) dX10_finder_39 (by decide +kernel) (fun _ _ _ h => h)) (sd_iconst C (x := nI 0) dX10_finder_35 (by decide +kernel) (sd_goto C dX10_finder_36 (tgt := 40) (by decide) (fun _ _ _ h => h))))))))) (sd_iconst C (x := nI 1) dX10_finder_19 (by decide +kernel) (sd_goto C dX10_finder_20 (tgt := 40) (by decide) (fun _ _ _ h => h))))))))))))))))
    (sd_cV C ok_X10_refused (ci := 10) (row := (RX10, TX10, 15)) rfl rfl ⟨by decide, by decide, wd_1050, wd_11, by decide +kernel⟩ wd_1047 wd_1049 ws_15 dX10_finder_40 (sd_if_eq C dX10_finder_43 (tgt := 48) (by decide) (sd_iload_n C (i := 2) dX10_finder_48 rfl (sd_iconst C (x := nI 4) dX10_finder_49 (by decide +kernel) (sd_icmp_ge C dX10_finder_50 (tgt := 66) (by decide) (sd_aload_n C (i := 0) dX10_finder_66 rfl (sd_gr C (ci := 10) (k := 7) (r := (RX10, TX10, 15)) rfl (by decide) rfl wd_995 dX10_finder_67 (sd_iload_n C (i := 1) dX10_finder_70 rfl (sd_cS C ok_X10_stationOf ⟨by decide, by decide, wd_1173, wd_11, by decide +kernel⟩ wd_1171 wd_1172 dX10_finder_71 (fun _ _ _ h => h))))) (sd_aload_n C (i := 0) dX10_finder_53 rfl (sd_gr C (ci := 10) (k := 7) (r := (RX10, TX10, 15)) rfl (by decide) rfl wd_995 dX10_finder_54 (sd_iload_n C (i := 1) dX10_finder_57 rfl (sd_iload_n C (i := 2) dX10_finder_58 rfl (sd_cS C ok_X10_finderAt ⟨by decide, by decide, wd_1107, wd_11, by decide +kernel⟩ wd_1105 wd_1106 dX10_finder_59 (sd_ia C dX10_finder_62 (sd_goto C dX10_finder_63 (tgt := 74) (by decide) (fun _ _ _ h => h))))))))))) (sd_iconst C (x := nI 0) dX10_finder_46 (by decide +kernel) (sd_ir C hr dX10_finder_47))))
    (sd_ir C hr dX10_finder_74)
theorem dX10_back_0 : decode cX10_back 0 = .ok (.aload_n 0, 1) := by decide +kernel
theorem dX10_back_1 : decode cX10_back 1 = .ok (.iload_n 1, 1) := by decide +kernel
theorem dX10_back_2 : decode cX10_back 2 = .ok (.ifCond .lt 19, 3) := by decide +kernel
theorem dX10_back_5 : decode cX10_back 5 = .ok (.iload_n 2, 1) := by decide +kernel
theorem dX10_back_6 : decode cX10_back 6 = .ok (.i2l, 1) := by decide +kernel
theorem dX10_back_7 : decode cX10_back 7 = .ok (.lconst 0, 1) := by decide +kernel
theorem dX10_back_8 : decode cX10_back 8 = .ok (.ldc2_w 220, 3) := by decide +kernel
theorem dX10_back_11 : decode cX10_back 11 = .ok (.invokestatic 62, 3) := by decide +kernel
theorem dX10_back_14 : decode cX10_back 14 = .ok (.ifCond .eq 7, 3) := by decide +kernel
theorem dX10_back_17 : decode cX10_back 17 = .ok (.iconst 0, 1) := by decide +kernel
theorem dX10_back_18 : decode cX10_back 18 = .ok (.goto 4, 3) := by decide +kernel
theorem dX10_back_21 : decode cX10_back 21 = .ok (.iconst 1, 1) := by decide +kernel
theorem dX10_back_22 : decode cX10_back 22 = .ok (.invokevirtual 127, 3) := by decide +kernel
theorem dX10_back_25 : decode cX10_back 25 = .ok (.ifCond .eq 5, 3) := by decide +kernel
theorem dX10_back_28 : decode cX10_back 28 = .ok (.iconst 0, 1) := by decide +kernel
theorem dX10_back_29 : decode cX10_back 29 = .ok (.ireturn, 1) := by decide +kernel
theorem dX10_back_30 : decode cX10_back 30 = .ok (.iload_n 1, 1) := by decide +kernel
theorem dX10_back_31 : decode cX10_back 31 = .ok (.aload_n 0, 1) := by decide +kernel
theorem dX10_back_32 : decode cX10_back 32 = .ok (.getfield 16, 3) := by decide +kernel
theorem dX10_back_35 : decode cX10_back 35 = .ok (.bipush 9, 2) := by decide +kernel
theorem dX10_back_37 : decode cX10_back 37 = .ok (.iaload, 1) := by decide +kernel
theorem dX10_back_38 : decode cX10_back 38 = .ok (.if_icmp .lt 5, 3) := by decide +kernel
theorem dX10_back_41 : decode cX10_back 41 = .ok (.iconst (-1), 1) := by decide +kernel
theorem dX10_back_42 : decode cX10_back 42 = .ok (.ireturn, 1) := by decide +kernel
theorem dX10_back_43 : decode cX10_back 43 = .ok (.aload_n 0, 1) := by decide +kernel
theorem dX10_back_44 : decode cX10_back 44 = .ok (.getfield 16, 3) := by decide +kernel
theorem dX10_back_47 : decode cX10_back 47 = .ok (.sipush 144, 3) := by decide +kernel
theorem dX10_back_50 : decode cX10_back 50 = .ok (.iload_n 1, 1) := by decide +kernel
theorem dX10_back_51 : decode cX10_back 51 = .ok (.iadd, 1) := by decide +kernel
theorem dX10_back_52 : decode cX10_back 52 = .ok (.iaload, 1) := by decide +kernel
theorem dX10_back_53 : decode cX10_back 53 = .ok (.istore_n 3, 1) := by decide +kernel
theorem dX10_back_54 : decode cX10_back 54 = .ok (.iload_n 2, 1) := by decide +kernel
theorem dX10_back_55 : decode cX10_back 55 = .ok (.ifCond .ne 10, 3) := by decide +kernel
theorem dX10_back_58 : decode cX10_back 58 = .ok (.iload_n 3, 1) := by decide +kernel
theorem dX10_back_59 : decode cX10_back 59 = .ok (.bipush 100, 2) := by decide +kernel
theorem dX10_back_61 : decode cX10_back 61 = .ok (.idiv, 1) := by decide +kernel
theorem dX10_back_62 : decode cX10_back 62 = .ok (.goto 22, 3) := by decide +kernel
theorem dX10_back_65 : decode cX10_back 65 = .ok (.iload_n 2, 1) := by decide +kernel
theorem dX10_back_66 : decode cX10_back 66 = .ok (.iconst 1, 1) := by decide +kernel
theorem dX10_back_67 : decode cX10_back 67 = .ok (.if_icmp .ne 13, 3) := by decide +kernel
theorem dX10_back_70 : decode cX10_back 70 = .ok (.iload_n 3, 1) := by decide +kernel
theorem dX10_back_71 : decode cX10_back 71 = .ok (.bipush 10, 2) := by decide +kernel
theorem dX10_back_73 : decode cX10_back 73 = .ok (.idiv, 1) := by decide +kernel
theorem dX10_back_74 : decode cX10_back 74 = .ok (.bipush 10, 2) := by decide +kernel
theorem dX10_back_76 : decode cX10_back 76 = .ok (.irem, 1) := by decide +kernel
theorem dX10_back_77 : decode cX10_back 77 = .ok (.goto 7, 3) := by decide +kernel
theorem dX10_back_80 : decode cX10_back 80 = .ok (.iload_n 3, 1) := by decide +kernel
theorem dX10_back_81 : decode cX10_back 81 = .ok (.bipush 10, 2) := by decide +kernel
theorem dX10_back_83 : decode cX10_back 83 = .ok (.irem, 1) := by decide +kernel
theorem dX10_back_84 : decode cX10_back 84 = .ok (.ireturn, 1) := by decide +kernel
def bX10_back_0 (w : ab_W) (s_X10_in : ab_S) (s_X10_refused : ab_S) (M : Nat → ab_P) (Kn : Option Value → ab_H → Prop) : ab_P := ab_ald 0 (ab_ild 1 (ab_if1 (fun x => x < 0) (M 21) (ab_ild 2 (ab_i2l (ab_cl (lN 0) (ab_cl (2) (ab_cN w 3 s_X10_in (ab_if1 (fun x => x = 0) (M 21) (ab_ci (nI 0) (M 22))))))))))
def bX10_back_21 (w : ab_W) (s_X10_in : ab_S) (s_X10_refused : ab_S) (M : Nat → ab_P) (Kn : Option Value → ab_H → Prop) : ab_P := ab_ci (nI 1) (M 22)
def bX10_back_22 (w : ab_W) (s_X10_in : ab_S) (s_X10_refused : ab_S) (M : Nat → ab_P) (Kn : Option Value → ab_H → Prop) : ab_P := ab_cV w 2 10 s_X10_refused (ab_if1 (fun x => x = 0) (ab_ild 1 (ab_ald 0 (ab_gr w 10 3 (ab_ci (nI 9) (ab_ia w 11 (ab_if2 (fun x y => x < y) (ab_ald 0 (ab_gr w 10 3 (ab_ci (nI 144) (ab_ild 1 (ab_b2 (fun x y => x + y) (ab_ia w 11 (ab_ist 3 (ab_ild 2 (ab_if1 (fun x => ¬ x = 0) (ab_ild 2 (ab_ci (nI 1) (ab_if2 (fun x y => ¬ x = y) (ab_ild 3 (ab_ci (nI 10) (ab_d2 (fun x y => x - x / y * y) (M 84)))) (ab_ild 3 (ab_ci (nI 10) (ab_d2 (fun x y => x / y) (ab_ci (nI 10) (ab_d2 (fun x y => x - x / y * y) (M 84))))))))) (ab_ild 3 (ab_ci (nI 100) (ab_d2 (fun x y => x / y) (M 84))))))))))))) (ab_ci (-1) (ab_ir Kn)))))))) (ab_ci (nI 0) (ab_ir Kn)))
def bX10_back_84 (w : ab_W) (s_X10_in : ab_S) (s_X10_refused : ab_S) (M : Nat → ab_P) (Kn : Option Value → ab_H → Prop) : ab_P := ab_ir Kn
set_option maxRecDepth 20000 in
set_option maxHeartbeats 2000000 in
theorem vc_X10_back {l : Launch} (hl : l.stackTraces = false) {w : ab_W} (hI : ab_Inj w) {mc : Nat} {σ : ab_H} {As : List Value} {Kn : Option Value → ab_H → Prop} {Kx : String → ab_H → Prop} {s_X10_in : ab_S} (ok_X10_in : ab_OkN l yX10_in (Cond.code yX10_in cX10_in 6 (some .boolean)) 1 s_X10_in) {s_X10_refused : ab_S} (ok_X10_refused : ab_OkN l yX10_refused (Cond.code yX10_refused cX10_refused 2 (some .boolean)) 1 s_X10_refused) (hlen : (ab_xl As).length ≤ 4) (h : ∀ M : Nat → ab_P, (∀ L st σ, bX10_back_0 w s_X10_in s_X10_refused M Kn L st σ → M 0 L st σ) → (∀ L st σ, bX10_back_21 w s_X10_in s_X10_refused M Kn L st σ → M 21 L st σ) → (∀ L st σ, bX10_back_22 w s_X10_in s_X10_refused M Kn L st σ → M 22 L st σ) → (∀ L st σ, bX10_back_84 w s_X10_in s_X10_refused M Kn L st σ → M 84 L st σ) → M 0 (ab_pd 4 (ab_xl As)) [] σ) : ab_Met l yX10_back (Cond.code yX10_back cX10_back 4 (some .int)) 2 mc w σ As Kn Kx := by
  refine ab_enter (by decide) hl hI hlen (by decide) ?_
  intro p e R s m args below meth c C hno hr
  exact h _ (sd_aload_n C (i := 0) dX10_back_0 rfl (sd_iload_n C (i := 1) dX10_back_1 rfl (sd_if_lt C dX10_back_2 (tgt := 21) (by decide) (fun _ _ _ h => h) (sd_iload_n C (i := 2) dX10_back_5 rfl (sd_i2l C dX10_back_6 (sd_lconst C (x := lN 0) dX10_back_7 (by decide +kernel) (sd_ldc2 C (x := 2) dX10_back_8 wd_1225 (sd_cS C ok_X10_in ⟨by decide, by decide, wd_1046, wd_11, by decide +kernel⟩ wd_1044 wd_1045 dX10_back_11 (sd_if_eq C dX10_back_14 (tgt := 21) (by decide) (fun _ _ _ h => h) (sd_iconst C (x := nI 0) dX10_back_17 (by decide +kernel) (sd_goto C dX10_back_18 (tgt := 22) (by decide) (fun _ _ _ h => h))))))))))))
    (sd_iconst C (x := nI 1) dX10_back_21 (by decide +kernel) (fun _ _ _ h => h))
    (sd_cV C ok_X10_refused (ci := 10) (row := (RX10, TX10, 15)) rfl rfl ⟨by decide, by decide, wd_1050, wd_11, by decide +kernel⟩ wd_1047 wd_1049 ws_15 dX10_back_22 (sd_if_eq C dX10_back_25 (tgt := 30) (by decide) (sd_iload_n C (i := 1) dX10_back_30 rfl (sd_aload_n C (i := 0) dX10_back_31 rfl (sd_gr C (ci := 10) (k := 7) (r := (RX10, TX10, 15)) rfl (by decide) rfl wd_995 dX10_back_32 (sd_bipush C (x := nI 9) dX10_back_35 (by decide +kernel) (sd_ia C dX10_back_37 (sd_icmp_lt C dX10_back_38 (tgt := 43) (by decide) (sd_aload_n C (i := 0) dX10_back_43 rfl (sd_gr C (ci := 10) (k := 7) (r := (RX10, TX10, 15)) rfl (by decide) rfl wd_995 dX10_back_44 (sd_sipush C (x := nI 144) dX10_back_47 (by decide +kernel) (sd_iload_n C (i := 1) dX10_back_50 rfl (sd_iadd C dX10_back_51 (sd_ia C dX10_back_52 (sd_istore_n C (i := 3) dX10_back_53 rfl (by decide) (sd_iload_n C (i := 2) dX10_back_54 rfl (sd_if_ne C dX10_back_55 (tgt := 65) (by decide) (sd_iload_n C (i := 2) dX10_back_65 rfl (sd_iconst C (x := nI 1) dX10_back_66 (by decide +kernel) (sd_icmp_ne C dX10_back_67 (tgt := 80) (by decide) (sd_iload_n C (i := 3) dX10_back_80 rfl (sd_bipush C (x := nI 10) dX10_back_81 (by decide +kernel) (sd_irem C dX10_back_83 (fun _ _ _ h => h)))) (sd_iload_n C (i := 3) dX10_back_70 rfl (sd_bipush C (x := nI 10) dX10_back_71 (by decide +kernel) (sd_idiv C dX10_back_73 (sd_bipush C (x := nI 10) dX10_back_74 (by decide +kernel) (sd_irem C dX10_back_76 (sd_goto C dX10_back_77 (tgt := 84) (by decide) (fun _ _ _ h => h)))))))))) (sd_iload_n C (i := 3) dX10_back_58 rfl (sd_bipush C (x := nI 100) dX10_back_59 (by decide +kernel) (sd_idiv C dX10_back_61 (sd_goto C dX10_back_62 (tgt := 84) (by decide) (fun _ _ _ h => h)))))))))))))) (sd_iconst C (x := -1) dX10_back_41 (by decide +kernel) (sd_ir C hr dX10_back_42)))))))) (sd_iconst C (x := nI 0) dX10_back_28 (by decide +kernel) (sd_ir C hr dX10_back_29))))
    (sd_ir C hr dX10_back_84)
theorem dX10_gap_0 : decode cX10_gap 0 = .ok (.aload_n 0, 1) := by decide +kernel
theorem dX10_gap_1 : decode cX10_gap 1 = .ok (.iload_n 1, 1) := by decide +kernel
theorem dX10_gap_2 : decode cX10_gap 2 = .ok (.ifCond .lt 19, 3) := by decide +kernel
theorem dX10_gap_5 : decode cX10_gap 5 = .ok (.iload_n 2, 1) := by decide +kernel
theorem dX10_gap_6 : decode cX10_gap 6 = .ok (.i2l, 1) := by decide +kernel
theorem dX10_gap_7 : decode cX10_gap 7 = .ok (.lconst 0, 1) := by decide +kernel
theorem dX10_gap_8 : decode cX10_gap 8 = .ok (.ldc2_w 220, 3) := by decide +kernel
theorem dX10_gap_11 : decode cX10_gap 11 = .ok (.invokestatic 62, 3) := by decide +kernel
theorem dX10_gap_14 : decode cX10_gap 14 = .ok (.ifCond .eq 7, 3) := by decide +kernel
theorem dX10_gap_17 : decode cX10_gap 17 = .ok (.iconst 0, 1) := by decide +kernel
theorem dX10_gap_18 : decode cX10_gap 18 = .ok (.goto 4, 3) := by decide +kernel
theorem dX10_gap_21 : decode cX10_gap 21 = .ok (.iconst 1, 1) := by decide +kernel
theorem dX10_gap_22 : decode cX10_gap 22 = .ok (.invokevirtual 127, 3) := by decide +kernel
theorem dX10_gap_25 : decode cX10_gap 25 = .ok (.ifCond .eq 5, 3) := by decide +kernel
theorem dX10_gap_28 : decode cX10_gap 28 = .ok (.iconst 0, 1) := by decide +kernel
theorem dX10_gap_29 : decode cX10_gap 29 = .ok (.ireturn, 1) := by decide +kernel
theorem dX10_gap_30 : decode cX10_gap 30 = .ok (.iload_n 1, 1) := by decide +kernel
theorem dX10_gap_31 : decode cX10_gap 31 = .ok (.aload_n 0, 1) := by decide +kernel
theorem dX10_gap_32 : decode cX10_gap 32 = .ok (.getfield 16, 3) := by decide +kernel
theorem dX10_gap_35 : decode cX10_gap 35 = .ok (.bipush 11, 2) := by decide +kernel
theorem dX10_gap_37 : decode cX10_gap 37 = .ok (.iaload, 1) := by decide +kernel
theorem dX10_gap_38 : decode cX10_gap 38 = .ok (.if_icmp .lt 5, 3) := by decide +kernel
theorem dX10_gap_41 : decode cX10_gap 41 = .ok (.iconst (-1), 1) := by decide +kernel
theorem dX10_gap_42 : decode cX10_gap 42 = .ok (.ireturn, 1) := by decide +kernel
theorem dX10_gap_43 : decode cX10_gap 43 = .ok (.aload_n 0, 1) := by decide +kernel
theorem dX10_gap_44 : decode cX10_gap 44 = .ok (.getfield 16, 3) := by decide +kernel
theorem dX10_gap_47 : decode cX10_gap 47 = .ok (.sipush 132, 3) := by decide +kernel
theorem dX10_gap_50 : decode cX10_gap 50 = .ok (.aload_n 0, 1) := by decide +kernel
theorem dX10_gap_51 : decode cX10_gap 51 = .ok (.getfield 16, 3) := by decide +kernel
theorem dX10_gap_54 : decode cX10_gap 54 = .ok (.bipush 11, 2) := by decide +kernel
theorem dX10_gap_56 : decode cX10_gap 56 = .ok (.iaload, 1) := by decide +kernel
theorem dX10_gap_57 : decode cX10_gap 57 = .ok (.iadd, 1) := by decide +kernel
theorem dX10_gap_58 : decode cX10_gap 58 = .ok (.iconst 1, 1) := by decide +kernel
theorem dX10_gap_59 : decode cX10_gap 59 = .ok (.isub, 1) := by decide +kernel
theorem dX10_gap_60 : decode cX10_gap 60 = .ok (.iload_n 1, 1) := by decide +kernel
theorem dX10_gap_61 : decode cX10_gap 61 = .ok (.isub, 1) := by decide +kernel
theorem dX10_gap_62 : decode cX10_gap 62 = .ok (.iaload, 1) := by decide +kernel
theorem dX10_gap_63 : decode cX10_gap 63 = .ok (.istore_n 3, 1) := by decide +kernel
theorem dX10_gap_64 : decode cX10_gap 64 = .ok (.iload_n 2, 1) := by decide +kernel
theorem dX10_gap_65 : decode cX10_gap 65 = .ok (.ifCond .ne 10, 3) := by decide +kernel
theorem dX10_gap_68 : decode cX10_gap 68 = .ok (.iload_n 3, 1) := by decide +kernel
theorem dX10_gap_69 : decode cX10_gap 69 = .ok (.bipush 100, 2) := by decide +kernel
theorem dX10_gap_71 : decode cX10_gap 71 = .ok (.idiv, 1) := by decide +kernel
theorem dX10_gap_72 : decode cX10_gap 72 = .ok (.goto 22, 3) := by decide +kernel
theorem dX10_gap_75 : decode cX10_gap 75 = .ok (.iload_n 2, 1) := by decide +kernel
theorem dX10_gap_76 : decode cX10_gap 76 = .ok (.iconst 1, 1) := by decide +kernel
theorem dX10_gap_77 : decode cX10_gap 77 = .ok (.if_icmp .ne 13, 3) := by decide +kernel
theorem dX10_gap_80 : decode cX10_gap 80 = .ok (.iload_n 3, 1) := by decide +kernel
theorem dX10_gap_81 : decode cX10_gap 81 = .ok (.bipush 10, 2) := by decide +kernel
theorem dX10_gap_83 : decode cX10_gap 83 = .ok (.idiv, 1) := by decide +kernel
theorem dX10_gap_84 : decode cX10_gap 84 = .ok (.bipush 10, 2) := by decide +kernel
theorem dX10_gap_86 : decode cX10_gap 86 = .ok (.irem, 1) := by decide +kernel
theorem dX10_gap_87 : decode cX10_gap 87 = .ok (.goto 7, 3) := by decide +kernel
theorem dX10_gap_90 : decode cX10_gap 90 = .ok (.iload_n 3, 1) := by decide +kernel
theorem dX10_gap_91 : decode cX10_gap 91 = .ok (.bipush 10, 2) := by decide +kernel
theorem dX10_gap_93 : decode cX10_gap 93 = .ok (.irem, 1) := by decide +kernel
theorem dX10_gap_94 : decode cX10_gap 94 = .ok (.ireturn, 1) := by decide +kernel
def bX10_gap_0 (w : ab_W) (s_X10_in : ab_S) (s_X10_refused : ab_S) (M : Nat → ab_P) (Kn : Option Value → ab_H → Prop) : ab_P := ab_ald 0 (ab_ild 1 (ab_if1 (fun x => x < 0) (M 21) (ab_ild 2 (ab_i2l (ab_cl (lN 0) (ab_cl (2) (ab_cN w 3 s_X10_in (ab_if1 (fun x => x = 0) (M 21) (ab_ci (nI 0) (M 22))))))))))
def bX10_gap_21 (w : ab_W) (s_X10_in : ab_S) (s_X10_refused : ab_S) (M : Nat → ab_P) (Kn : Option Value → ab_H → Prop) : ab_P := ab_ci (nI 1) (M 22)
def bX10_gap_22 (w : ab_W) (s_X10_in : ab_S) (s_X10_refused : ab_S) (M : Nat → ab_P) (Kn : Option Value → ab_H → Prop) : ab_P := ab_cV w 2 10 s_X10_refused (ab_if1 (fun x => x = 0) (ab_ild 1 (ab_ald 0 (ab_gr w 10 3 (ab_ci (nI 11) (ab_ia w 11 (ab_if2 (fun x y => x < y) (ab_ald 0 (ab_gr w 10 3 (ab_ci (nI 132) (ab_ald 0 (ab_gr w 10 3 (ab_ci (nI 11) (ab_ia w 11 (ab_b2 (fun x y => x + y) (ab_ci (nI 1) (ab_b2 (fun x y => x - y) (ab_ild 1 (ab_b2 (fun x y => x - y) (ab_ia w 11 (ab_ist 3 (ab_ild 2 (ab_if1 (fun x => ¬ x = 0) (ab_ild 2 (ab_ci (nI 1) (ab_if2 (fun x y => ¬ x = y) (ab_ild 3 (ab_ci (nI 10) (ab_d2 (fun x y => x - x / y * y) (M 94)))) (ab_ild 3 (ab_ci (nI 10) (ab_d2 (fun x y => x / y) (ab_ci (nI 10) (ab_d2 (fun x y => x - x / y * y) (M 94))))))))) (ab_ild 3 (ab_ci (nI 100) (ab_d2 (fun x y => x / y) (M 94)))))))))))))))))))) (ab_ci (-1) (ab_ir Kn)))))))) (ab_ci (nI 0) (ab_ir Kn)))
def bX10_gap_94 (w : ab_W) (s_X10_in : ab_S) (s_X10_refused : ab_S) (M : Nat → ab_P) (Kn : Option Value → ab_H → Prop) : ab_P := ab_ir Kn
set_option maxRecDepth 20000 in
set_option maxHeartbeats 2000000 in
theorem vc_X10_gap {l : Launch} (hl : l.stackTraces = false) {w : ab_W} (hI : ab_Inj w) {mc : Nat} {σ : ab_H} {As : List Value} {Kn : Option Value → ab_H → Prop} {Kx : String → ab_H → Prop} {s_X10_in : ab_S} (ok_X10_in : ab_OkN l yX10_in (Cond.code yX10_in cX10_in 6 (some .boolean)) 1 s_X10_in) {s_X10_refused : ab_S} (ok_X10_refused : ab_OkN l yX10_refused (Cond.code yX10_refused cX10_refused 2 (some .boolean)) 1 s_X10_refused) (hlen : (ab_xl As).length ≤ 4) (h : ∀ M : Nat → ab_P, (∀ L st σ, bX10_gap_0 w s_X10_in s_X10_refused M Kn L st σ → M 0 L st σ) → (∀ L st σ, bX10_gap_21 w s_X10_in s_X10_refused M Kn L st σ → M 21 L st σ) → (∀ L st σ, bX10_gap_22 w s_X10_in s_X10_refused M Kn L st σ → M 22 L st σ) → (∀ L st σ, bX10_gap_94 w s_X10_in s_X10_refused M Kn L st σ → M 94 L st σ) → M 0 (ab_pd 4 (ab_xl As)) [] σ) : ab_Met l yX10_gap (Cond.code yX10_gap cX10_gap 4 (some .int)) 2 mc w σ As Kn Kx := by
  refine ab_enter (by decide) hl hI hlen (by decide) ?_
  intro p e R s m args below meth c C hno hr
  exact h _ (sd_aload_n C (i := 0) dX10_gap_0 rfl (sd_iload_n C (i := 1) dX10_gap_1 rfl (sd_if_lt C dX10_gap_2 (tgt := 21) (by decide) (fun _ _ _ h => h) (sd_iload_n C (i := 2) dX10_gap_5 rfl (sd_i2l C dX10_gap_6 (sd_lconst C (x := lN 0) dX10_gap_7 (by decide +kernel) (sd_ldc2 C (x := 2) dX10_gap_8 wd_1225 (sd_cS C ok_X10_in ⟨by decide, by decide, wd_1046, wd_11, by decide +kernel⟩ wd_1044 wd_1045 dX10_gap_11 (sd_if_eq C dX10_gap_14 (tgt := 21) (by decide) (fun _ _ _ h => h) (sd_iconst C (x := nI 0) dX10_gap_17 (by decide +kernel) (sd_goto C dX10_gap_18 (tgt := 22) (by decide) (fun _ _ _ h => h))))))))))))
    (sd_iconst C (x := nI 1) dX10_gap_21 (by decide +kernel) (fun _ _ _ h => h))
    (sd_cV C ok_X10_refused (ci := 10) (row := (RX10, TX10, 15)) rfl rfl ⟨by decide, by decide, wd_1050, wd_11, by decide +kernel⟩ wd_1047 wd_1049 ws_15 dX10_gap_22 (sd_if_eq C dX10_gap_25 (tgt := 30) (by decide) (sd_iload_n C (i := 1) dX10_gap_30 rfl (sd_aload_n C (i := 0) dX10_gap_31 rfl (sd_gr C (ci := 10) (k := 7) (r := (RX10, TX10, 15)) rfl (by decide) rfl wd_995 dX10_gap_32 (sd_bipush C (x := nI 11) dX10_gap_35 (by decide +kernel) (sd_ia C dX10_gap_37 (sd_icmp_lt C dX10_gap_38 (tgt := 43) (by decide) (sd_aload_n C (i := 0) dX10_gap_43 rfl (sd_gr C (ci := 10) (k := 7) (r := (RX10, TX10, 15)) rfl (by decide) rfl wd_995 dX10_gap_44 (sd_sipush C (x := nI 132) dX10_gap_47 (by decide +kernel) (sd_aload_n C (i := 0) dX10_gap_50 rfl (sd_gr C (ci := 10) (k := 7) (r := (RX10, TX10, 15)) rfl (by decide) rfl wd_995 dX10_gap_51 (sd_bipush C (x := nI 11) dX10_gap_54 (by decide +kernel) (sd_ia C dX10_gap_56 (sd_iadd C dX10_gap_57 (sd_iconst C (x := nI 1) dX10_gap_58 (by decide +kernel) (sd_isub C dX10_gap_59 (sd_iload_n C (i := 1) dX10_gap_60 rfl (sd_isub C dX10_gap_61 (sd_ia C dX10_gap_62 (sd_istore_n C (i := 3) dX10_gap_63 rfl (by decide) (sd_iload_n C (i := 2) dX10_gap_64 rfl (sd_if_ne C dX10_gap_65 (tgt := 75) (by decide) (sd_iload_n C (i := 2) dX10_gap_75 rfl (sd_iconst C (x := nI 1) dX10_gap_76 (by decide +kernel) (sd_icmp_ne C dX10_gap_77 (tgt := 90) (by decide) (sd_iload_n C (i := 3) dX10_gap_90 rfl (sd_bipush C (x := nI 10) dX10_gap_91 (by decide +kernel) (sd_irem C dX10_gap_93 (fun _ _ _ h => h)))) (sd_iload_n C (i := 3) dX10_gap_80 rfl (sd_bipush C (x := nI 10) dX10_gap_81 (by decide +kernel) (sd_idiv C dX10_gap_83 (sd_bipush C (x := nI 10) dX10_gap_84 (by decide +kernel) (sd_irem C dX10_gap_86 (sd_goto C dX10_gap_87 (tgt := 94) (by decide) (fun _ _ _ h => h)))))))))) (sd_iload_n C (i := 3) dX10_gap_68 rfl (sd_bipush C (x := nI 100) dX10_gap_69 (by decide +kernel) (sd_idiv C dX10_gap_71 (sd_goto C dX10_gap_72 (tgt := 94) (by decide) (fun _ _ _ h => h))))))))))))))))))))) (sd_iconst C (x := -1) dX10_gap_41 (by decide +kernel) (sd_ir C hr dX10_gap_42)))))))) (sd_iconst C (x := nI 0) dX10_gap_28 (by decide +kernel) (sd_ir C hr dX10_gap_29))))
    (sd_ir C hr dX10_gap_94)
theorem dX10_isHour_0 : decode cX10_isHour 0 = .ok (.iload_n 0, 1) := by decide +kernel
theorem dX10_isHour_1 : decode cX10_isHour 1 = .ok (.i2l, 1) := by decide +kernel
theorem dX10_isHour_2 : decode cX10_isHour 2 = .ok (.lconst 0, 1) := by decide +kernel
theorem dX10_isHour_3 : decode cX10_isHour 3 = .ok (.ldc2_w 222, 3) := by decide +kernel
theorem dX10_isHour_6 : decode cX10_isHour 6 = .ok (.invokestatic 62, 3) := by decide +kernel
theorem dX10_isHour_9 : decode cX10_isHour 9 = .ok (.ireturn, 1) := by decide +kernel
def bX10_isHour_0 (w : ab_W) (s_X10_in : ab_S) (M : Nat → ab_P) (Kn : Option Value → ab_H → Prop) : ab_P := ab_ild 0 (ab_i2l (ab_cl (lN 0) (ab_cl (3) (ab_cN w 3 s_X10_in (ab_zr Kn)))))
set_option maxRecDepth 20000 in
set_option maxHeartbeats 2000000 in
theorem vc_X10_isHour {l : Launch} (hl : l.stackTraces = false) {w : ab_W} (hI : ab_Inj w) {mc : Nat} {σ : ab_H} {As : List Value} {Kn : Option Value → ab_H → Prop} {Kx : String → ab_H → Prop} {s_X10_in : ab_S} (ok_X10_in : ab_OkN l yX10_in (Cond.code yX10_in cX10_in 6 (some .boolean)) 1 s_X10_in) (hlen : (ab_xl As).length ≤ 1) (h : ∀ M : Nat → ab_P, (∀ L st σ, bX10_isHour_0 w s_X10_in M Kn L st σ → M 0 L st σ) → M 0 (ab_pd 1 (ab_xl As)) [] σ) : ab_Met l yX10_isHour (Cond.code yX10_isHour cX10_isHour 1 (some .boolean)) 2 mc w σ As Kn Kx := by
  refine ab_enter (by decide) hl hI hlen (by decide) ?_
  intro p e R s m args below meth c C hno hr
  exact h _ (sd_iload_n C (i := 0) dX10_isHour_0 rfl (sd_i2l C dX10_isHour_1 (sd_lconst C (x := lN 0) dX10_isHour_2 (by decide +kernel) (sd_ldc2 C (x := 3) dX10_isHour_3 wd_1237 (sd_cS C ok_X10_in ⟨by decide, by decide, wd_1046, wd_11, by decide +kernel⟩ wd_1044 wd_1045 dX10_isHour_6 (sd_zr C hr dX10_isHour_9))))))
theorem dX10_windOf_0 : decode cX10_windOf 0 = .ok (.aload_n 0, 1) := by decide +kernel
theorem dX10_windOf_1 : decode cX10_windOf 1 = .ok (.iload_n 1, 1) := by decide +kernel
theorem dX10_windOf_2 : decode cX10_windOf 2 = .ok (.invokestatic 224, 3) := by decide +kernel
theorem dX10_windOf_5 : decode cX10_windOf 5 = .ok (.ifCond .eq 7, 3) := by decide +kernel
theorem dX10_windOf_8 : decode cX10_windOf 8 = .ok (.iconst 0, 1) := by decide +kernel
theorem dX10_windOf_9 : decode cX10_windOf 9 = .ok (.goto 4, 3) := by decide +kernel
theorem dX10_windOf_12 : decode cX10_windOf 12 = .ok (.iconst 1, 1) := by decide +kernel
theorem dX10_windOf_13 : decode cX10_windOf 13 = .ok (.invokevirtual 127, 3) := by decide +kernel
theorem dX10_windOf_16 : decode cX10_windOf 16 = .ok (.ifCond .eq 5, 3) := by decide +kernel
theorem dX10_windOf_19 : decode cX10_windOf 19 = .ok (.iconst 0, 1) := by decide +kernel
theorem dX10_windOf_20 : decode cX10_windOf 20 = .ok (.ireturn, 1) := by decide +kernel
theorem dX10_windOf_21 : decode cX10_windOf 21 = .ok (.bipush 100, 2) := by decide +kernel
theorem dX10_windOf_23 : decode cX10_windOf 23 = .ok (.aload_n 0, 1) := by decide +kernel
theorem dX10_windOf_24 : decode cX10_windOf 24 = .ok (.getfield 16, 3) := by decide +kernel
theorem dX10_windOf_27 : decode cX10_windOf 27 = .ok (.bipush 17, 2) := by decide +kernel
theorem dX10_windOf_29 : decode cX10_windOf 29 = .ok (.iload_n 1, 1) := by decide +kernel
theorem dX10_windOf_30 : decode cX10_windOf 30 = .ok (.iadd, 1) := by decide +kernel
theorem dX10_windOf_31 : decode cX10_windOf 31 = .ok (.iaload, 1) := by decide +kernel
theorem dX10_windOf_32 : decode cX10_windOf 32 = .ok (.iadd, 1) := by decide +kernel
theorem dX10_windOf_33 : decode cX10_windOf 33 = .ok (.ireturn, 1) := by decide +kernel
def bX10_windOf_0 (w : ab_W) (s_X10_isHour : ab_S) (s_X10_refused : ab_S) (M : Nat → ab_P) (Kn : Option Value → ab_H → Prop) : ab_P := ab_ald 0 (ab_ild 1 (ab_cN w 1 s_X10_isHour (ab_if1 (fun x => x = 0) (ab_ci (nI 1) (M 13)) (ab_ci (nI 0) (M 13)))))
def bX10_windOf_13 (w : ab_W) (s_X10_isHour : ab_S) (s_X10_refused : ab_S) (M : Nat → ab_P) (Kn : Option Value → ab_H → Prop) : ab_P := ab_cV w 2 10 s_X10_refused (ab_if1 (fun x => x = 0) (ab_ci (nI 100) (ab_ald 0 (ab_gr w 10 3 (ab_ci (nI 17) (ab_ild 1 (ab_b2 (fun x y => x + y) (ab_ia w 11 (ab_b2 (fun x y => x + y) (ab_ir Kn))))))))) (ab_ci (nI 0) (ab_ir Kn)))
set_option maxRecDepth 20000 in
set_option maxHeartbeats 2000000 in
theorem vc_X10_windOf {l : Launch} (hl : l.stackTraces = false) {w : ab_W} (hI : ab_Inj w) {mc : Nat} {σ : ab_H} {As : List Value} {Kn : Option Value → ab_H → Prop} {Kx : String → ab_H → Prop} {s_X10_isHour : ab_S} (ok_X10_isHour : ab_OkN l yX10_isHour (Cond.code yX10_isHour cX10_isHour 1 (some .boolean)) 2 s_X10_isHour) {s_X10_refused : ab_S} (ok_X10_refused : ab_OkN l yX10_refused (Cond.code yX10_refused cX10_refused 2 (some .boolean)) 1 s_X10_refused) (hlen : (ab_xl As).length ≤ 2) (h : ∀ M : Nat → ab_P, (∀ L st σ, bX10_windOf_0 w s_X10_isHour s_X10_refused M Kn L st σ → M 0 L st σ) → (∀ L st σ, bX10_windOf_13 w s_X10_isHour s_X10_refused M Kn L st σ → M 13 L st σ) → M 0 (ab_pd 2 (ab_xl As)) [] σ) : ab_Met l yX10_windOf (Cond.code yX10_windOf cX10_windOf 2 (some .int)) 3 mc w σ As Kn Kx := by
  refine ab_enter (by decide) hl hI hlen (by decide) ?_
  intro p e R s m args below meth c C hno hr
  exact h _ (sd_aload_n C (i := 0) dX10_windOf_0 rfl (sd_iload_n C (i := 1) dX10_windOf_1 rfl (sd_cS C ok_X10_isHour ⟨by decide, by decide, wd_1236, wd_11, by decide +kernel⟩ wd_1234 wd_1235 dX10_windOf_2 (sd_if_eq C dX10_windOf_5 (tgt := 12) (by decide) (sd_iconst C (x := nI 1) dX10_windOf_12 (by decide +kernel) (fun _ _ _ h => h)) (sd_iconst C (x := nI 0) dX10_windOf_8 (by decide +kernel) (sd_goto C dX10_windOf_9 (tgt := 13) (by decide) (fun _ _ _ h => h)))))))
    (sd_cV C ok_X10_refused (ci := 10) (row := (RX10, TX10, 15)) rfl rfl ⟨by decide, by decide, wd_1050, wd_11, by decide +kernel⟩ wd_1047 wd_1049 ws_15 dX10_windOf_13 (sd_if_eq C dX10_windOf_16 (tgt := 21) (by decide) (sd_bipush C (x := nI 100) dX10_windOf_21 (by decide +kernel) (sd_aload_n C (i := 0) dX10_windOf_23 rfl (sd_gr C (ci := 10) (k := 7) (r := (RX10, TX10, 15)) rfl (by decide) rfl wd_995 dX10_windOf_24 (sd_bipush C (x := nI 17) dX10_windOf_27 (by decide +kernel) (sd_iload_n C (i := 1) dX10_windOf_29 rfl (sd_iadd C dX10_windOf_30 (sd_ia C dX10_windOf_31 (sd_iadd C dX10_windOf_32 (sd_ir C hr dX10_windOf_33))))))))) (sd_iconst C (x := nI 0) dX10_windOf_19 (by decide +kernel) (sd_ir C hr dX10_windOf_20))))
theorem dX10_setting_0 : decode cX10_setting 0 = .ok (.aload_n 0, 1) := by decide +kernel
theorem dX10_setting_1 : decode cX10_setting 1 = .ok (.iload_n 1, 1) := by decide +kernel
theorem dX10_setting_2 : decode cX10_setting 2 = .ok (.i2l, 1) := by decide +kernel
theorem dX10_setting_3 : decode cX10_setting 3 = .ok (.lconst 0, 1) := by decide +kernel
theorem dX10_setting_4 : decode cX10_setting 4 = .ok (.ldc2_w 218, 3) := by decide +kernel
theorem dX10_setting_7 : decode cX10_setting 7 = .ok (.invokestatic 62, 3) := by decide +kernel
theorem dX10_setting_10 : decode cX10_setting 10 = .ok (.ifCond .eq 7, 3) := by decide +kernel
theorem dX10_setting_13 : decode cX10_setting 13 = .ok (.iconst 0, 1) := by decide +kernel
theorem dX10_setting_14 : decode cX10_setting 14 = .ok (.goto 4, 3) := by decide +kernel
theorem dX10_setting_17 : decode cX10_setting 17 = .ok (.iconst 1, 1) := by decide +kernel
theorem dX10_setting_18 : decode cX10_setting 18 = .ok (.invokevirtual 127, 3) := by decide +kernel
theorem dX10_setting_21 : decode cX10_setting 21 = .ok (.ifCond .eq 5, 3) := by decide +kernel
theorem dX10_setting_24 : decode cX10_setting 24 = .ok (.iconst 0, 1) := by decide +kernel
theorem dX10_setting_25 : decode cX10_setting 25 = .ok (.ireturn, 1) := by decide +kernel
theorem dX10_setting_26 : decode cX10_setting 26 = .ok (.aload_n 0, 1) := by decide +kernel
theorem dX10_setting_27 : decode cX10_setting 27 = .ok (.getfield 16, 3) := by decide +kernel
theorem dX10_setting_30 : decode cX10_setting 30 = .ok (.bipush 12, 2) := by decide +kernel
theorem dX10_setting_32 : decode cX10_setting 32 = .ok (.iload_n 1, 1) := by decide +kernel
theorem dX10_setting_33 : decode cX10_setting 33 = .ok (.iadd, 1) := by decide +kernel
theorem dX10_setting_34 : decode cX10_setting 34 = .ok (.iaload, 1) := by decide +kernel
theorem dX10_setting_35 : decode cX10_setting 35 = .ok (.ireturn, 1) := by decide +kernel
def bX10_setting_0 (w : ab_W) (s_X10_in : ab_S) (s_X10_refused : ab_S) (M : Nat → ab_P) (Kn : Option Value → ab_H → Prop) : ab_P := ab_ald 0 (ab_ild 1 (ab_i2l (ab_cl (lN 0) (ab_cl (4) (ab_cN w 3 s_X10_in (ab_if1 (fun x => x = 0) (ab_ci (nI 1) (M 18)) (ab_ci (nI 0) (M 18))))))))
def bX10_setting_18 (w : ab_W) (s_X10_in : ab_S) (s_X10_refused : ab_S) (M : Nat → ab_P) (Kn : Option Value → ab_H → Prop) : ab_P := ab_cV w 2 10 s_X10_refused (ab_if1 (fun x => x = 0) (ab_ald 0 (ab_gr w 10 3 (ab_ci (nI 12) (ab_ild 1 (ab_b2 (fun x y => x + y) (ab_ia w 11 (ab_ir Kn))))))) (ab_ci (nI 0) (ab_ir Kn)))
set_option maxRecDepth 20000 in
set_option maxHeartbeats 2000000 in
theorem vc_X10_setting {l : Launch} (hl : l.stackTraces = false) {w : ab_W} (hI : ab_Inj w) {mc : Nat} {σ : ab_H} {As : List Value} {Kn : Option Value → ab_H → Prop} {Kx : String → ab_H → Prop} {s_X10_in : ab_S} (ok_X10_in : ab_OkN l yX10_in (Cond.code yX10_in cX10_in 6 (some .boolean)) 1 s_X10_in) {s_X10_refused : ab_S} (ok_X10_refused : ab_OkN l yX10_refused (Cond.code yX10_refused cX10_refused 2 (some .boolean)) 1 s_X10_refused) (hlen : (ab_xl As).length ≤ 2) (h : ∀ M : Nat → ab_P, (∀ L st σ, bX10_setting_0 w s_X10_in s_X10_refused M Kn L st σ → M 0 L st σ) → (∀ L st σ, bX10_setting_18 w s_X10_in s_X10_refused M Kn L st σ → M 18 L st σ) → M 0 (ab_pd 2 (ab_xl As)) [] σ) : ab_Met l yX10_setting (Cond.code yX10_setting cX10_setting 2 (some .int)) 2 mc w σ As Kn Kx := by
  refine ab_enter (by decide) hl hI hlen (by decide) ?_
  intro p e R s m args below meth c C hno hr
  exact h _ (sd_aload_n C (i := 0) dX10_setting_0 rfl (sd_iload_n C (i := 1) dX10_setting_1 rfl (sd_i2l C dX10_setting_2 (sd_lconst C (x := lN 0) dX10_setting_3 (by decide +kernel) (sd_ldc2 C (x := 4) dX10_setting_4 wd_1216 (sd_cS C ok_X10_in ⟨by decide, by decide, wd_1046, wd_11, by decide +kernel⟩ wd_1044 wd_1045 dX10_setting_7 (sd_if_eq C dX10_setting_10 (tgt := 17) (by decide) (sd_iconst C (x := nI 1) dX10_setting_17 (by decide +kernel) (fun _ _ _ h => h)) (sd_iconst C (x := nI 0) dX10_setting_13 (by decide +kernel) (sd_goto C dX10_setting_14 (tgt := 18) (by decide) (fun _ _ _ h => h))))))))))
    (sd_cV C ok_X10_refused (ci := 10) (row := (RX10, TX10, 15)) rfl rfl ⟨by decide, by decide, wd_1050, wd_11, by decide +kernel⟩ wd_1047 wd_1049 ws_15 dX10_setting_18 (sd_if_eq C dX10_setting_21 (tgt := 26) (by decide) (sd_aload_n C (i := 0) dX10_setting_26 rfl (sd_gr C (ci := 10) (k := 7) (r := (RX10, TX10, 15)) rfl (by decide) rfl wd_995 dX10_setting_27 (sd_bipush C (x := nI 12) dX10_setting_30 (by decide +kernel) (sd_iload_n C (i := 1) dX10_setting_32 rfl (sd_iadd C dX10_setting_33 (sd_ia C dX10_setting_34 (sd_ir C hr dX10_setting_35))))))) (sd_iconst C (x := nI 0) dX10_setting_24 (by decide +kernel) (sd_ir C hr dX10_setting_25))))
theorem dX10_isShape_0 : decode cX10_isShape 0 = .ok (.iload_n 0, 1) := by decide +kernel
theorem dX10_isShape_1 : decode cX10_isShape 1 = .ok (.i2l, 1) := by decide +kernel
theorem dX10_isShape_2 : decode cX10_isShape 2 = .ok (.lconst 0, 1) := by decide +kernel
theorem dX10_isShape_3 : decode cX10_isShape 3 = .ok (.ldc2_w 227, 3) := by decide +kernel
theorem dX10_isShape_6 : decode cX10_isShape 6 = .ok (.invokestatic 62, 3) := by decide +kernel
theorem dX10_isShape_9 : decode cX10_isShape 9 = .ok (.ifCond .eq 19, 3) := by decide +kernel
theorem dX10_isShape_12 : decode cX10_isShape 12 = .ok (.iload_n 1, 1) := by decide +kernel
theorem dX10_isShape_13 : decode cX10_isShape 13 = .ok (.i2l, 1) := by decide +kernel
theorem dX10_isShape_14 : decode cX10_isShape 14 = .ok (.lconst 1, 1) := by decide +kernel
theorem dX10_isShape_15 : decode cX10_isShape 15 = .ok (.ldc2_w 229, 3) := by decide +kernel
theorem dX10_isShape_18 : decode cX10_isShape 18 = .ok (.invokestatic 62, 3) := by decide +kernel
theorem dX10_isShape_21 : decode cX10_isShape 21 = .ok (.ifCond .eq 7, 3) := by decide +kernel
theorem dX10_isShape_24 : decode cX10_isShape 24 = .ok (.iconst 1, 1) := by decide +kernel
theorem dX10_isShape_25 : decode cX10_isShape 25 = .ok (.goto 4, 3) := by decide +kernel
theorem dX10_isShape_28 : decode cX10_isShape 28 = .ok (.iconst 0, 1) := by decide +kernel
theorem dX10_isShape_29 : decode cX10_isShape 29 = .ok (.ireturn, 1) := by decide +kernel
def bX10_isShape_0 (w : ab_W) (s_X10_in : ab_S) (M : Nat → ab_P) (Kn : Option Value → ab_H → Prop) : ab_P := ab_ild 0 (ab_i2l (ab_cl (lN 0) (ab_cl (15) (ab_cN w 3 s_X10_in (ab_if1 (fun x => x = 0) (M 28) (ab_ild 1 (ab_i2l (ab_cl (lN 1) (ab_cl (5) (ab_cN w 3 s_X10_in (ab_if1 (fun x => x = 0) (M 28) (ab_ci (nI 1) (M 29)))))))))))))
def bX10_isShape_28 (w : ab_W) (s_X10_in : ab_S) (M : Nat → ab_P) (Kn : Option Value → ab_H → Prop) : ab_P := ab_ci (nI 0) (M 29)
def bX10_isShape_29 (w : ab_W) (s_X10_in : ab_S) (M : Nat → ab_P) (Kn : Option Value → ab_H → Prop) : ab_P := ab_zr Kn
set_option maxRecDepth 20000 in
set_option maxHeartbeats 2000000 in
theorem vc_X10_isShape {l : Launch} (hl : l.stackTraces = false) {w : ab_W} (hI : ab_Inj w) {mc : Nat} {σ : ab_H} {As : List Value} {Kn : Option Value → ab_H → Prop} {Kx : String → ab_H → Prop} {s_X10_in : ab_S} (ok_X10_in : ab_OkN l yX10_in (Cond.code yX10_in cX10_in 6 (some .boolean)) 1 s_X10_in) (hlen : (ab_xl As).length ≤ 2) (h : ∀ M : Nat → ab_P, (∀ L st σ, bX10_isShape_0 w s_X10_in M Kn L st σ → M 0 L st σ) → (∀ L st σ, bX10_isShape_28 w s_X10_in M Kn L st σ → M 28 L st σ) → (∀ L st σ, bX10_isShape_29 w s_X10_in M Kn L st σ → M 29 L st σ) → M 0 (ab_pd 2 (ab_xl As)) [] σ) : ab_Met l yX10_isShape (Cond.code yX10_isShape cX10_isShape 2 (some .boolean)) 2 mc w σ As Kn Kx := by
  refine ab_enter (by decide) hl hI hlen (by decide) ?_
  intro p e R s m args below meth c C hno hr
  exact h _ (sd_iload_n C (i := 0) dX10_isShape_0 rfl (sd_i2l C dX10_isShape_1 (sd_lconst C (x := lN 0) dX10_isShape_2 (by decide +kernel) (sd_ldc2 C (x := 15) dX10_isShape_3 wd_1249 (sd_cS C ok_X10_in ⟨by decide, by decide, wd_1046, wd_11, by decide +kernel⟩ wd_1044 wd_1045 dX10_isShape_6 (sd_if_eq C dX10_isShape_9 (tgt := 28) (by decide) (fun _ _ _ h => h) (sd_iload_n C (i := 1) dX10_isShape_12 rfl (sd_i2l C dX10_isShape_13 (sd_lconst C (x := lN 1) dX10_isShape_14 (by decide +kernel) (sd_ldc2 C (x := 5) dX10_isShape_15 wd_1250 (sd_cS C ok_X10_in ⟨by decide, by decide, wd_1046, wd_11, by decide +kernel⟩ wd_1044 wd_1045 dX10_isShape_18 (sd_if_eq C dX10_isShape_21 (tgt := 28) (by decide) (fun _ _ _ h => h) (sd_iconst C (x := nI 1) dX10_isShape_24 (by decide +kernel) (sd_goto C dX10_isShape_25 (tgt := 29) (by decide) (fun _ _ _ h => h)))))))))))))))
    (sd_iconst C (x := nI 0) dX10_isShape_28 (by decide +kernel) (fun _ _ _ h => h))
    (sd_zr C hr dX10_isShape_29)
theorem dX10_isLoad_0 : decode cX10_isLoad 0 = .ok (.iload_n 0, 1) := by decide +kernel
theorem dX10_isLoad_1 : decode cX10_isLoad 1 = .ok (.i2l, 1) := by decide +kernel
theorem dX10_isLoad_2 : decode cX10_isLoad 2 = .ok (.lconst 0, 1) := by decide +kernel
theorem dX10_isLoad_3 : decode cX10_isLoad 3 = .ok (.ldc2_w 231, 3) := by decide +kernel
theorem dX10_isLoad_6 : decode cX10_isLoad 6 = .ok (.invokestatic 62, 3) := by decide +kernel
theorem dX10_isLoad_9 : decode cX10_isLoad 9 = .ok (.ifCond .eq 19, 3) := by decide +kernel
theorem dX10_isLoad_12 : decode cX10_isLoad 12 = .ok (.iload_n 1, 1) := by decide +kernel
theorem dX10_isLoad_13 : decode cX10_isLoad 13 = .ok (.i2l, 1) := by decide +kernel
theorem dX10_isLoad_14 : decode cX10_isLoad 14 = .ok (.lconst 0, 1) := by decide +kernel
theorem dX10_isLoad_15 : decode cX10_isLoad 15 = .ok (.ldc2_w 60, 3) := by decide +kernel
theorem dX10_isLoad_18 : decode cX10_isLoad 18 = .ok (.invokestatic 62, 3) := by decide +kernel
theorem dX10_isLoad_21 : decode cX10_isLoad 21 = .ok (.ifCond .eq 7, 3) := by decide +kernel
theorem dX10_isLoad_24 : decode cX10_isLoad 24 = .ok (.iconst 1, 1) := by decide +kernel
theorem dX10_isLoad_25 : decode cX10_isLoad 25 = .ok (.goto 4, 3) := by decide +kernel
theorem dX10_isLoad_28 : decode cX10_isLoad 28 = .ok (.iconst 0, 1) := by decide +kernel
theorem dX10_isLoad_29 : decode cX10_isLoad 29 = .ok (.ireturn, 1) := by decide +kernel
def bX10_isLoad_0 (w : ab_W) (s_X10_in : ab_S) (M : Nat → ab_P) (Kn : Option Value → ab_H → Prop) : ab_P := ab_ild 0 (ab_i2l (ab_cl (lN 0) (ab_cl (999) (ab_cN w 3 s_X10_in (ab_if1 (fun x => x = 0) (M 28) (ab_ild 1 (ab_i2l (ab_cl (lN 0) (ab_cl (99) (ab_cN w 3 s_X10_in (ab_if1 (fun x => x = 0) (M 28) (ab_ci (nI 1) (M 29)))))))))))))
def bX10_isLoad_28 (w : ab_W) (s_X10_in : ab_S) (M : Nat → ab_P) (Kn : Option Value → ab_H → Prop) : ab_P := ab_ci (nI 0) (M 29)
def bX10_isLoad_29 (w : ab_W) (s_X10_in : ab_S) (M : Nat → ab_P) (Kn : Option Value → ab_H → Prop) : ab_P := ab_zr Kn
set_option maxRecDepth 20000 in
set_option maxHeartbeats 2000000 in
theorem vc_X10_isLoad {l : Launch} (hl : l.stackTraces = false) {w : ab_W} (hI : ab_Inj w) {mc : Nat} {σ : ab_H} {As : List Value} {Kn : Option Value → ab_H → Prop} {Kx : String → ab_H → Prop} {s_X10_in : ab_S} (ok_X10_in : ab_OkN l yX10_in (Cond.code yX10_in cX10_in 6 (some .boolean)) 1 s_X10_in) (hlen : (ab_xl As).length ≤ 2) (h : ∀ M : Nat → ab_P, (∀ L st σ, bX10_isLoad_0 w s_X10_in M Kn L st σ → M 0 L st σ) → (∀ L st σ, bX10_isLoad_28 w s_X10_in M Kn L st σ → M 28 L st σ) → (∀ L st σ, bX10_isLoad_29 w s_X10_in M Kn L st σ → M 29 L st σ) → M 0 (ab_pd 2 (ab_xl As)) [] σ) : ab_Met l yX10_isLoad (Cond.code yX10_isLoad cX10_isLoad 2 (some .boolean)) 2 mc w σ As Kn Kx := by
  refine ab_enter (by decide) hl hI hlen (by decide) ?_
  intro p e R s m args below meth c C hno hr
  exact h _ (sd_iload_n C (i := 0) dX10_isLoad_0 rfl (sd_i2l C dX10_isLoad_1 (sd_lconst C (x := lN 0) dX10_isLoad_2 (by decide +kernel) (sd_ldc2 C (x := 999) dX10_isLoad_3 wd_1254 (sd_cS C ok_X10_in ⟨by decide, by decide, wd_1046, wd_11, by decide +kernel⟩ wd_1044 wd_1045 dX10_isLoad_6 (sd_if_eq C dX10_isLoad_9 (tgt := 28) (by decide) (fun _ _ _ h => h) (sd_iload_n C (i := 1) dX10_isLoad_12 rfl (sd_i2l C dX10_isLoad_13 (sd_lconst C (x := lN 0) dX10_isLoad_14 (by decide +kernel) (sd_ldc2 C (x := 99) dX10_isLoad_15 wd_1164 (sd_cS C ok_X10_in ⟨by decide, by decide, wd_1046, wd_11, by decide +kernel⟩ wd_1044 wd_1045 dX10_isLoad_18 (sd_if_eq C dX10_isLoad_21 (tgt := 28) (by decide) (fun _ _ _ h => h) (sd_iconst C (x := nI 1) dX10_isLoad_24 (by decide +kernel) (sd_goto C dX10_isLoad_25 (tgt := 29) (by decide) (fun _ _ _ h => h)))))))))))))))
    (sd_iconst C (x := nI 0) dX10_isLoad_28 (by decide +kernel) (fun _ _ _ h => h))
    (sd_zr C hr dX10_isLoad_29)
theorem dX10_addStation_0 : decode cX10_addStation 0 = .ok (.iload_n 1, 1) := by decide +kernel
theorem dX10_addStation_1 : decode cX10_addStation 1 = .ok (.i2l, 1) := by decide +kernel
theorem dX10_addStation_2 : decode cX10_addStation 2 = .ok (.lconst 0, 1) := by decide +kernel
theorem dX10_addStation_3 : decode cX10_addStation 3 = .ok (.ldc2_w 60, 3) := by decide +kernel
theorem dX10_addStation_6 : decode cX10_addStation 6 = .ok (.invokestatic 62, 3) := by decide +kernel
theorem dX10_addStation_9 : decode cX10_addStation 9 = .ok (.ifCond .eq 25, 3) := by decide +kernel
theorem dX10_addStation_12 : decode cX10_addStation 12 = .ok (.iload_n 2, 1) := by decide +kernel
theorem dX10_addStation_13 : decode cX10_addStation 13 = .ok (.iload_n 3, 1) := by decide +kernel
theorem dX10_addStation_14 : decode cX10_addStation 14 = .ok (.invokestatic 233, 3) := by decide +kernel
theorem dX10_addStation_17 : decode cX10_addStation 17 = .ok (.ifCond .eq 17, 3) := by decide +kernel
theorem dX10_addStation_20 : decode cX10_addStation 20 = .ok (.iload 4, 2) := by decide +kernel
theorem dX10_addStation_22 : decode cX10_addStation 22 = .ok (.iload 5, 2) := by decide +kernel
theorem dX10_addStation_24 : decode cX10_addStation 24 = .ok (.invokestatic 237, 3) := by decide +kernel
theorem dX10_addStation_27 : decode cX10_addStation 27 = .ok (.ifCond .eq 7, 3) := by decide +kernel
theorem dX10_addStation_30 : decode cX10_addStation 30 = .ok (.iconst 1, 1) := by decide +kernel
theorem dX10_addStation_31 : decode cX10_addStation 31 = .ok (.goto 4, 3) := by decide +kernel
theorem dX10_addStation_34 : decode cX10_addStation 34 = .ok (.iconst 0, 1) := by decide +kernel
theorem dX10_addStation_35 : decode cX10_addStation 35 = .ok (.istore 6, 2) := by decide +kernel
theorem dX10_addStation_37 : decode cX10_addStation 37 = .ok (.aload_n 0, 1) := by decide +kernel
theorem dX10_addStation_38 : decode cX10_addStation 38 = .ok (.iload 6, 2) := by decide +kernel
theorem dX10_addStation_40 : decode cX10_addStation 40 = .ok (.ifCond .ne 7, 3) := by decide +kernel
theorem dX10_addStation_43 : decode cX10_addStation 43 = .ok (.iconst 1, 1) := by decide +kernel
theorem dX10_addStation_44 : decode cX10_addStation 44 = .ok (.goto 18, 3) := by decide +kernel
theorem dX10_addStation_47 : decode cX10_addStation 47 = .ok (.aload_n 0, 1) := by decide +kernel
theorem dX10_addStation_48 : decode cX10_addStation 48 = .ok (.getfield 16, 3) := by decide +kernel
theorem dX10_addStation_51 : decode cX10_addStation 51 = .ok (.iconst 1, 1) := by decide +kernel
theorem dX10_addStation_52 : decode cX10_addStation 52 = .ok (.iaload, 1) := by decide +kernel
theorem dX10_addStation_53 : decode cX10_addStation 53 = .ok (.iconst 5, 1) := by decide +kernel
theorem dX10_addStation_54 : decode cX10_addStation 54 = .ok (.if_icmp .ne 7, 3) := by decide +kernel
theorem dX10_addStation_57 : decode cX10_addStation 57 = .ok (.iconst 2, 1) := by decide +kernel
theorem dX10_addStation_58 : decode cX10_addStation 58 = .ok (.goto 4, 3) := by decide +kernel
theorem dX10_addStation_61 : decode cX10_addStation 61 = .ok (.iconst 0, 1) := by decide +kernel
theorem dX10_addStation_62 : decode cX10_addStation 62 = .ok (.invokevirtual 127, 3) := by decide +kernel
theorem dX10_addStation_65 : decode cX10_addStation 65 = .ok (.ifCond .eq 5, 3) := by decide +kernel
theorem dX10_addStation_68 : decode cX10_addStation 68 = .ok (.iconst 0, 1) := by decide +kernel
theorem dX10_addStation_69 : decode cX10_addStation 69 = .ok (.ireturn, 1) := by decide +kernel
theorem dX10_addStation_70 : decode cX10_addStation 70 = .ok (.aload_n 0, 1) := by decide +kernel
theorem dX10_addStation_71 : decode cX10_addStation 71 = .ok (.invokevirtual 240, 3) := by decide +kernel
theorem dX10_addStation_74 : decode cX10_addStation 74 = .ok (.aload_n 0, 1) := by decide +kernel
theorem dX10_addStation_75 : decode cX10_addStation 75 = .ok (.getfield 16, 3) := by decide +kernel
theorem dX10_addStation_78 : decode cX10_addStation 78 = .ok (.iload_n 1, 1) := by decide +kernel
theorem dX10_addStation_79 : decode cX10_addStation 79 = .ok (.iload_n 2, 1) := by decide +kernel
theorem dX10_addStation_80 : decode cX10_addStation 80 = .ok (.iload_n 3, 1) := by decide +kernel
theorem dX10_addStation_81 : decode cX10_addStation 81 = .ok (.iload 4, 2) := by decide +kernel
theorem dX10_addStation_83 : decode cX10_addStation 83 = .ok (.iload 5, 2) := by decide +kernel
theorem dX10_addStation_85 : decode cX10_addStation 85 = .ok (.invokestatic 157, 3) := by decide +kernel
theorem dX10_addStation_88 : decode cX10_addStation 88 = .ok (.ireturn, 1) := by decide +kernel
def bX10_addStation_0 (w : ab_W) (s_X10_in : ab_S) (s_X10_isShape : ab_S) (s_X10_isLoad : ab_S) (s_X10_refused : ab_S) (s_X10_remember : ab_S) (s_X10_addStationIn : ab_S) (M : Nat → ab_P) (Kn : Option Value → ab_H → Prop) : ab_P := ab_ild 1 (ab_i2l (ab_cl (lN 0) (ab_cl (99) (ab_cN w 3 s_X10_in (ab_if1 (fun x => x = 0) (M 34) (ab_ild 2 (ab_ild 3 (ab_cN w 2 s_X10_isShape (ab_if1 (fun x => x = 0) (M 34) (ab_ild 4 (ab_ild 5 (ab_cN w 2 s_X10_isLoad (ab_if1 (fun x => x = 0) (M 34) (ab_ci (nI 1) (M 35)))))))))))))))
def bX10_addStation_34 (w : ab_W) (s_X10_in : ab_S) (s_X10_isShape : ab_S) (s_X10_isLoad : ab_S) (s_X10_refused : ab_S) (s_X10_remember : ab_S) (s_X10_addStationIn : ab_S) (M : Nat → ab_P) (Kn : Option Value → ab_H → Prop) : ab_P := ab_ci (nI 0) (M 35)
def bX10_addStation_35 (w : ab_W) (s_X10_in : ab_S) (s_X10_isShape : ab_S) (s_X10_isLoad : ab_S) (s_X10_refused : ab_S) (s_X10_remember : ab_S) (s_X10_addStationIn : ab_S) (M : Nat → ab_P) (Kn : Option Value → ab_H → Prop) : ab_P := ab_ist 6 (ab_ald 0 (ab_ild 6 (ab_if1 (fun x => ¬ x = 0) (ab_ald 0 (ab_gr w 10 3 (ab_ci (nI 1) (ab_ia w 11 (ab_ci (nI 5) (ab_if2 (fun x y => ¬ x = y) (ab_ci (nI 0) (M 62)) (ab_ci (nI 2) (M 62)))))))) (ab_ci (nI 1) (M 62)))))
def bX10_addStation_62 (w : ab_W) (s_X10_in : ab_S) (s_X10_isShape : ab_S) (s_X10_isLoad : ab_S) (s_X10_refused : ab_S) (s_X10_remember : ab_S) (s_X10_addStationIn : ab_S) (M : Nat → ab_P) (Kn : Option Value → ab_H → Prop) : ab_P := ab_cV w 2 10 s_X10_refused (ab_if1 (fun x => x = 0) (ab_ald 0 (ab_cV w 1 10 s_X10_remember (ab_ald 0 (ab_gr w 10 3 (ab_ild 1 (ab_ild 2 (ab_ild 3 (ab_ild 4 (ab_ild 5 (ab_cN w 6 s_X10_addStationIn (ab_ir Kn))))))))))) (ab_ci (nI 0) (ab_ir Kn)))
set_option maxRecDepth 20000 in
set_option maxHeartbeats 2000000 in
theorem vc_X10_addStation {l : Launch} (hl : l.stackTraces = false) {w : ab_W} (hI : ab_Inj w) {mc : Nat} {σ : ab_H} {As : List Value} {Kn : Option Value → ab_H → Prop} {Kx : String → ab_H → Prop} {s_X10_in : ab_S} (ok_X10_in : ab_OkN l yX10_in (Cond.code yX10_in cX10_in 6 (some .boolean)) 1 s_X10_in) {s_X10_isShape : ab_S} (ok_X10_isShape : ab_OkN l yX10_isShape (Cond.code yX10_isShape cX10_isShape 2 (some .boolean)) 2 s_X10_isShape) {s_X10_isLoad : ab_S} (ok_X10_isLoad : ab_OkN l yX10_isLoad (Cond.code yX10_isLoad cX10_isLoad 2 (some .boolean)) 2 s_X10_isLoad) {s_X10_refused : ab_S} (ok_X10_refused : ab_OkN l yX10_refused (Cond.code yX10_refused cX10_refused 2 (some .boolean)) 1 s_X10_refused) {s_X10_remember : ab_S} (ok_X10_remember : ab_OkN l yX10_remember (Cond.code yX10_remember cX10_remember 1 none) 2 s_X10_remember) {s_X10_addStationIn : ab_S} (ok_X10_addStationIn : ab_OkN l yX10_addStationIn (Cond.code yX10_addStationIn cX10_addStationIn 8 (some .int)) 2 s_X10_addStationIn) (hlen : (ab_xl As).length ≤ 7) (h : ∀ M : Nat → ab_P, (∀ L st σ, bX10_addStation_0 w s_X10_in s_X10_isShape s_X10_isLoad s_X10_refused s_X10_remember s_X10_addStationIn M Kn L st σ → M 0 L st σ) → (∀ L st σ, bX10_addStation_34 w s_X10_in s_X10_isShape s_X10_isLoad s_X10_refused s_X10_remember s_X10_addStationIn M Kn L st σ → M 34 L st σ) → (∀ L st σ, bX10_addStation_35 w s_X10_in s_X10_isShape s_X10_isLoad s_X10_refused s_X10_remember s_X10_addStationIn M Kn L st σ → M 35 L st σ) → (∀ L st σ, bX10_addStation_62 w s_X10_in s_X10_isShape s_X10_isLoad s_X10_refused s_X10_remember s_X10_addStationIn M Kn L st σ → M 62 L st σ) → M 0 (ab_pd 7 (ab_xl As)) [] σ) : ab_Met l yX10_addStation (Cond.code yX10_addStation cX10_addStation 7 (some .int)) 3 mc w σ As Kn Kx := by
  refine ab_enter (by decide) hl hI hlen (by decide) ?_
  intro p e R s m args below meth c C hno hr
  exact h _ (sd_iload_n C (i := 1) dX10_addStation_0 rfl (sd_i2l C dX10_addStation_1 (sd_lconst C (x := lN 0) dX10_addStation_2 (by decide +kernel) (sd_ldc2 C (x := 99) dX10_addStation_3 wd_1164 (sd_cS C ok_X10_in ⟨by decide, by decide, wd_1046, wd_11, by decide +kernel⟩ wd_1044 wd_1045 dX10_addStation_6 (sd_if_eq C dX10_addStation_9 (tgt := 34) (by decide) (fun _ _ _ h => h) (sd_iload_n C (i := 2) dX10_addStation_12 rfl (sd_iload_n C (i := 3) dX10_addStation_13 rfl (sd_cS C ok_X10_isShape ⟨by decide, by decide, wd_1248, wd_11, by decide +kernel⟩ wd_1246 wd_1247 dX10_addStation_14 (sd_if_eq C dX10_addStation_17 (tgt := 34) (by decide) (fun _ _ _ h => h) (sd_iload C dX10_addStation_20 (sd_iload C dX10_addStation_22 (sd_cS C ok_X10_isLoad ⟨by decide, by decide, wd_1253, wd_11, by decide +kernel⟩ wd_1251 wd_1252 dX10_addStation_24 (sd_if_eq C dX10_addStation_27 (tgt := 34) (by decide) (fun _ _ _ h => h) (sd_iconst C (x := nI 1) dX10_addStation_30 (by decide +kernel) (sd_goto C dX10_addStation_31 (tgt := 35) (by decide) (fun _ _ _ h => h)))))))))))))))))
    (sd_iconst C (x := nI 0) dX10_addStation_34 (by decide +kernel) (fun _ _ _ h => h))
    (sd_istore C dX10_addStation_35 (by decide) (sd_aload_n C (i := 0) dX10_addStation_37 rfl (sd_iload C dX10_addStation_38 (sd_if_ne C dX10_addStation_40 (tgt := 47) (by decide) (sd_aload_n C (i := 0) dX10_addStation_47 rfl (sd_gr C (ci := 10) (k := 7) (r := (RX10, TX10, 15)) rfl (by decide) rfl wd_995 dX10_addStation_48 (sd_iconst C (x := nI 1) dX10_addStation_51 (by decide +kernel) (sd_ia C dX10_addStation_52 (sd_iconst C (x := nI 5) dX10_addStation_53 (by decide +kernel) (sd_icmp_ne C dX10_addStation_54 (tgt := 61) (by decide) (sd_iconst C (x := nI 0) dX10_addStation_61 (by decide +kernel) (fun _ _ _ h => h)) (sd_iconst C (x := nI 2) dX10_addStation_57 (by decide +kernel) (sd_goto C dX10_addStation_58 (tgt := 62) (by decide) (fun _ _ _ h => h))))))))) (sd_iconst C (x := nI 1) dX10_addStation_43 (by decide +kernel) (sd_goto C dX10_addStation_44 (tgt := 62) (by decide) (fun _ _ _ h => h)))))))
    (sd_cV C ok_X10_refused (ci := 10) (row := (RX10, TX10, 15)) rfl rfl ⟨by decide, by decide, wd_1050, wd_11, by decide +kernel⟩ wd_1047 wd_1049 ws_15 dX10_addStation_62 (sd_if_eq C dX10_addStation_65 (tgt := 70) (by decide) (sd_aload_n C (i := 0) dX10_addStation_70 rfl (sd_cV C ok_X10_remember (ci := 10) (row := (RX10, TX10, 15)) rfl rfl ⟨by decide, by decide, wd_1258, wd_11, by decide +kernel⟩ wd_1255 wd_1257 ws_33 dX10_addStation_71 (sd_aload_n C (i := 0) dX10_addStation_74 rfl (sd_gr C (ci := 10) (k := 7) (r := (RX10, TX10, 15)) rfl (by decide) rfl wd_995 dX10_addStation_75 (sd_iload_n C (i := 1) dX10_addStation_78 rfl (sd_iload_n C (i := 2) dX10_addStation_79 rfl (sd_iload_n C (i := 3) dX10_addStation_80 rfl (sd_iload C dX10_addStation_81 (sd_iload C dX10_addStation_83 (sd_cS C ok_X10_addStationIn ⟨by decide, by decide, wd_1094, wd_11, by decide +kernel⟩ wd_1092 wd_1093 dX10_addStation_85 (sd_ir C hr dX10_addStation_88))))))))))) (sd_iconst C (x := nI 0) dX10_addStation_68 (by decide +kernel) (sd_ir C hr dX10_addStation_69))))
theorem dX10_addFinder_0 : decode cX10_addFinder 0 = .ok (.iload_n 1, 1) := by decide +kernel
theorem dX10_addFinder_1 : decode cX10_addFinder 1 = .ok (.i2l, 1) := by decide +kernel
theorem dX10_addFinder_2 : decode cX10_addFinder 2 = .ok (.lconst 0, 1) := by decide +kernel
theorem dX10_addFinder_3 : decode cX10_addFinder 3 = .ok (.ldc2_w 60, 3) := by decide +kernel
theorem dX10_addFinder_6 : decode cX10_addFinder 6 = .ok (.invokestatic 62, 3) := by decide +kernel
theorem dX10_addFinder_9 : decode cX10_addFinder 9 = .ok (.ifCond .eq 31, 3) := by decide +kernel
theorem dX10_addFinder_12 : decode cX10_addFinder 12 = .ok (.iload_n 2, 1) := by decide +kernel
theorem dX10_addFinder_13 : decode cX10_addFinder 13 = .ok (.i2l, 1) := by decide +kernel
theorem dX10_addFinder_14 : decode cX10_addFinder 14 = .ok (.lconst 0, 1) := by decide +kernel
theorem dX10_addFinder_15 : decode cX10_addFinder 15 = .ok (.ldc2_w 243, 3) := by decide +kernel
theorem dX10_addFinder_18 : decode cX10_addFinder 18 = .ok (.invokestatic 62, 3) := by decide +kernel
theorem dX10_addFinder_21 : decode cX10_addFinder 21 = .ok (.ifCond .eq 19, 3) := by decide +kernel
theorem dX10_addFinder_24 : decode cX10_addFinder 24 = .ok (.iload_n 3, 1) := by decide +kernel
theorem dX10_addFinder_25 : decode cX10_addFinder 25 = .ok (.i2l, 1) := by decide +kernel
theorem dX10_addFinder_26 : decode cX10_addFinder 26 = .ok (.lconst 1, 1) := by decide +kernel
theorem dX10_addFinder_27 : decode cX10_addFinder 27 = .ok (.ldc2_w 245, 3) := by decide +kernel
theorem dX10_addFinder_30 : decode cX10_addFinder 30 = .ok (.invokestatic 62, 3) := by decide +kernel
theorem dX10_addFinder_33 : decode cX10_addFinder 33 = .ok (.ifCond .eq 7, 3) := by decide +kernel
theorem dX10_addFinder_36 : decode cX10_addFinder 36 = .ok (.iconst 1, 1) := by decide +kernel
theorem dX10_addFinder_37 : decode cX10_addFinder 37 = .ok (.goto 4, 3) := by decide +kernel
theorem dX10_addFinder_40 : decode cX10_addFinder 40 = .ok (.iconst 0, 1) := by decide +kernel
theorem dX10_addFinder_41 : decode cX10_addFinder 41 = .ok (.istore 4, 2) := by decide +kernel
theorem dX10_addFinder_43 : decode cX10_addFinder 43 = .ok (.aload_n 0, 1) := by decide +kernel
theorem dX10_addFinder_44 : decode cX10_addFinder 44 = .ok (.iload 4, 2) := by decide +kernel
theorem dX10_addFinder_46 : decode cX10_addFinder 46 = .ok (.ifCond .ne 7, 3) := by decide +kernel
theorem dX10_addFinder_49 : decode cX10_addFinder 49 = .ok (.iconst 1, 1) := by decide +kernel
theorem dX10_addFinder_50 : decode cX10_addFinder 50 = .ok (.goto 19, 3) := by decide +kernel
theorem dX10_addFinder_53 : decode cX10_addFinder 53 = .ok (.aload_n 0, 1) := by decide +kernel
theorem dX10_addFinder_54 : decode cX10_addFinder 54 = .ok (.getfield 16, 3) := by decide +kernel
theorem dX10_addFinder_57 : decode cX10_addFinder 57 = .ok (.iconst 2, 1) := by decide +kernel
theorem dX10_addFinder_58 : decode cX10_addFinder 58 = .ok (.iaload, 1) := by decide +kernel
theorem dX10_addFinder_59 : decode cX10_addFinder 59 = .ok (.bipush 6, 2) := by decide +kernel
theorem dX10_addFinder_61 : decode cX10_addFinder 61 = .ok (.if_icmp .ne 7, 3) := by decide +kernel
theorem dX10_addFinder_64 : decode cX10_addFinder 64 = .ok (.iconst 2, 1) := by decide +kernel
theorem dX10_addFinder_65 : decode cX10_addFinder 65 = .ok (.goto 4, 3) := by decide +kernel
theorem dX10_addFinder_68 : decode cX10_addFinder 68 = .ok (.iconst 0, 1) := by decide +kernel
theorem dX10_addFinder_69 : decode cX10_addFinder 69 = .ok (.invokevirtual 127, 3) := by decide +kernel
theorem dX10_addFinder_72 : decode cX10_addFinder 72 = .ok (.ifCond .eq 5, 3) := by decide +kernel
theorem dX10_addFinder_75 : decode cX10_addFinder 75 = .ok (.iconst 0, 1) := by decide +kernel
theorem dX10_addFinder_76 : decode cX10_addFinder 76 = .ok (.ireturn, 1) := by decide +kernel
theorem dX10_addFinder_77 : decode cX10_addFinder 77 = .ok (.aload_n 0, 1) := by decide +kernel
theorem dX10_addFinder_78 : decode cX10_addFinder 78 = .ok (.invokevirtual 240, 3) := by decide +kernel
theorem dX10_addFinder_81 : decode cX10_addFinder 81 = .ok (.aload_n 0, 1) := by decide +kernel
theorem dX10_addFinder_82 : decode cX10_addFinder 82 = .ok (.getfield 16, 3) := by decide +kernel
theorem dX10_addFinder_85 : decode cX10_addFinder 85 = .ok (.iload_n 1, 1) := by decide +kernel
theorem dX10_addFinder_86 : decode cX10_addFinder 86 = .ok (.iload_n 2, 1) := by decide +kernel
theorem dX10_addFinder_87 : decode cX10_addFinder 87 = .ok (.iload_n 3, 1) := by decide +kernel
theorem dX10_addFinder_88 : decode cX10_addFinder 88 = .ok (.invokestatic 161, 3) := by decide +kernel
theorem dX10_addFinder_91 : decode cX10_addFinder 91 = .ok (.ireturn, 1) := by decide +kernel
def bX10_addFinder_0 (w : ab_W) (s_X10_in : ab_S) (s_X10_refused : ab_S) (s_X10_remember : ab_S) (s_X10_addFinderIn : ab_S) (M : Nat → ab_P) (Kn : Option Value → ab_H → Prop) : ab_P := ab_ild 1 (ab_i2l (ab_cl (lN 0) (ab_cl (99) (ab_cN w 3 s_X10_in (ab_if1 (fun x => x = 0) (M 40) (ab_ild 2 (ab_i2l (ab_cl (lN 0) (ab_cl (20) (ab_cN w 3 s_X10_in (ab_if1 (fun x => x = 0) (M 40) (ab_ild 3 (ab_i2l (ab_cl (lN 1) (ab_cl (30) (ab_cN w 3 s_X10_in (ab_if1 (fun x => x = 0) (M 40) (ab_ci (nI 1) (M 41)))))))))))))))))))
def bX10_addFinder_40 (w : ab_W) (s_X10_in : ab_S) (s_X10_refused : ab_S) (s_X10_remember : ab_S) (s_X10_addFinderIn : ab_S) (M : Nat → ab_P) (Kn : Option Value → ab_H → Prop) : ab_P := ab_ci (nI 0) (M 41)
def bX10_addFinder_41 (w : ab_W) (s_X10_in : ab_S) (s_X10_refused : ab_S) (s_X10_remember : ab_S) (s_X10_addFinderIn : ab_S) (M : Nat → ab_P) (Kn : Option Value → ab_H → Prop) : ab_P := ab_ist 4 (ab_ald 0 (ab_ild 4 (ab_if1 (fun x => ¬ x = 0) (ab_ald 0 (ab_gr w 10 3 (ab_ci (nI 2) (ab_ia w 11 (ab_ci (nI 6) (ab_if2 (fun x y => ¬ x = y) (ab_ci (nI 0) (M 69)) (ab_ci (nI 2) (M 69)))))))) (ab_ci (nI 1) (M 69)))))
def bX10_addFinder_69 (w : ab_W) (s_X10_in : ab_S) (s_X10_refused : ab_S) (s_X10_remember : ab_S) (s_X10_addFinderIn : ab_S) (M : Nat → ab_P) (Kn : Option Value → ab_H → Prop) : ab_P := ab_cV w 2 10 s_X10_refused (ab_if1 (fun x => x = 0) (ab_ald 0 (ab_cV w 1 10 s_X10_remember (ab_ald 0 (ab_gr w 10 3 (ab_ild 1 (ab_ild 2 (ab_ild 3 (ab_cN w 4 s_X10_addFinderIn (ab_ir Kn))))))))) (ab_ci (nI 0) (ab_ir Kn)))
set_option maxRecDepth 20000 in
set_option maxHeartbeats 2000000 in
theorem vc_X10_addFinder {l : Launch} (hl : l.stackTraces = false) {w : ab_W} (hI : ab_Inj w) {mc : Nat} {σ : ab_H} {As : List Value} {Kn : Option Value → ab_H → Prop} {Kx : String → ab_H → Prop} {s_X10_in : ab_S} (ok_X10_in : ab_OkN l yX10_in (Cond.code yX10_in cX10_in 6 (some .boolean)) 1 s_X10_in) {s_X10_refused : ab_S} (ok_X10_refused : ab_OkN l yX10_refused (Cond.code yX10_refused cX10_refused 2 (some .boolean)) 1 s_X10_refused) {s_X10_remember : ab_S} (ok_X10_remember : ab_OkN l yX10_remember (Cond.code yX10_remember cX10_remember 1 none) 2 s_X10_remember) {s_X10_addFinderIn : ab_S} (ok_X10_addFinderIn : ab_OkN l yX10_addFinderIn (Cond.code yX10_addFinderIn cX10_addFinderIn 5 (some .int)) 2 s_X10_addFinderIn) (hlen : (ab_xl As).length ≤ 5) (h : ∀ M : Nat → ab_P, (∀ L st σ, bX10_addFinder_0 w s_X10_in s_X10_refused s_X10_remember s_X10_addFinderIn M Kn L st σ → M 0 L st σ) → (∀ L st σ, bX10_addFinder_40 w s_X10_in s_X10_refused s_X10_remember s_X10_addFinderIn M Kn L st σ → M 40 L st σ) → (∀ L st σ, bX10_addFinder_41 w s_X10_in s_X10_refused s_X10_remember s_X10_addFinderIn M Kn L st σ → M 41 L st σ) → (∀ L st σ, bX10_addFinder_69 w s_X10_in s_X10_refused s_X10_remember s_X10_addFinderIn M Kn L st σ → M 69 L st σ) → M 0 (ab_pd 5 (ab_xl As)) [] σ) : ab_Met l yX10_addFinder (Cond.code yX10_addFinder cX10_addFinder 5 (some .int)) 3 mc w σ As Kn Kx := by
  refine ab_enter (by decide) hl hI hlen (by decide) ?_
  intro p e R s m args below meth c C hno hr
  exact h _ (sd_iload_n C (i := 1) dX10_addFinder_0 rfl (sd_i2l C dX10_addFinder_1 (sd_lconst C (x := lN 0) dX10_addFinder_2 (by decide +kernel) (sd_ldc2 C (x := 99) dX10_addFinder_3 wd_1164 (sd_cS C ok_X10_in ⟨by decide, by decide, wd_1046, wd_11, by decide +kernel⟩ wd_1044 wd_1045 dX10_addFinder_6 (sd_if_eq C dX10_addFinder_9 (tgt := 40) (by decide) (fun _ _ _ h => h) (sd_iload_n C (i := 2) dX10_addFinder_12 rfl (sd_i2l C dX10_addFinder_13 (sd_lconst C (x := lN 0) dX10_addFinder_14 (by decide +kernel) (sd_ldc2 C (x := 20) dX10_addFinder_15 wd_1263 (sd_cS C ok_X10_in ⟨by decide, by decide, wd_1046, wd_11, by decide +kernel⟩ wd_1044 wd_1045 dX10_addFinder_18 (sd_if_eq C dX10_addFinder_21 (tgt := 40) (by decide) (fun _ _ _ h => h) (sd_iload_n C (i := 3) dX10_addFinder_24 rfl (sd_i2l C dX10_addFinder_25 (sd_lconst C (x := lN 1) dX10_addFinder_26 (by decide +kernel) (sd_ldc2 C (x := 30) dX10_addFinder_27 wd_1264 (sd_cS C ok_X10_in ⟨by decide, by decide, wd_1046, wd_11, by decide +kernel⟩ wd_1044 wd_1045 dX10_addFinder_30 (sd_if_eq C dX10_addFinder_33 (tgt := 40) (by decide) (fun _ _ _ h => h) (sd_iconst C (x := nI 1) dX10_addFinder_36 (by decide +kernel) (sd_goto C dX10_addFinder_37 (tgt := 41) (by decide) (fun _ _ _ h => h)))))))))))))))))))))
    (sd_iconst C (x := nI 0) dX10_addFinder_40 (by decide +kernel) (fun _ _ _ h => h))
    (sd_istore C dX10_addFinder_41 (by decide) (sd_aload_n C (i := 0) dX10_addFinder_43 rfl (sd_iload C dX10_addFinder_44 (sd_if_ne C dX10_addFinder_46 (tgt := 53) (by decide) (sd_aload_n C (i := 0) dX10_addFinder_53 rfl (sd_gr C (ci := 10) (k := 7) (r := (RX10, TX10, 15)) rfl (by decide) rfl wd_995 dX10_addFinder_54 (sd_iconst C (x := nI 2) dX10_addFinder_57 (by decide +kernel) (sd_ia C dX10_addFinder_58 (sd_bipush C (x := nI 6) dX10_addFinder_59 (by decide +kernel) (sd_icmp_ne C dX10_addFinder_61 (tgt := 68) (by decide) (sd_iconst C (x := nI 0) dX10_addFinder_68 (by decide +kernel) (fun _ _ _ h => h)) (sd_iconst C (x := nI 2) dX10_addFinder_64 (by decide +kernel) (sd_goto C dX10_addFinder_65 (tgt := 69) (by decide) (fun _ _ _ h => h))))))))) (sd_iconst C (x := nI 1) dX10_addFinder_49 (by decide +kernel) (sd_goto C dX10_addFinder_50 (tgt := 69) (by decide) (fun _ _ _ h => h)))))))
    (sd_cV C ok_X10_refused (ci := 10) (row := (RX10, TX10, 15)) rfl rfl ⟨by decide, by decide, wd_1050, wd_11, by decide +kernel⟩ wd_1047 wd_1049 ws_15 dX10_addFinder_69 (sd_if_eq C dX10_addFinder_72 (tgt := 77) (by decide) (sd_aload_n C (i := 0) dX10_addFinder_77 rfl (sd_cV C ok_X10_remember (ci := 10) (row := (RX10, TX10, 15)) rfl rfl ⟨by decide, by decide, wd_1258, wd_11, by decide +kernel⟩ wd_1255 wd_1257 ws_33 dX10_addFinder_78 (sd_aload_n C (i := 0) dX10_addFinder_81 rfl (sd_gr C (ci := 10) (k := 7) (r := (RX10, TX10, 15)) rfl (by decide) rfl wd_995 dX10_addFinder_82 (sd_iload_n C (i := 1) dX10_addFinder_85 rfl (sd_iload_n C (i := 2) dX10_addFinder_86 rfl (sd_iload_n C (i := 3) dX10_addFinder_87 rfl (sd_cS C ok_X10_addFinderIn ⟨by decide, by decide, wd_1104, wd_11, by decide +kernel⟩ wd_1102 wd_1103 dX10_addFinder_88 (sd_ir C hr dX10_addFinder_91))))))))) (sd_iconst C (x := nI 0) dX10_addFinder_75 (by decide +kernel) (sd_ir C hr dX10_addFinder_76))))
theorem dX10_isWind_0 : decode cX10_isWind 0 = .ok (.iload_n 0, 1) := by decide +kernel
theorem dX10_isWind_1 : decode cX10_isWind 1 = .ok (.i2l, 1) := by decide +kernel
theorem dX10_isWind_2 : decode cX10_isWind 2 = .ok (.ldc2_w 247, 3) := by decide +kernel
theorem dX10_isWind_5 : decode cX10_isWind 5 = .ok (.ldc2_w 243, 3) := by decide +kernel
theorem dX10_isWind_8 : decode cX10_isWind 8 = .ok (.invokestatic 62, 3) := by decide +kernel
theorem dX10_isWind_11 : decode cX10_isWind 11 = .ok (.ireturn, 1) := by decide +kernel
def bX10_isWind_0 (w : ab_W) (s_X10_in : ab_S) (M : Nat → ab_P) (Kn : Option Value → ab_H → Prop) : ab_P := ab_ild 0 (ab_i2l (ab_cl (-20) (ab_cl (20) (ab_cN w 3 s_X10_in (ab_zr Kn)))))
set_option maxRecDepth 20000 in
set_option maxHeartbeats 2000000 in
theorem vc_X10_isWind {l : Launch} (hl : l.stackTraces = false) {w : ab_W} (hI : ab_Inj w) {mc : Nat} {σ : ab_H} {As : List Value} {Kn : Option Value → ab_H → Prop} {Kx : String → ab_H → Prop} {s_X10_in : ab_S} (ok_X10_in : ab_OkN l yX10_in (Cond.code yX10_in cX10_in 6 (some .boolean)) 1 s_X10_in) (hlen : (ab_xl As).length ≤ 1) (h : ∀ M : Nat → ab_P, (∀ L st σ, bX10_isWind_0 w s_X10_in M Kn L st σ → M 0 L st σ) → M 0 (ab_pd 1 (ab_xl As)) [] σ) : ab_Met l yX10_isWind (Cond.code yX10_isWind cX10_isWind 1 (some .boolean)) 2 mc w σ As Kn Kx := by
  refine ab_enter (by decide) hl hI hlen (by decide) ?_
  intro p e R s m args below meth c C hno hr
  exact h _ (sd_iload_n C (i := 0) dX10_isWind_0 rfl (sd_i2l C dX10_isWind_1 (sd_ldc2 C (x := -20) dX10_isWind_2 wd_1272 (sd_ldc2 C (x := 20) dX10_isWind_5 wd_1263 (sd_cS C ok_X10_in ⟨by decide, by decide, wd_1046, wd_11, by decide +kernel⟩ wd_1044 wd_1045 dX10_isWind_8 (sd_zr C hr dX10_isWind_11))))))
theorem dX10_wind_0 : decode cX10_wind 0 = .ok (.aload_n 0, 1) := by decide +kernel
theorem dX10_wind_1 : decode cX10_wind 1 = .ok (.iload_n 1, 1) := by decide +kernel
theorem dX10_wind_2 : decode cX10_wind 2 = .ok (.invokestatic 224, 3) := by decide +kernel
theorem dX10_wind_5 : decode cX10_wind 5 = .ok (.ifCond .eq 14, 3) := by decide +kernel
theorem dX10_wind_8 : decode cX10_wind 8 = .ok (.iload_n 2, 1) := by decide +kernel
theorem dX10_wind_9 : decode cX10_wind 9 = .ok (.invokestatic 249, 3) := by decide +kernel
theorem dX10_wind_12 : decode cX10_wind 12 = .ok (.ifCond .eq 7, 3) := by decide +kernel
theorem dX10_wind_15 : decode cX10_wind 15 = .ok (.iconst 0, 1) := by decide +kernel
theorem dX10_wind_16 : decode cX10_wind 16 = .ok (.goto 4, 3) := by decide +kernel
theorem dX10_wind_19 : decode cX10_wind 19 = .ok (.iconst 1, 1) := by decide +kernel
theorem dX10_wind_20 : decode cX10_wind 20 = .ok (.invokevirtual 127, 3) := by decide +kernel
theorem dX10_wind_23 : decode cX10_wind 23 = .ok (.ifCond .eq 5, 3) := by decide +kernel
theorem dX10_wind_26 : decode cX10_wind 26 = .ok (.iconst 0, 1) := by decide +kernel
theorem dX10_wind_27 : decode cX10_wind 27 = .ok (.ireturn, 1) := by decide +kernel
theorem dX10_wind_28 : decode cX10_wind 28 = .ok (.aload_n 0, 1) := by decide +kernel
theorem dX10_wind_29 : decode cX10_wind 29 = .ok (.invokevirtual 240, 3) := by decide +kernel
theorem dX10_wind_32 : decode cX10_wind 32 = .ok (.aload_n 0, 1) := by decide +kernel
theorem dX10_wind_33 : decode cX10_wind 33 = .ok (.getfield 16, 3) := by decide +kernel
theorem dX10_wind_36 : decode cX10_wind 36 = .ok (.bipush 17, 2) := by decide +kernel
theorem dX10_wind_38 : decode cX10_wind 38 = .ok (.iload_n 1, 1) := by decide +kernel
theorem dX10_wind_39 : decode cX10_wind 39 = .ok (.iadd, 1) := by decide +kernel
theorem dX10_wind_40 : decode cX10_wind 40 = .ok (.iaload, 1) := by decide +kernel
theorem dX10_wind_41 : decode cX10_wind 41 = .ok (.istore_n 3, 1) := by decide +kernel
theorem dX10_wind_42 : decode cX10_wind 42 = .ok (.aload_n 0, 1) := by decide +kernel
theorem dX10_wind_43 : decode cX10_wind 43 = .ok (.getfield 16, 3) := by decide +kernel
theorem dX10_wind_46 : decode cX10_wind 46 = .ok (.bipush 17, 2) := by decide +kernel
theorem dX10_wind_48 : decode cX10_wind 48 = .ok (.iload_n 1, 1) := by decide +kernel
theorem dX10_wind_49 : decode cX10_wind 49 = .ok (.iadd, 1) := by decide +kernel
theorem dX10_wind_50 : decode cX10_wind 50 = .ok (.iload_n 2, 1) := by decide +kernel
theorem dX10_wind_51 : decode cX10_wind 51 = .ok (.iastore, 1) := by decide +kernel
theorem dX10_wind_52 : decode cX10_wind 52 = .ok (.bipush 100, 2) := by decide +kernel
theorem dX10_wind_54 : decode cX10_wind 54 = .ok (.iload_n 3, 1) := by decide +kernel
theorem dX10_wind_55 : decode cX10_wind 55 = .ok (.iadd, 1) := by decide +kernel
theorem dX10_wind_56 : decode cX10_wind 56 = .ok (.ireturn, 1) := by decide +kernel
def bX10_wind_0 (w : ab_W) (s_X10_isHour : ab_S) (s_X10_isWind : ab_S) (s_X10_refused : ab_S) (s_X10_remember : ab_S) (M : Nat → ab_P) (Kn : Option Value → ab_H → Prop) : ab_P := ab_ald 0 (ab_ild 1 (ab_cN w 1 s_X10_isHour (ab_if1 (fun x => x = 0) (M 19) (ab_ild 2 (ab_cN w 1 s_X10_isWind (ab_if1 (fun x => x = 0) (M 19) (ab_ci (nI 0) (M 20))))))))
def bX10_wind_19 (w : ab_W) (s_X10_isHour : ab_S) (s_X10_isWind : ab_S) (s_X10_refused : ab_S) (s_X10_remember : ab_S) (M : Nat → ab_P) (Kn : Option Value → ab_H → Prop) : ab_P := ab_ci (nI 1) (M 20)
def bX10_wind_20 (w : ab_W) (s_X10_isHour : ab_S) (s_X10_isWind : ab_S) (s_X10_refused : ab_S) (s_X10_remember : ab_S) (M : Nat → ab_P) (Kn : Option Value → ab_H → Prop) : ab_P := ab_cV w 2 10 s_X10_refused (ab_if1 (fun x => x = 0) (ab_ald 0 (ab_cV w 1 10 s_X10_remember (ab_ald 0 (ab_gr w 10 3 (ab_ci (nI 17) (ab_ild 1 (ab_b2 (fun x y => x + y) (ab_ia w 11 (ab_ist 3 (ab_ald 0 (ab_gr w 10 3 (ab_ci (nI 17) (ab_ild 1 (ab_b2 (fun x y => x + y) (ab_ild 2 (ab_is w (ab_ci (nI 100) (ab_ild 3 (ab_b2 (fun x y => x + y) (ab_ir Kn)))))))))))))))))))) (ab_ci (nI 0) (ab_ir Kn)))
set_option maxRecDepth 20000 in
set_option maxHeartbeats 2000000 in
theorem vc_X10_wind {l : Launch} (hl : l.stackTraces = false) {w : ab_W} (hI : ab_Inj w) {mc : Nat} {σ : ab_H} {As : List Value} {Kn : Option Value → ab_H → Prop} {Kx : String → ab_H → Prop} {s_X10_isHour : ab_S} (ok_X10_isHour : ab_OkN l yX10_isHour (Cond.code yX10_isHour cX10_isHour 1 (some .boolean)) 2 s_X10_isHour) {s_X10_isWind : ab_S} (ok_X10_isWind : ab_OkN l yX10_isWind (Cond.code yX10_isWind cX10_isWind 1 (some .boolean)) 2 s_X10_isWind) {s_X10_refused : ab_S} (ok_X10_refused : ab_OkN l yX10_refused (Cond.code yX10_refused cX10_refused 2 (some .boolean)) 1 s_X10_refused) {s_X10_remember : ab_S} (ok_X10_remember : ab_OkN l yX10_remember (Cond.code yX10_remember cX10_remember 1 none) 2 s_X10_remember) (hlen : (ab_xl As).length ≤ 4) (h : ∀ M : Nat → ab_P, (∀ L st σ, bX10_wind_0 w s_X10_isHour s_X10_isWind s_X10_refused s_X10_remember M Kn L st σ → M 0 L st σ) → (∀ L st σ, bX10_wind_19 w s_X10_isHour s_X10_isWind s_X10_refused s_X10_remember M Kn L st σ → M 19 L st σ) → (∀ L st σ, bX10_wind_20 w s_X10_isHour s_X10_isWind s_X10_refused s_X10_remember M Kn L st σ → M 20 L st σ) → M 0 (ab_pd 4 (ab_xl As)) [] σ) : ab_Met l yX10_wind (Cond.code yX10_wind cX10_wind 4 (some .int)) 3 mc w σ As Kn Kx := by
  refine ab_enter (by decide) hl hI hlen (by decide) ?_
  intro p e R s m args below meth c C hno hr
  exact h _ (sd_aload_n C (i := 0) dX10_wind_0 rfl (sd_iload_n C (i := 1) dX10_wind_1 rfl (sd_cS C ok_X10_isHour ⟨by decide, by decide, wd_1236, wd_11, by decide +kernel⟩ wd_1234 wd_1235 dX10_wind_2 (sd_if_eq C dX10_wind_5 (tgt := 19) (by decide) (fun _ _ _ h => h) (sd_iload_n C (i := 2) dX10_wind_8 rfl (sd_cS C ok_X10_isWind ⟨by decide, by decide, wd_1271, wd_11, by decide +kernel⟩ wd_1269 wd_1270 dX10_wind_9 (sd_if_eq C dX10_wind_12 (tgt := 19) (by decide) (fun _ _ _ h => h) (sd_iconst C (x := nI 0) dX10_wind_15 (by decide +kernel) (sd_goto C dX10_wind_16 (tgt := 20) (by decide) (fun _ _ _ h => h))))))))))
    (sd_iconst C (x := nI 1) dX10_wind_19 (by decide +kernel) (fun _ _ _ h => h))
    (sd_cV C ok_X10_refused (ci := 10) (row := (RX10, TX10, 15)) rfl rfl ⟨by decide, by decide, wd_1050, wd_11, by decide +kernel⟩ wd_1047 wd_1049 ws_15 dX10_wind_20 (sd_if_eq C dX10_wind_23 (tgt := 28) (by decide) (sd_aload_n C (i := 0) dX10_wind_28 rfl (sd_cV C ok_X10_remember (ci := 10) (row := (RX10, TX10, 15)) rfl rfl ⟨by decide, by decide, wd_1258, wd_11, by decide +kernel⟩ wd_1255 wd_1257 ws_33 dX10_wind_29 (sd_aload_n C (i := 0) dX10_wind_32 rfl (sd_gr C (ci := 10) (k := 7) (r := (RX10, TX10, 15)) rfl (by decide) rfl wd_995 dX10_wind_33 (sd_bipush C (x := nI 17) dX10_wind_36 (by decide +kernel) (sd_iload_n C (i := 1) dX10_wind_38 rfl (sd_iadd C dX10_wind_39 (sd_ia C dX10_wind_40 (sd_istore_n C (i := 3) dX10_wind_41 rfl (by decide) (sd_aload_n C (i := 0) dX10_wind_42 rfl (sd_gr C (ci := 10) (k := 7) (r := (RX10, TX10, 15)) rfl (by decide) rfl wd_995 dX10_wind_43 (sd_bipush C (x := nI 17) dX10_wind_46 (by decide +kernel) (sd_iload_n C (i := 1) dX10_wind_48 rfl (sd_iadd C dX10_wind_49 (sd_iload_n C (i := 2) dX10_wind_50 rfl (sd_is C dX10_wind_51 (sd_bipush C (x := nI 100) dX10_wind_52 (by decide +kernel) (sd_iload_n C (i := 3) dX10_wind_54 rfl (sd_iadd C dX10_wind_55 (sd_ir C hr dX10_wind_56)))))))))))))))))))) (sd_iconst C (x := nI 0) dX10_wind_26 (by decide +kernel) (sd_ir C hr dX10_wind_27))))
theorem dX10_change_0 : decode cX10_change 0 = .ok (.aload_n 0, 1) := by decide +kernel
theorem dX10_change_1 : decode cX10_change 1 = .ok (.aload_n 0, 1) := by decide +kernel
theorem dX10_change_2 : decode cX10_change 2 = .ok (.iload_n 1, 1) := by decide +kernel
theorem dX10_change_3 : decode cX10_change 3 = .ok (.invokevirtual 209, 3) := by decide +kernel
theorem dX10_change_6 : decode cX10_change 6 = .ok (.ifCond .ne 7, 3) := by decide +kernel
theorem dX10_change_9 : decode cX10_change 9 = .ok (.iconst 1, 1) := by decide +kernel
theorem dX10_change_10 : decode cX10_change 10 = .ok (.goto 16, 3) := by decide +kernel
theorem dX10_change_13 : decode cX10_change 13 = .ok (.iload_n 2, 1) := by decide +kernel
theorem dX10_change_14 : decode cX10_change 14 = .ok (.iload_n 3, 1) := by decide +kernel
theorem dX10_change_15 : decode cX10_change 15 = .ok (.invokestatic 233, 3) := by decide +kernel
theorem dX10_change_18 : decode cX10_change 18 = .ok (.ifCond .eq 7, 3) := by decide +kernel
theorem dX10_change_21 : decode cX10_change 21 = .ok (.iconst 0, 1) := by decide +kernel
theorem dX10_change_22 : decode cX10_change 22 = .ok (.goto 4, 3) := by decide +kernel
theorem dX10_change_25 : decode cX10_change 25 = .ok (.iconst 2, 1) := by decide +kernel
theorem dX10_change_26 : decode cX10_change 26 = .ok (.invokevirtual 127, 3) := by decide +kernel
theorem dX10_change_29 : decode cX10_change 29 = .ok (.ifCond .eq 5, 3) := by decide +kernel
theorem dX10_change_32 : decode cX10_change 32 = .ok (.iconst 0, 1) := by decide +kernel
theorem dX10_change_33 : decode cX10_change 33 = .ok (.ireturn, 1) := by decide +kernel
theorem dX10_change_34 : decode cX10_change 34 = .ok (.aload_n 0, 1) := by decide +kernel
theorem dX10_change_35 : decode cX10_change 35 = .ok (.invokevirtual 240, 3) := by decide +kernel
theorem dX10_change_38 : decode cX10_change 38 = .ok (.aload_n 0, 1) := by decide +kernel
theorem dX10_change_39 : decode cX10_change 39 = .ok (.getfield 16, 3) := by decide +kernel
theorem dX10_change_42 : decode cX10_change 42 = .ok (.iload_n 1, 1) := by decide +kernel
theorem dX10_change_43 : decode cX10_change 43 = .ok (.iload_n 2, 1) := by decide +kernel
theorem dX10_change_44 : decode cX10_change 44 = .ok (.iload_n 3, 1) := by decide +kernel
theorem dX10_change_45 : decode cX10_change 45 = .ok (.invokestatic 252, 3) := by decide +kernel
theorem dX10_change_48 : decode cX10_change 48 = .ok (.ireturn, 1) := by decide +kernel
def bX10_change_0 (w : ab_W) (s_X10_isStation : ab_S) (s_X10_isShape : ab_S) (s_X10_refused : ab_S) (s_X10_remember : ab_S) (s_X10_changeIn : ab_S) (M : Nat → ab_P) (Kn : Option Value → ab_H → Prop) : ab_P := ab_ald 0 (ab_ald 0 (ab_ild 1 (ab_cV w 2 10 s_X10_isStation (ab_if1 (fun x => ¬ x = 0) (ab_ild 2 (ab_ild 3 (ab_cN w 2 s_X10_isShape (ab_if1 (fun x => x = 0) (ab_ci (nI 2) (M 26)) (ab_ci (nI 0) (M 26)))))) (ab_ci (nI 1) (M 26))))))
def bX10_change_26 (w : ab_W) (s_X10_isStation : ab_S) (s_X10_isShape : ab_S) (s_X10_refused : ab_S) (s_X10_remember : ab_S) (s_X10_changeIn : ab_S) (M : Nat → ab_P) (Kn : Option Value → ab_H → Prop) : ab_P := ab_cV w 2 10 s_X10_refused (ab_if1 (fun x => x = 0) (ab_ald 0 (ab_cV w 1 10 s_X10_remember (ab_ald 0 (ab_gr w 10 3 (ab_ild 1 (ab_ild 2 (ab_ild 3 (ab_cN w 4 s_X10_changeIn (ab_ir Kn))))))))) (ab_ci (nI 0) (ab_ir Kn)))
set_option maxRecDepth 20000 in
set_option maxHeartbeats 2000000 in
theorem vc_X10_change {l : Launch} (hl : l.stackTraces = false) {w : ab_W} (hI : ab_Inj w) {mc : Nat} {σ : ab_H} {As : List Value} {Kn : Option Value → ab_H → Prop} {Kx : String → ab_H → Prop} {s_X10_isStation : ab_S} (ok_X10_isStation : ab_OkN l yX10_isStation (Cond.code yX10_isStation cX10_isStation 2 (some .boolean)) 2 s_X10_isStation) {s_X10_isShape : ab_S} (ok_X10_isShape : ab_OkN l yX10_isShape (Cond.code yX10_isShape cX10_isShape 2 (some .boolean)) 2 s_X10_isShape) {s_X10_refused : ab_S} (ok_X10_refused : ab_OkN l yX10_refused (Cond.code yX10_refused cX10_refused 2 (some .boolean)) 1 s_X10_refused) {s_X10_remember : ab_S} (ok_X10_remember : ab_OkN l yX10_remember (Cond.code yX10_remember cX10_remember 1 none) 2 s_X10_remember) {s_X10_changeIn : ab_S} (ok_X10_changeIn : ab_OkN l yX10_changeIn (Cond.code yX10_changeIn cX10_changeIn 5 (some .int)) 2 s_X10_changeIn) (hlen : (ab_xl As).length ≤ 4) (h : ∀ M : Nat → ab_P, (∀ L st σ, bX10_change_0 w s_X10_isStation s_X10_isShape s_X10_refused s_X10_remember s_X10_changeIn M Kn L st σ → M 0 L st σ) → (∀ L st σ, bX10_change_26 w s_X10_isStation s_X10_isShape s_X10_refused s_X10_remember s_X10_changeIn M Kn L st σ → M 26 L st σ) → M 0 (ab_pd 4 (ab_xl As)) [] σ) : ab_Met l yX10_change (Cond.code yX10_change cX10_change 4 (some .int)) 3 mc w σ As Kn Kx := by
  refine ab_enter (by decide) hl hI hlen (by decide) ?_
  intro p e R s m args below meth c C hno hr
  exact h _ (sd_aload_n C (i := 0) dX10_change_0 rfl (sd_aload_n C (i := 0) dX10_change_1 rfl (sd_iload_n C (i := 1) dX10_change_2 rfl (sd_cV C ok_X10_isStation (ci := 10) (row := (RX10, TX10, 15)) rfl rfl ⟨by decide, by decide, wd_1202, wd_11, by decide +kernel⟩ wd_1199 wd_1201 ws_30 dX10_change_3 (sd_if_ne C dX10_change_6 (tgt := 13) (by decide) (sd_iload_n C (i := 2) dX10_change_13 rfl (sd_iload_n C (i := 3) dX10_change_14 rfl (sd_cS C ok_X10_isShape ⟨by decide, by decide, wd_1248, wd_11, by decide +kernel⟩ wd_1246 wd_1247 dX10_change_15 (sd_if_eq C dX10_change_18 (tgt := 25) (by decide) (sd_iconst C (x := nI 2) dX10_change_25 (by decide +kernel) (fun _ _ _ h => h)) (sd_iconst C (x := nI 0) dX10_change_21 (by decide +kernel) (sd_goto C dX10_change_22 (tgt := 26) (by decide) (fun _ _ _ h => h))))))) (sd_iconst C (x := nI 1) dX10_change_9 (by decide +kernel) (sd_goto C dX10_change_10 (tgt := 26) (by decide) (fun _ _ _ h => h))))))))
    (sd_cV C ok_X10_refused (ci := 10) (row := (RX10, TX10, 15)) rfl rfl ⟨by decide, by decide, wd_1050, wd_11, by decide +kernel⟩ wd_1047 wd_1049 ws_15 dX10_change_26 (sd_if_eq C dX10_change_29 (tgt := 34) (by decide) (sd_aload_n C (i := 0) dX10_change_34 rfl (sd_cV C ok_X10_remember (ci := 10) (row := (RX10, TX10, 15)) rfl rfl ⟨by decide, by decide, wd_1258, wd_11, by decide +kernel⟩ wd_1255 wd_1257 ws_33 dX10_change_35 (sd_aload_n C (i := 0) dX10_change_38 rfl (sd_gr C (ci := 10) (k := 7) (r := (RX10, TX10, 15)) rfl (by decide) rfl wd_995 dX10_change_39 (sd_iload_n C (i := 1) dX10_change_42 rfl (sd_iload_n C (i := 2) dX10_change_43 rfl (sd_iload_n C (i := 3) dX10_change_44 rfl (sd_cS C ok_X10_changeIn ⟨by decide, by decide, wd_1279, wd_11, by decide +kernel⟩ wd_1277 wd_1278 dX10_change_45 (sd_ir C hr dX10_change_48))))))))) (sd_iconst C (x := nI 0) dX10_change_32 (by decide +kernel) (sd_ir C hr dX10_change_33))))
theorem dX10_deliver_0 : decode cX10_deliver 0 = .ok (.aload_n 0, 1) := by decide +kernel
theorem dX10_deliver_1 : decode cX10_deliver 1 = .ok (.aload_n 0, 1) := by decide +kernel
theorem dX10_deliver_2 : decode cX10_deliver 2 = .ok (.iload_n 1, 1) := by decide +kernel
theorem dX10_deliver_3 : decode cX10_deliver 3 = .ok (.invokevirtual 209, 3) := by decide +kernel
theorem dX10_deliver_6 : decode cX10_deliver 6 = .ok (.ifCond .ne 7, 3) := by decide +kernel
theorem dX10_deliver_9 : decode cX10_deliver 9 = .ok (.iconst 1, 1) := by decide +kernel
theorem dX10_deliver_10 : decode cX10_deliver 10 = .ok (.goto 32, 3) := by decide +kernel
theorem dX10_deliver_13 : decode cX10_deliver 13 = .ok (.iload_n 2, 1) := by decide +kernel
theorem dX10_deliver_14 : decode cX10_deliver 14 = .ok (.iload_n 3, 1) := by decide +kernel
theorem dX10_deliver_15 : decode cX10_deliver 15 = .ok (.invokestatic 237, 3) := by decide +kernel
theorem dX10_deliver_18 : decode cX10_deliver 18 = .ok (.ifCond .ne 7, 3) := by decide +kernel
theorem dX10_deliver_21 : decode cX10_deliver 21 = .ok (.iconst 2, 1) := by decide +kernel
theorem dX10_deliver_22 : decode cX10_deliver 22 = .ok (.goto 20, 3) := by decide +kernel
theorem dX10_deliver_25 : decode cX10_deliver 25 = .ok (.aload_n 0, 1) := by decide +kernel
theorem dX10_deliver_26 : decode cX10_deliver 26 = .ok (.getfield 16, 3) := by decide +kernel
theorem dX10_deliver_29 : decode cX10_deliver 29 = .ok (.iload_n 2, 1) := by decide +kernel
theorem dX10_deliver_30 : decode cX10_deliver 30 = .ok (.iload_n 3, 1) := by decide +kernel
theorem dX10_deliver_31 : decode cX10_deliver 31 = .ok (.invokestatic 168, 3) := by decide +kernel
theorem dX10_deliver_34 : decode cX10_deliver 34 = .ok (.ifCond .eq 7, 3) := by decide +kernel
theorem dX10_deliver_37 : decode cX10_deliver 37 = .ok (.iconst 0, 1) := by decide +kernel
theorem dX10_deliver_38 : decode cX10_deliver 38 = .ok (.goto 4, 3) := by decide +kernel
theorem dX10_deliver_41 : decode cX10_deliver 41 = .ok (.iconst 3, 1) := by decide +kernel
theorem dX10_deliver_42 : decode cX10_deliver 42 = .ok (.invokevirtual 127, 3) := by decide +kernel
theorem dX10_deliver_45 : decode cX10_deliver 45 = .ok (.ifCond .eq 5, 3) := by decide +kernel
theorem dX10_deliver_48 : decode cX10_deliver 48 = .ok (.iconst 0, 1) := by decide +kernel
theorem dX10_deliver_49 : decode cX10_deliver 49 = .ok (.ireturn, 1) := by decide +kernel
theorem dX10_deliver_50 : decode cX10_deliver 50 = .ok (.aload_n 0, 1) := by decide +kernel
theorem dX10_deliver_51 : decode cX10_deliver 51 = .ok (.invokevirtual 240, 3) := by decide +kernel
theorem dX10_deliver_54 : decode cX10_deliver 54 = .ok (.aload_n 0, 1) := by decide +kernel
theorem dX10_deliver_55 : decode cX10_deliver 55 = .ok (.getfield 16, 3) := by decide +kernel
theorem dX10_deliver_58 : decode cX10_deliver 58 = .ok (.iload_n 1, 1) := by decide +kernel
theorem dX10_deliver_59 : decode cX10_deliver 59 = .ok (.iload_n 2, 1) := by decide +kernel
theorem dX10_deliver_60 : decode cX10_deliver 60 = .ok (.iload_n 3, 1) := by decide +kernel
theorem dX10_deliver_61 : decode cX10_deliver 61 = .ok (.invokestatic 172, 3) := by decide +kernel
theorem dX10_deliver_64 : decode cX10_deliver 64 = .ok (.ireturn, 1) := by decide +kernel
def bX10_deliver_0 (w : ab_W) (s_X10_isStation : ab_S) (s_X10_isLoad : ab_S) (s_X10_canDeliver : ab_S) (s_X10_refused : ab_S) (s_X10_remember : ab_S) (s_X10_deliverIn : ab_S) (M : Nat → ab_P) (Kn : Option Value → ab_H → Prop) : ab_P := ab_ald 0 (ab_ald 0 (ab_ild 1 (ab_cV w 2 10 s_X10_isStation (ab_if1 (fun x => ¬ x = 0) (ab_ild 2 (ab_ild 3 (ab_cN w 2 s_X10_isLoad (ab_if1 (fun x => ¬ x = 0) (ab_ald 0 (ab_gr w 10 3 (ab_ild 2 (ab_ild 3 (ab_cN w 3 s_X10_canDeliver (ab_if1 (fun x => x = 0) (ab_ci (nI 3) (M 42)) (ab_ci (nI 0) (M 42)))))))) (ab_ci (nI 2) (M 42)))))) (ab_ci (nI 1) (M 42))))))
def bX10_deliver_42 (w : ab_W) (s_X10_isStation : ab_S) (s_X10_isLoad : ab_S) (s_X10_canDeliver : ab_S) (s_X10_refused : ab_S) (s_X10_remember : ab_S) (s_X10_deliverIn : ab_S) (M : Nat → ab_P) (Kn : Option Value → ab_H → Prop) : ab_P := ab_cV w 2 10 s_X10_refused (ab_if1 (fun x => x = 0) (ab_ald 0 (ab_cV w 1 10 s_X10_remember (ab_ald 0 (ab_gr w 10 3 (ab_ild 1 (ab_ild 2 (ab_ild 3 (ab_cN w 4 s_X10_deliverIn (ab_ir Kn))))))))) (ab_ci (nI 0) (ab_ir Kn)))
set_option maxRecDepth 20000 in
set_option maxHeartbeats 2000000 in
theorem vc_X10_deliver {l : Launch} (hl : l.stackTraces = false) {w : ab_W} (hI : ab_Inj w) {mc : Nat} {σ : ab_H} {As : List Value} {Kn : Option Value → ab_H → Prop} {Kx : String → ab_H → Prop} {s_X10_isStation : ab_S} (ok_X10_isStation : ab_OkN l yX10_isStation (Cond.code yX10_isStation cX10_isStation 2 (some .boolean)) 2 s_X10_isStation) {s_X10_isLoad : ab_S} (ok_X10_isLoad : ab_OkN l yX10_isLoad (Cond.code yX10_isLoad cX10_isLoad 2 (some .boolean)) 2 s_X10_isLoad) {s_X10_canDeliver : ab_S} (ok_X10_canDeliver : ab_OkN l yX10_canDeliver (Cond.code yX10_canDeliver cX10_canDeliver 3 (some .boolean)) 1 s_X10_canDeliver) {s_X10_refused : ab_S} (ok_X10_refused : ab_OkN l yX10_refused (Cond.code yX10_refused cX10_refused 2 (some .boolean)) 1 s_X10_refused) {s_X10_remember : ab_S} (ok_X10_remember : ab_OkN l yX10_remember (Cond.code yX10_remember cX10_remember 1 none) 2 s_X10_remember) {s_X10_deliverIn : ab_S} (ok_X10_deliverIn : ab_OkN l yX10_deliverIn (Cond.code yX10_deliverIn cX10_deliverIn 6 (some .int)) 2 s_X10_deliverIn) (hlen : (ab_xl As).length ≤ 4) (h : ∀ M : Nat → ab_P, (∀ L st σ, bX10_deliver_0 w s_X10_isStation s_X10_isLoad s_X10_canDeliver s_X10_refused s_X10_remember s_X10_deliverIn M Kn L st σ → M 0 L st σ) → (∀ L st σ, bX10_deliver_42 w s_X10_isStation s_X10_isLoad s_X10_canDeliver s_X10_refused s_X10_remember s_X10_deliverIn M Kn L st σ → M 42 L st σ) → M 0 (ab_pd 4 (ab_xl As)) [] σ) : ab_Met l yX10_deliver (Cond.code yX10_deliver cX10_deliver 4 (some .int)) 3 mc w σ As Kn Kx := by
  refine ab_enter (by decide) hl hI hlen (by decide) ?_
  intro p e R s m args below meth c C hno hr
  exact h _ (sd_aload_n C (i := 0) dX10_deliver_0 rfl (sd_aload_n C (i := 0) dX10_deliver_1 rfl (sd_iload_n C (i := 1) dX10_deliver_2 rfl (sd_cV C ok_X10_isStation (ci := 10) (row := (RX10, TX10, 15)) rfl rfl ⟨by decide, by decide, wd_1202, wd_11, by decide +kernel⟩ wd_1199 wd_1201 ws_30 dX10_deliver_3 (sd_if_ne C dX10_deliver_6 (tgt := 13) (by decide) (sd_iload_n C (i := 2) dX10_deliver_13 rfl (sd_iload_n C (i := 3) dX10_deliver_14 rfl (sd_cS C ok_X10_isLoad ⟨by decide, by decide, wd_1253, wd_11, by decide +kernel⟩ wd_1251 wd_1252 dX10_deliver_15 (sd_if_ne C dX10_deliver_18 (tgt := 25) (by decide) (sd_aload_n C (i := 0) dX10_deliver_25 rfl (sd_gr C (ci := 10) (k := 7) (r := (RX10, TX10, 15)) rfl (by decide) rfl wd_995 dX10_deliver_26 (sd_iload_n C (i := 2) dX10_deliver_29 rfl (sd_iload_n C (i := 3) dX10_deliver_30 rfl (sd_cS C ok_X10_canDeliver ⟨by decide, by decide, wd_1118, wd_11, by decide +kernel⟩ wd_1116 wd_1117 dX10_deliver_31 (sd_if_eq C dX10_deliver_34 (tgt := 41) (by decide) (sd_iconst C (x := nI 3) dX10_deliver_41 (by decide +kernel) (fun _ _ _ h => h)) (sd_iconst C (x := nI 0) dX10_deliver_37 (by decide +kernel) (sd_goto C dX10_deliver_38 (tgt := 42) (by decide) (fun _ _ _ h => h))))))))) (sd_iconst C (x := nI 2) dX10_deliver_21 (by decide +kernel) (sd_goto C dX10_deliver_22 (tgt := 42) (by decide) (fun _ _ _ h => h))))))) (sd_iconst C (x := nI 1) dX10_deliver_9 (by decide +kernel) (sd_goto C dX10_deliver_10 (tgt := 42) (by decide) (fun _ _ _ h => h))))))))
    (sd_cV C ok_X10_refused (ci := 10) (row := (RX10, TX10, 15)) rfl rfl ⟨by decide, by decide, wd_1050, wd_11, by decide +kernel⟩ wd_1047 wd_1049 ws_15 dX10_deliver_42 (sd_if_eq C dX10_deliver_45 (tgt := 50) (by decide) (sd_aload_n C (i := 0) dX10_deliver_50 rfl (sd_cV C ok_X10_remember (ci := 10) (row := (RX10, TX10, 15)) rfl rfl ⟨by decide, by decide, wd_1258, wd_11, by decide +kernel⟩ wd_1255 wd_1257 ws_33 dX10_deliver_51 (sd_aload_n C (i := 0) dX10_deliver_54 rfl (sd_gr C (ci := 10) (k := 7) (r := (RX10, TX10, 15)) rfl (by decide) rfl wd_995 dX10_deliver_55 (sd_iload_n C (i := 1) dX10_deliver_58 rfl (sd_iload_n C (i := 2) dX10_deliver_59 rfl (sd_iload_n C (i := 3) dX10_deliver_60 rfl (sd_cS C ok_X10_deliverIn ⟨by decide, by decide, wd_1121, wd_11, by decide +kernel⟩ wd_1119 wd_1120 dX10_deliver_61 (sd_ir C hr dX10_deliver_64))))))))) (sd_iconst C (x := nI 0) dX10_deliver_48 (by decide +kernel) (sd_ir C hr dX10_deliver_49))))
theorem dX10_move_0 : decode cX10_move 0 = .ok (.aload_n 0, 1) := by decide +kernel
theorem dX10_move_1 : decode cX10_move 1 = .ok (.aload_n 0, 1) := by decide +kernel
theorem dX10_move_2 : decode cX10_move 2 = .ok (.iload_n 1, 1) := by decide +kernel
theorem dX10_move_3 : decode cX10_move 3 = .ok (.invokevirtual 209, 3) := by decide +kernel
theorem dX10_move_6 : decode cX10_move 6 = .ok (.ifCond .eq 11, 3) := by decide +kernel
theorem dX10_move_9 : decode cX10_move 9 = .ok (.aload_n 0, 1) := by decide +kernel
theorem dX10_move_10 : decode cX10_move 10 = .ok (.iload_n 2, 1) := by decide +kernel
theorem dX10_move_11 : decode cX10_move 11 = .ok (.invokevirtual 209, 3) := by decide +kernel
theorem dX10_move_14 : decode cX10_move 14 = .ok (.ifCond .ne 7, 3) := by decide +kernel
theorem dX10_move_17 : decode cX10_move 17 = .ok (.iconst 1, 1) := by decide +kernel
theorem dX10_move_18 : decode cX10_move 18 = .ok (.goto 20, 3) := by decide +kernel
theorem dX10_move_21 : decode cX10_move 21 = .ok (.aload_n 0, 1) := by decide +kernel
theorem dX10_move_22 : decode cX10_move 22 = .ok (.getfield 16, 3) := by decide +kernel
theorem dX10_move_25 : decode cX10_move 25 = .ok (.iload_n 1, 1) := by decide +kernel
theorem dX10_move_26 : decode cX10_move 26 = .ok (.iload_n 2, 1) := by decide +kernel
theorem dX10_move_27 : decode cX10_move 27 = .ok (.invokestatic 255, 3) := by decide +kernel
theorem dX10_move_30 : decode cX10_move 30 = .ok (.ifCond .eq 7, 3) := by decide +kernel
theorem dX10_move_33 : decode cX10_move 33 = .ok (.iconst 0, 1) := by decide +kernel
theorem dX10_move_34 : decode cX10_move 34 = .ok (.goto 4, 3) := by decide +kernel
theorem dX10_move_37 : decode cX10_move 37 = .ok (.iconst 2, 1) := by decide +kernel
theorem dX10_move_38 : decode cX10_move 38 = .ok (.invokevirtual 127, 3) := by decide +kernel
theorem dX10_move_41 : decode cX10_move 41 = .ok (.ifCond .eq 5, 3) := by decide +kernel
theorem dX10_move_44 : decode cX10_move 44 = .ok (.iconst 0, 1) := by decide +kernel
theorem dX10_move_45 : decode cX10_move 45 = .ok (.ireturn, 1) := by decide +kernel
theorem dX10_move_46 : decode cX10_move 46 = .ok (.aload_n 0, 1) := by decide +kernel
theorem dX10_move_47 : decode cX10_move 47 = .ok (.invokevirtual 240, 3) := by decide +kernel
theorem dX10_move_50 : decode cX10_move 50 = .ok (.aload_n 0, 1) := by decide +kernel
theorem dX10_move_51 : decode cX10_move 51 = .ok (.getfield 16, 3) := by decide +kernel
theorem dX10_move_54 : decode cX10_move 54 = .ok (.iload_n 1, 1) := by decide +kernel
theorem dX10_move_55 : decode cX10_move 55 = .ok (.iload_n 2, 1) := by decide +kernel
theorem dX10_move_56 : decode cX10_move 56 = .ok (.invokestatic 258, 3) := by decide +kernel
theorem dX10_move_59 : decode cX10_move 59 = .ok (.ireturn, 1) := by decide +kernel
def bX10_move_0 (w : ab_W) (s_X10_isStation : ab_S) (s_X10_canMove : ab_S) (s_X10_refused : ab_S) (s_X10_remember : ab_S) (s_X10_moveIn : ab_S) (M : Nat → ab_P) (Kn : Option Value → ab_H → Prop) : ab_P := ab_ald 0 (ab_ald 0 (ab_ild 1 (ab_cV w 2 10 s_X10_isStation (ab_if1 (fun x => x = 0) (M 17) (ab_ald 0 (ab_ild 2 (ab_cV w 2 10 s_X10_isStation (ab_if1 (fun x => ¬ x = 0) (ab_ald 0 (ab_gr w 10 3 (ab_ild 1 (ab_ild 2 (ab_cN w 3 s_X10_canMove (ab_if1 (fun x => x = 0) (ab_ci (nI 2) (M 38)) (ab_ci (nI 0) (M 38)))))))) (M 17)))))))))
def bX10_move_17 (w : ab_W) (s_X10_isStation : ab_S) (s_X10_canMove : ab_S) (s_X10_refused : ab_S) (s_X10_remember : ab_S) (s_X10_moveIn : ab_S) (M : Nat → ab_P) (Kn : Option Value → ab_H → Prop) : ab_P := ab_ci (nI 1) (M 38)
def bX10_move_38 (w : ab_W) (s_X10_isStation : ab_S) (s_X10_canMove : ab_S) (s_X10_refused : ab_S) (s_X10_remember : ab_S) (s_X10_moveIn : ab_S) (M : Nat → ab_P) (Kn : Option Value → ab_H → Prop) : ab_P := ab_cV w 2 10 s_X10_refused (ab_if1 (fun x => x = 0) (ab_ald 0 (ab_cV w 1 10 s_X10_remember (ab_ald 0 (ab_gr w 10 3 (ab_ild 1 (ab_ild 2 (ab_cN w 3 s_X10_moveIn (ab_ir Kn)))))))) (ab_ci (nI 0) (ab_ir Kn)))
set_option maxRecDepth 20000 in
set_option maxHeartbeats 2000000 in
theorem vc_X10_move {l : Launch} (hl : l.stackTraces = false) {w : ab_W} (hI : ab_Inj w) {mc : Nat} {σ : ab_H} {As : List Value} {Kn : Option Value → ab_H → Prop} {Kx : String → ab_H → Prop} {s_X10_isStation : ab_S} (ok_X10_isStation : ab_OkN l yX10_isStation (Cond.code yX10_isStation cX10_isStation 2 (some .boolean)) 2 s_X10_isStation) {s_X10_canMove : ab_S} (ok_X10_canMove : ab_OkN l yX10_canMove (Cond.code yX10_canMove cX10_canMove 3 (some .boolean)) 3 s_X10_canMove) {s_X10_refused : ab_S} (ok_X10_refused : ab_OkN l yX10_refused (Cond.code yX10_refused cX10_refused 2 (some .boolean)) 1 s_X10_refused) {s_X10_remember : ab_S} (ok_X10_remember : ab_OkN l yX10_remember (Cond.code yX10_remember cX10_remember 1 none) 2 s_X10_remember) {s_X10_moveIn : ab_S} (ok_X10_moveIn : ab_OkN l yX10_moveIn (Cond.code yX10_moveIn cX10_moveIn 4 (some .int)) 3 s_X10_moveIn) (hlen : (ab_xl As).length ≤ 3) (h : ∀ M : Nat → ab_P, (∀ L st σ, bX10_move_0 w s_X10_isStation s_X10_canMove s_X10_refused s_X10_remember s_X10_moveIn M Kn L st σ → M 0 L st σ) → (∀ L st σ, bX10_move_17 w s_X10_isStation s_X10_canMove s_X10_refused s_X10_remember s_X10_moveIn M Kn L st σ → M 17 L st σ) → (∀ L st σ, bX10_move_38 w s_X10_isStation s_X10_canMove s_X10_refused s_X10_remember s_X10_moveIn M Kn L st σ → M 38 L st σ) → M 0 (ab_pd 3 (ab_xl As)) [] σ) : ab_Met l yX10_move (Cond.code yX10_move cX10_move 3 (some .int)) 4 mc w σ As Kn Kx := by
  refine ab_enter (by decide) hl hI hlen (by decide) ?_
  intro p e R s m args below meth c C hno hr
  exact h _ (sd_aload_n C (i := 0) dX10_move_0 rfl (sd_aload_n C (i := 0) dX10_move_1 rfl (sd_iload_n C (i := 1) dX10_move_2 rfl (sd_cV C ok_X10_isStation (ci := 10) (row := (RX10, TX10, 15)) rfl rfl ⟨by decide, by decide, wd_1202, wd_11, by decide +kernel⟩ wd_1199 wd_1201 ws_30 dX10_move_3 (sd_if_eq C dX10_move_6 (tgt := 17) (by decide) (fun _ _ _ h => h) (sd_aload_n C (i := 0) dX10_move_9 rfl (sd_iload_n C (i := 2) dX10_move_10 rfl (sd_cV C ok_X10_isStation (ci := 10) (row := (RX10, TX10, 15)) rfl rfl ⟨by decide, by decide, wd_1202, wd_11, by decide +kernel⟩ wd_1199 wd_1201 ws_30 dX10_move_11 (sd_if_ne C dX10_move_14 (tgt := 21) (by decide) (sd_aload_n C (i := 0) dX10_move_21 rfl (sd_gr C (ci := 10) (k := 7) (r := (RX10, TX10, 15)) rfl (by decide) rfl wd_995 dX10_move_22 (sd_iload_n C (i := 1) dX10_move_25 rfl (sd_iload_n C (i := 2) dX10_move_26 rfl (sd_cS C ok_X10_canMove ⟨by decide, by decide, wd_1290, wd_11, by decide +kernel⟩ wd_1288 wd_1289 dX10_move_27 (sd_if_eq C dX10_move_30 (tgt := 37) (by decide) (sd_iconst C (x := nI 2) dX10_move_37 (by decide +kernel) (fun _ _ _ h => h)) (sd_iconst C (x := nI 0) dX10_move_33 (by decide +kernel) (sd_goto C dX10_move_34 (tgt := 38) (by decide) (fun _ _ _ h => h))))))))) (fun _ _ _ h => h))))))))))
    (sd_iconst C (x := nI 1) dX10_move_17 (by decide +kernel) (sd_goto C dX10_move_18 (tgt := 38) (by decide) (fun _ _ _ h => h)))
    (sd_cV C ok_X10_refused (ci := 10) (row := (RX10, TX10, 15)) rfl rfl ⟨by decide, by decide, wd_1050, wd_11, by decide +kernel⟩ wd_1047 wd_1049 ws_15 dX10_move_38 (sd_if_eq C dX10_move_41 (tgt := 46) (by decide) (sd_aload_n C (i := 0) dX10_move_46 rfl (sd_cV C ok_X10_remember (ci := 10) (row := (RX10, TX10, 15)) rfl rfl ⟨by decide, by decide, wd_1258, wd_11, by decide +kernel⟩ wd_1255 wd_1257 ws_33 dX10_move_47 (sd_aload_n C (i := 0) dX10_move_50 rfl (sd_gr C (ci := 10) (k := 7) (r := (RX10, TX10, 15)) rfl (by decide) rfl wd_995 dX10_move_51 (sd_iload_n C (i := 1) dX10_move_54 rfl (sd_iload_n C (i := 2) dX10_move_55 rfl (sd_cS C ok_X10_moveIn ⟨by decide, by decide, wd_1293, wd_11, by decide +kernel⟩ wd_1291 wd_1292 dX10_move_56 (sd_ir C hr dX10_move_59)))))))) (sd_iconst C (x := nI 0) dX10_move_44 (by decide +kernel) (sd_ir C hr dX10_move_45))))
theorem dX10_isRun_0 : decode cX10_isRun 0 = .ok (.iload_n 0, 1) := by decide +kernel
theorem dX10_isRun_1 : decode cX10_isRun 1 = .ok (.i2l, 1) := by decide +kernel
theorem dX10_isRun_2 : decode cX10_isRun 2 = .ok (.lconst 1, 1) := by decide +kernel
theorem dX10_isRun_3 : decode cX10_isRun 3 = .ok (.ldc2_w 261, 3) := by decide +kernel
theorem dX10_isRun_6 : decode cX10_isRun 6 = .ok (.invokestatic 62, 3) := by decide +kernel
theorem dX10_isRun_9 : decode cX10_isRun 9 = .ok (.ireturn, 1) := by decide +kernel
def bX10_isRun_0 (w : ab_W) (s_X10_in : ab_S) (M : Nat → ab_P) (Kn : Option Value → ab_H → Prop) : ab_P := ab_ild 0 (ab_i2l (ab_cl (lN 1) (ab_cl (40) (ab_cN w 3 s_X10_in (ab_zr Kn)))))
set_option maxRecDepth 20000 in
set_option maxHeartbeats 2000000 in
theorem vc_X10_isRun {l : Launch} (hl : l.stackTraces = false) {w : ab_W} (hI : ab_Inj w) {mc : Nat} {σ : ab_H} {As : List Value} {Kn : Option Value → ab_H → Prop} {Kx : String → ab_H → Prop} {s_X10_in : ab_S} (ok_X10_in : ab_OkN l yX10_in (Cond.code yX10_in cX10_in 6 (some .boolean)) 1 s_X10_in) (hlen : (ab_xl As).length ≤ 1) (h : ∀ M : Nat → ab_P, (∀ L st σ, bX10_isRun_0 w s_X10_in M Kn L st σ → M 0 L st σ) → M 0 (ab_pd 1 (ab_xl As)) [] σ) : ab_Met l yX10_isRun (Cond.code yX10_isRun cX10_isRun 1 (some .boolean)) 2 mc w σ As Kn Kx := by
  refine ab_enter (by decide) hl hI hlen (by decide) ?_
  intro p e R s m args below meth c C hno hr
  exact h _ (sd_iload_n C (i := 0) dX10_isRun_0 rfl (sd_i2l C dX10_isRun_1 (sd_lconst C (x := lN 1) dX10_isRun_2 (by decide +kernel) (sd_ldc2 C (x := 40) dX10_isRun_3 wd_1301 (sd_cS C ok_X10_in ⟨by decide, by decide, wd_1046, wd_11, by decide +kernel⟩ wd_1044 wd_1045 dX10_isRun_6 (sd_zr C hr dX10_isRun_9))))))
theorem dX10_run_0 : decode cX10_run 0 = .ok (.aload_n 0, 1) := by decide +kernel
theorem dX10_run_1 : decode cX10_run 1 = .ok (.iload_n 1, 1) := by decide +kernel
theorem dX10_run_2 : decode cX10_run 2 = .ok (.invokestatic 263, 3) := by decide +kernel
theorem dX10_run_5 : decode cX10_run 5 = .ok (.ifCond .eq 7, 3) := by decide +kernel
theorem dX10_run_8 : decode cX10_run 8 = .ok (.iconst 0, 1) := by decide +kernel
theorem dX10_run_9 : decode cX10_run 9 = .ok (.goto 4, 3) := by decide +kernel
theorem dX10_run_12 : decode cX10_run 12 = .ok (.iconst 1, 1) := by decide +kernel
theorem dX10_run_13 : decode cX10_run 13 = .ok (.invokevirtual 127, 3) := by decide +kernel
theorem dX10_run_16 : decode cX10_run 16 = .ok (.ifCond .eq 5, 3) := by decide +kernel
theorem dX10_run_19 : decode cX10_run 19 = .ok (.iconst 0, 1) := by decide +kernel
theorem dX10_run_20 : decode cX10_run 20 = .ok (.ireturn, 1) := by decide +kernel
theorem dX10_run_21 : decode cX10_run 21 = .ok (.aload_n 0, 1) := by decide +kernel
theorem dX10_run_22 : decode cX10_run 22 = .ok (.invokevirtual 240, 3) := by decide +kernel
theorem dX10_run_25 : decode cX10_run 25 = .ok (.aload_n 0, 1) := by decide +kernel
theorem dX10_run_26 : decode cX10_run 26 = .ok (.iconst (-1), 1) := by decide +kernel
theorem dX10_run_27 : decode cX10_run 27 = .ok (.putfield 49, 3) := by decide +kernel
theorem dX10_run_30 : decode cX10_run 30 = .ok (.aload_n 0, 1) := by decide +kernel
theorem dX10_run_31 : decode cX10_run 31 = .ok (.aload_n 0, 1) := by decide +kernel
theorem dX10_run_32 : decode cX10_run 32 = .ok (.getfield 16, 3) := by decide +kernel
theorem dX10_run_35 : decode cX10_run 35 = .ok (.iload_n 1, 1) := by decide +kernel
theorem dX10_run_36 : decode cX10_run 36 = .ok (.invokevirtual 175, 3) := by decide +kernel
theorem dX10_run_39 : decode cX10_run 39 = .ok (.ireturn, 1) := by decide +kernel
def bX10_run_0 (w : ab_W) (s_X10_isRun : ab_S) (s_X10_refused : ab_S) (s_X10_remember : ab_S) (s_X10_runIn : ab_S) (M : Nat → ab_P) (Kn : Option Value → ab_H → Prop) : ab_P := ab_ald 0 (ab_ild 1 (ab_cN w 1 s_X10_isRun (ab_if1 (fun x => x = 0) (ab_ci (nI 1) (M 13)) (ab_ci (nI 0) (M 13)))))
def bX10_run_13 (w : ab_W) (s_X10_isRun : ab_S) (s_X10_refused : ab_S) (s_X10_remember : ab_S) (s_X10_runIn : ab_S) (M : Nat → ab_P) (Kn : Option Value → ab_H → Prop) : ab_P := ab_cV w 2 10 s_X10_refused (ab_if1 (fun x => x = 0) (ab_ald 0 (ab_cV w 1 10 s_X10_remember (ab_ald 0 (ab_ci (-1) (ab_pf w 10 13 (ab_ald 0 (ab_ald 0 (ab_gr w 10 3 (ab_ild 1 (ab_cV w 3 10 s_X10_runIn (ab_ir Kn))))))))))) (ab_ci (nI 0) (ab_ir Kn)))
set_option maxRecDepth 20000 in
set_option maxHeartbeats 2000000 in
theorem vc_X10_run {l : Launch} (hl : l.stackTraces = false) {w : ab_W} (hI : ab_Inj w) {mc : Nat} {σ : ab_H} {As : List Value} {Kn : Option Value → ab_H → Prop} {Kx : String → ab_H → Prop} {s_X10_isRun : ab_S} (ok_X10_isRun : ab_OkN l yX10_isRun (Cond.code yX10_isRun cX10_isRun 1 (some .boolean)) 2 s_X10_isRun) {s_X10_refused : ab_S} (ok_X10_refused : ab_OkN l yX10_refused (Cond.code yX10_refused cX10_refused 2 (some .boolean)) 1 s_X10_refused) {s_X10_remember : ab_S} (ok_X10_remember : ab_OkN l yX10_remember (Cond.code yX10_remember cX10_remember 1 none) 2 s_X10_remember) {s_X10_runIn : ab_S} (ok_X10_runIn : ab_OkN l yX10_runIn (Cond.code yX10_runIn cX10_runIn 5 (some .int)) 5 s_X10_runIn) (hlen : (ab_xl As).length ≤ 2) (h : ∀ M : Nat → ab_P, (∀ L st σ, bX10_run_0 w s_X10_isRun s_X10_refused s_X10_remember s_X10_runIn M Kn L st σ → M 0 L st σ) → (∀ L st σ, bX10_run_13 w s_X10_isRun s_X10_refused s_X10_remember s_X10_runIn M Kn L st σ → M 13 L st σ) → M 0 (ab_pd 2 (ab_xl As)) [] σ) : ab_Met l yX10_run (Cond.code yX10_run cX10_run 2 (some .int)) 6 mc w σ As Kn Kx := by
  refine ab_enter (by decide) hl hI hlen (by decide) ?_
  intro p e R s m args below meth c C hno hr
  exact h _ (sd_aload_n C (i := 0) dX10_run_0 rfl (sd_iload_n C (i := 1) dX10_run_1 rfl (sd_cS C ok_X10_isRun ⟨by decide, by decide, wd_1300, wd_11, by decide +kernel⟩ wd_1298 wd_1299 dX10_run_2 (sd_if_eq C dX10_run_5 (tgt := 12) (by decide) (sd_iconst C (x := nI 1) dX10_run_12 (by decide +kernel) (fun _ _ _ h => h)) (sd_iconst C (x := nI 0) dX10_run_8 (by decide +kernel) (sd_goto C dX10_run_9 (tgt := 13) (by decide) (fun _ _ _ h => h)))))))
    (sd_cV C ok_X10_refused (ci := 10) (row := (RX10, TX10, 15)) rfl rfl ⟨by decide, by decide, wd_1050, wd_11, by decide +kernel⟩ wd_1047 wd_1049 ws_15 dX10_run_13 (sd_if_eq C dX10_run_16 (tgt := 21) (by decide) (sd_aload_n C (i := 0) dX10_run_21 rfl (sd_cV C ok_X10_remember (ci := 10) (row := (RX10, TX10, 15)) rfl rfl ⟨by decide, by decide, wd_1258, wd_11, by decide +kernel⟩ wd_1255 wd_1257 ws_33 dX10_run_22 (sd_aload_n C (i := 0) dX10_run_25 rfl (sd_iconst C (x := -1) dX10_run_26 (by decide +kernel) (sd_pf C (ci := 10) (k := 13) (r := (RX10, TX10, 15)) rfl (by decide) rfl rfl (by decide +kernel) wd_1001 dX10_run_27 (sd_aload_n C (i := 0) dX10_run_30 rfl (sd_aload_n C (i := 0) dX10_run_31 rfl (sd_gr C (ci := 10) (k := 7) (r := (RX10, TX10, 15)) rfl (by decide) rfl wd_995 dX10_run_32 (sd_iload_n C (i := 1) dX10_run_35 rfl (sd_cV C ok_X10_runIn (ci := 10) (row := (RX10, TX10, 15)) rfl rfl ⟨by decide, by decide, wd_1132, wd_11, by decide +kernel⟩ wd_1129 wd_1131 ws_28 dX10_run_36 (sd_ir C hr dX10_run_39))))))))))) (sd_iconst C (x := nI 0) dX10_run_19 (by decide +kernel) (sd_ir C hr dX10_run_20))))
theorem dX10_isSetting_0 : decode cX10_isSetting 0 = .ok (.iload_n 0, 1) := by decide +kernel
theorem dX10_isSetting_1 : decode cX10_isSetting 1 = .ok (.ifCond .ne 8, 3) := by decide +kernel
theorem dX10_isSetting_4 : decode cX10_isSetting 4 = .ok (.bipush 30, 2) := by decide +kernel
theorem dX10_isSetting_6 : decode cX10_isSetting 6 = .ok (.goto 14, 3) := by decide +kernel
theorem dX10_isSetting_9 : decode cX10_isSetting 9 = .ok (.iload_n 0, 1) := by decide +kernel
theorem dX10_isSetting_10 : decode cX10_isSetting 10 = .ok (.iconst 1, 1) := by decide +kernel
theorem dX10_isSetting_11 : decode cX10_isSetting 11 = .ok (.if_icmp .ne 7, 3) := by decide +kernel
theorem dX10_isSetting_14 : decode cX10_isSetting 14 = .ok (.iconst 5, 1) := by decide +kernel
theorem dX10_isSetting_15 : decode cX10_isSetting 15 = .ok (.goto 5, 3) := by decide +kernel
theorem dX10_isSetting_18 : decode cX10_isSetting 18 = .ok (.bipush 99, 2) := by decide +kernel
theorem dX10_isSetting_20 : decode cX10_isSetting 20 = .ok (.istore_n 2, 1) := by decide +kernel
theorem dX10_isSetting_21 : decode cX10_isSetting 21 = .ok (.iload_n 0, 1) := by decide +kernel
theorem dX10_isSetting_22 : decode cX10_isSetting 22 = .ok (.i2l, 1) := by decide +kernel
theorem dX10_isSetting_23 : decode cX10_isSetting 23 = .ok (.lconst 0, 1) := by decide +kernel
theorem dX10_isSetting_24 : decode cX10_isSetting 24 = .ok (.ldc2_w 218, 3) := by decide +kernel
theorem dX10_isSetting_27 : decode cX10_isSetting 27 = .ok (.invokestatic 62, 3) := by decide +kernel
theorem dX10_isSetting_30 : decode cX10_isSetting 30 = .ok (.ifCond .eq 27, 3) := by decide +kernel
theorem dX10_isSetting_33 : decode cX10_isSetting 33 = .ok (.iload_n 1, 1) := by decide +kernel
theorem dX10_isSetting_34 : decode cX10_isSetting 34 = .ok (.i2l, 1) := by decide +kernel
theorem dX10_isSetting_35 : decode cX10_isSetting 35 = .ok (.iload_n 0, 1) := by decide +kernel
theorem dX10_isSetting_36 : decode cX10_isSetting 36 = .ok (.iconst 2, 1) := by decide +kernel
theorem dX10_isSetting_37 : decode cX10_isSetting 37 = .ok (.if_icmp .ge 7, 3) := by decide +kernel
theorem dX10_isSetting_40 : decode cX10_isSetting 40 = .ok (.lconst 1, 1) := by decide +kernel
theorem dX10_isSetting_41 : decode cX10_isSetting 41 = .ok (.goto 4, 3) := by decide +kernel
theorem dX10_isSetting_44 : decode cX10_isSetting 44 = .ok (.lconst 0, 1) := by decide +kernel
theorem dX10_isSetting_45 : decode cX10_isSetting 45 = .ok (.iload_n 2, 1) := by decide +kernel
theorem dX10_isSetting_46 : decode cX10_isSetting 46 = .ok (.i2l, 1) := by decide +kernel
theorem dX10_isSetting_47 : decode cX10_isSetting 47 = .ok (.invokestatic 62, 3) := by decide +kernel
theorem dX10_isSetting_50 : decode cX10_isSetting 50 = .ok (.ifCond .eq 7, 3) := by decide +kernel
theorem dX10_isSetting_53 : decode cX10_isSetting 53 = .ok (.iconst 1, 1) := by decide +kernel
theorem dX10_isSetting_54 : decode cX10_isSetting 54 = .ok (.goto 4, 3) := by decide +kernel
theorem dX10_isSetting_57 : decode cX10_isSetting 57 = .ok (.iconst 0, 1) := by decide +kernel
theorem dX10_isSetting_58 : decode cX10_isSetting 58 = .ok (.ireturn, 1) := by decide +kernel
def bX10_isSetting_0 (w : ab_W) (s_X10_in : ab_S) (M : Nat → ab_P) (Kn : Option Value → ab_H → Prop) : ab_P := ab_ild 0 (ab_if1 (fun x => ¬ x = 0) (ab_ild 0 (ab_ci (nI 1) (ab_if2 (fun x y => ¬ x = y) (ab_ci (nI 99) (M 20)) (ab_ci (nI 5) (M 20))))) (ab_ci (nI 30) (M 20)))
def bX10_isSetting_20 (w : ab_W) (s_X10_in : ab_S) (M : Nat → ab_P) (Kn : Option Value → ab_H → Prop) : ab_P := ab_ist 2 (ab_ild 0 (ab_i2l (ab_cl (lN 0) (ab_cl (4) (ab_cN w 3 s_X10_in (ab_if1 (fun x => x = 0) (M 57) (ab_ild 1 (ab_i2l (ab_ild 0 (ab_ci (nI 2) (ab_if2 (fun x y => y ≤ x) (ab_cl (lN 0) (M 45)) (ab_cl (lN 1) (M 45)))))))))))))
def bX10_isSetting_45 (w : ab_W) (s_X10_in : ab_S) (M : Nat → ab_P) (Kn : Option Value → ab_H → Prop) : ab_P := ab_ild 2 (ab_i2l (ab_cN w 3 s_X10_in (ab_if1 (fun x => x = 0) (M 57) (ab_ci (nI 1) (M 58)))))
def bX10_isSetting_57 (w : ab_W) (s_X10_in : ab_S) (M : Nat → ab_P) (Kn : Option Value → ab_H → Prop) : ab_P := ab_ci (nI 0) (M 58)
def bX10_isSetting_58 (w : ab_W) (s_X10_in : ab_S) (M : Nat → ab_P) (Kn : Option Value → ab_H → Prop) : ab_P := ab_zr Kn
set_option maxRecDepth 20000 in
set_option maxHeartbeats 2000000 in
theorem vc_X10_isSetting {l : Launch} (hl : l.stackTraces = false) {w : ab_W} (hI : ab_Inj w) {mc : Nat} {σ : ab_H} {As : List Value} {Kn : Option Value → ab_H → Prop} {Kx : String → ab_H → Prop} {s_X10_in : ab_S} (ok_X10_in : ab_OkN l yX10_in (Cond.code yX10_in cX10_in 6 (some .boolean)) 1 s_X10_in) (hlen : (ab_xl As).length ≤ 3) (h : ∀ M : Nat → ab_P, (∀ L st σ, bX10_isSetting_0 w s_X10_in M Kn L st σ → M 0 L st σ) → (∀ L st σ, bX10_isSetting_20 w s_X10_in M Kn L st σ → M 20 L st σ) → (∀ L st σ, bX10_isSetting_45 w s_X10_in M Kn L st σ → M 45 L st σ) → (∀ L st σ, bX10_isSetting_57 w s_X10_in M Kn L st σ → M 57 L st σ) → (∀ L st σ, bX10_isSetting_58 w s_X10_in M Kn L st σ → M 58 L st σ) → M 0 (ab_pd 3 (ab_xl As)) [] σ) : ab_Met l yX10_isSetting (Cond.code yX10_isSetting cX10_isSetting 3 (some .boolean)) 2 mc w σ As Kn Kx := by
  refine ab_enter (by decide) hl hI hlen (by decide) ?_
  intro p e R s m args below meth c C hno hr
  exact h _ (sd_iload_n C (i := 0) dX10_isSetting_0 rfl (sd_if_ne C dX10_isSetting_1 (tgt := 9) (by decide) (sd_iload_n C (i := 0) dX10_isSetting_9 rfl (sd_iconst C (x := nI 1) dX10_isSetting_10 (by decide +kernel) (sd_icmp_ne C dX10_isSetting_11 (tgt := 18) (by decide) (sd_bipush C (x := nI 99) dX10_isSetting_18 (by decide +kernel) (fun _ _ _ h => h)) (sd_iconst C (x := nI 5) dX10_isSetting_14 (by decide +kernel) (sd_goto C dX10_isSetting_15 (tgt := 20) (by decide) (fun _ _ _ h => h)))))) (sd_bipush C (x := nI 30) dX10_isSetting_4 (by decide +kernel) (sd_goto C dX10_isSetting_6 (tgt := 20) (by decide) (fun _ _ _ h => h)))))
    (sd_istore_n C (i := 2) dX10_isSetting_20 rfl (by decide) (sd_iload_n C (i := 0) dX10_isSetting_21 rfl (sd_i2l C dX10_isSetting_22 (sd_lconst C (x := lN 0) dX10_isSetting_23 (by decide +kernel) (sd_ldc2 C (x := 4) dX10_isSetting_24 wd_1216 (sd_cS C ok_X10_in ⟨by decide, by decide, wd_1046, wd_11, by decide +kernel⟩ wd_1044 wd_1045 dX10_isSetting_27 (sd_if_eq C dX10_isSetting_30 (tgt := 57) (by decide) (fun _ _ _ h => h) (sd_iload_n C (i := 1) dX10_isSetting_33 rfl (sd_i2l C dX10_isSetting_34 (sd_iload_n C (i := 0) dX10_isSetting_35 rfl (sd_iconst C (x := nI 2) dX10_isSetting_36 (by decide +kernel) (sd_icmp_ge C dX10_isSetting_37 (tgt := 44) (by decide) (sd_lconst C (x := lN 0) dX10_isSetting_44 (by decide +kernel) (fun _ _ _ h => h)) (sd_lconst C (x := lN 1) dX10_isSetting_40 (by decide +kernel) (sd_goto C dX10_isSetting_41 (tgt := 45) (by decide) (fun _ _ _ h => h)))))))))))))))
    (sd_iload_n C (i := 2) dX10_isSetting_45 rfl (sd_i2l C dX10_isSetting_46 (sd_cS C ok_X10_in ⟨by decide, by decide, wd_1046, wd_11, by decide +kernel⟩ wd_1044 wd_1045 dX10_isSetting_47 (sd_if_eq C dX10_isSetting_50 (tgt := 57) (by decide) (fun _ _ _ h => h) (sd_iconst C (x := nI 1) dX10_isSetting_53 (by decide +kernel) (sd_goto C dX10_isSetting_54 (tgt := 58) (by decide) (fun _ _ _ h => h)))))))
    (sd_iconst C (x := nI 0) dX10_isSetting_57 (by decide +kernel) (fun _ _ _ h => h))
    (sd_zr C hr dX10_isSetting_58)
theorem dX10_set_0 : decode cX10_set 0 = .ok (.aload_n 0, 1) := by decide +kernel
theorem dX10_set_1 : decode cX10_set 1 = .ok (.iload_n 1, 1) := by decide +kernel
theorem dX10_set_2 : decode cX10_set 2 = .ok (.iload_n 2, 1) := by decide +kernel
theorem dX10_set_3 : decode cX10_set 3 = .ok (.invokestatic 266, 3) := by decide +kernel
theorem dX10_set_6 : decode cX10_set 6 = .ok (.ifCond .eq 7, 3) := by decide +kernel
theorem dX10_set_9 : decode cX10_set 9 = .ok (.iconst 0, 1) := by decide +kernel
theorem dX10_set_10 : decode cX10_set 10 = .ok (.goto 4, 3) := by decide +kernel
theorem dX10_set_13 : decode cX10_set 13 = .ok (.iconst 1, 1) := by decide +kernel
theorem dX10_set_14 : decode cX10_set 14 = .ok (.invokevirtual 127, 3) := by decide +kernel
theorem dX10_set_17 : decode cX10_set 17 = .ok (.ifCond .eq 5, 3) := by decide +kernel
theorem dX10_set_20 : decode cX10_set 20 = .ok (.iconst 0, 1) := by decide +kernel
theorem dX10_set_21 : decode cX10_set 21 = .ok (.ireturn, 1) := by decide +kernel
theorem dX10_set_22 : decode cX10_set 22 = .ok (.aload_n 0, 1) := by decide +kernel
theorem dX10_set_23 : decode cX10_set 23 = .ok (.invokevirtual 240, 3) := by decide +kernel
theorem dX10_set_26 : decode cX10_set 26 = .ok (.aload_n 0, 1) := by decide +kernel
theorem dX10_set_27 : decode cX10_set 27 = .ok (.getfield 16, 3) := by decide +kernel
theorem dX10_set_30 : decode cX10_set 30 = .ok (.bipush 12, 2) := by decide +kernel
theorem dX10_set_32 : decode cX10_set 32 = .ok (.iload_n 1, 1) := by decide +kernel
theorem dX10_set_33 : decode cX10_set 33 = .ok (.iadd, 1) := by decide +kernel
theorem dX10_set_34 : decode cX10_set 34 = .ok (.iaload, 1) := by decide +kernel
theorem dX10_set_35 : decode cX10_set 35 = .ok (.istore_n 3, 1) := by decide +kernel
theorem dX10_set_36 : decode cX10_set 36 = .ok (.aload_n 0, 1) := by decide +kernel
theorem dX10_set_37 : decode cX10_set 37 = .ok (.getfield 16, 3) := by decide +kernel
theorem dX10_set_40 : decode cX10_set 40 = .ok (.bipush 12, 2) := by decide +kernel
theorem dX10_set_42 : decode cX10_set 42 = .ok (.iload_n 1, 1) := by decide +kernel
theorem dX10_set_43 : decode cX10_set 43 = .ok (.iadd, 1) := by decide +kernel
theorem dX10_set_44 : decode cX10_set 44 = .ok (.iload_n 2, 1) := by decide +kernel
theorem dX10_set_45 : decode cX10_set 45 = .ok (.iastore, 1) := by decide +kernel
theorem dX10_set_46 : decode cX10_set 46 = .ok (.iload_n 3, 1) := by decide +kernel
theorem dX10_set_47 : decode cX10_set 47 = .ok (.ireturn, 1) := by decide +kernel
def bX10_set_0 (w : ab_W) (s_X10_isSetting : ab_S) (s_X10_refused : ab_S) (s_X10_remember : ab_S) (M : Nat → ab_P) (Kn : Option Value → ab_H → Prop) : ab_P := ab_ald 0 (ab_ild 1 (ab_ild 2 (ab_cN w 2 s_X10_isSetting (ab_if1 (fun x => x = 0) (ab_ci (nI 1) (M 14)) (ab_ci (nI 0) (M 14))))))
def bX10_set_14 (w : ab_W) (s_X10_isSetting : ab_S) (s_X10_refused : ab_S) (s_X10_remember : ab_S) (M : Nat → ab_P) (Kn : Option Value → ab_H → Prop) : ab_P := ab_cV w 2 10 s_X10_refused (ab_if1 (fun x => x = 0) (ab_ald 0 (ab_cV w 1 10 s_X10_remember (ab_ald 0 (ab_gr w 10 3 (ab_ci (nI 12) (ab_ild 1 (ab_b2 (fun x y => x + y) (ab_ia w 11 (ab_ist 3 (ab_ald 0 (ab_gr w 10 3 (ab_ci (nI 12) (ab_ild 1 (ab_b2 (fun x y => x + y) (ab_ild 2 (ab_is w (ab_ild 3 (ab_ir Kn)))))))))))))))))) (ab_ci (nI 0) (ab_ir Kn)))
set_option maxRecDepth 20000 in
set_option maxHeartbeats 2000000 in
theorem vc_X10_set {l : Launch} (hl : l.stackTraces = false) {w : ab_W} (hI : ab_Inj w) {mc : Nat} {σ : ab_H} {As : List Value} {Kn : Option Value → ab_H → Prop} {Kx : String → ab_H → Prop} {s_X10_isSetting : ab_S} (ok_X10_isSetting : ab_OkN l yX10_isSetting (Cond.code yX10_isSetting cX10_isSetting 3 (some .boolean)) 2 s_X10_isSetting) {s_X10_refused : ab_S} (ok_X10_refused : ab_OkN l yX10_refused (Cond.code yX10_refused cX10_refused 2 (some .boolean)) 1 s_X10_refused) {s_X10_remember : ab_S} (ok_X10_remember : ab_OkN l yX10_remember (Cond.code yX10_remember cX10_remember 1 none) 2 s_X10_remember) (hlen : (ab_xl As).length ≤ 4) (h : ∀ M : Nat → ab_P, (∀ L st σ, bX10_set_0 w s_X10_isSetting s_X10_refused s_X10_remember M Kn L st σ → M 0 L st σ) → (∀ L st σ, bX10_set_14 w s_X10_isSetting s_X10_refused s_X10_remember M Kn L st σ → M 14 L st σ) → M 0 (ab_pd 4 (ab_xl As)) [] σ) : ab_Met l yX10_set (Cond.code yX10_set cX10_set 4 (some .int)) 3 mc w σ As Kn Kx := by
  refine ab_enter (by decide) hl hI hlen (by decide) ?_
  intro p e R s m args below meth c C hno hr
  exact h _ (sd_aload_n C (i := 0) dX10_set_0 rfl (sd_iload_n C (i := 1) dX10_set_1 rfl (sd_iload_n C (i := 2) dX10_set_2 rfl (sd_cS C ok_X10_isSetting ⟨by decide, by decide, wd_1308, wd_11, by decide +kernel⟩ wd_1306 wd_1307 dX10_set_3 (sd_if_eq C dX10_set_6 (tgt := 13) (by decide) (sd_iconst C (x := nI 1) dX10_set_13 (by decide +kernel) (fun _ _ _ h => h)) (sd_iconst C (x := nI 0) dX10_set_9 (by decide +kernel) (sd_goto C dX10_set_10 (tgt := 14) (by decide) (fun _ _ _ h => h))))))))
    (sd_cV C ok_X10_refused (ci := 10) (row := (RX10, TX10, 15)) rfl rfl ⟨by decide, by decide, wd_1050, wd_11, by decide +kernel⟩ wd_1047 wd_1049 ws_15 dX10_set_14 (sd_if_eq C dX10_set_17 (tgt := 22) (by decide) (sd_aload_n C (i := 0) dX10_set_22 rfl (sd_cV C ok_X10_remember (ci := 10) (row := (RX10, TX10, 15)) rfl rfl ⟨by decide, by decide, wd_1258, wd_11, by decide +kernel⟩ wd_1255 wd_1257 ws_33 dX10_set_23 (sd_aload_n C (i := 0) dX10_set_26 rfl (sd_gr C (ci := 10) (k := 7) (r := (RX10, TX10, 15)) rfl (by decide) rfl wd_995 dX10_set_27 (sd_bipush C (x := nI 12) dX10_set_30 (by decide +kernel) (sd_iload_n C (i := 1) dX10_set_32 rfl (sd_iadd C dX10_set_33 (sd_ia C dX10_set_34 (sd_istore_n C (i := 3) dX10_set_35 rfl (by decide) (sd_aload_n C (i := 0) dX10_set_36 rfl (sd_gr C (ci := 10) (k := 7) (r := (RX10, TX10, 15)) rfl (by decide) rfl wd_995 dX10_set_37 (sd_bipush C (x := nI 12) dX10_set_40 (by decide +kernel) (sd_iload_n C (i := 1) dX10_set_42 rfl (sd_iadd C dX10_set_43 (sd_iload_n C (i := 2) dX10_set_44 rfl (sd_is C dX10_set_45 (sd_iload_n C (i := 3) dX10_set_46 rfl (sd_ir C hr dX10_set_47)))))))))))))))))) (sd_iconst C (x := nI 0) dX10_set_20 (by decide +kernel) (sd_ir C hr dX10_set_21))))
theorem dX10_undo_0 : decode cX10_undo 0 = .ok (.aload_n 0, 1) := by decide +kernel
theorem dX10_undo_1 : decode cX10_undo 1 = .ok (.aload_n 0, 1) := by decide +kernel
theorem dX10_undo_2 : decode cX10_undo 2 = .ok (.getfield 42, 3) := by decide +kernel
theorem dX10_undo_5 : decode cX10_undo 5 = .ok (.ifCond .ne 7, 3) := by decide +kernel
theorem dX10_undo_8 : decode cX10_undo 8 = .ok (.iconst 1, 1) := by decide +kernel
theorem dX10_undo_9 : decode cX10_undo 9 = .ok (.goto 4, 3) := by decide +kernel
theorem dX10_undo_12 : decode cX10_undo 12 = .ok (.iconst 0, 1) := by decide +kernel
theorem dX10_undo_13 : decode cX10_undo 13 = .ok (.invokevirtual 127, 3) := by decide +kernel
theorem dX10_undo_16 : decode cX10_undo 16 = .ok (.ifCond .eq 5, 3) := by decide +kernel
theorem dX10_undo_19 : decode cX10_undo 19 = .ok (.iconst 0, 1) := by decide +kernel
theorem dX10_undo_20 : decode cX10_undo 20 = .ok (.ireturn, 1) := by decide +kernel
theorem dX10_undo_21 : decode cX10_undo 21 = .ok (.aload_n 0, 1) := by decide +kernel
theorem dX10_undo_22 : decode cX10_undo 22 = .ok (.dup, 1) := by decide +kernel
theorem dX10_undo_23 : decode cX10_undo 23 = .ok (.getfield 42, 3) := by decide +kernel
theorem dX10_undo_26 : decode cX10_undo 26 = .ok (.iconst 1, 1) := by decide +kernel
theorem dX10_undo_27 : decode cX10_undo 27 = .ok (.isub, 1) := by decide +kernel
theorem dX10_undo_28 : decode cX10_undo 28 = .ok (.putfield 42, 3) := by decide +kernel
theorem dX10_undo_31 : decode cX10_undo 31 = .ok (.aload_n 0, 1) := by decide +kernel
theorem dX10_undo_32 : decode cX10_undo 32 = .ok (.getfield 22, 3) := by decide +kernel
theorem dX10_undo_35 : decode cX10_undo 35 = .ok (.sipush 304, 3) := by decide +kernel
theorem dX10_undo_38 : decode cX10_undo 38 = .ok (.aload_n 0, 1) := by decide +kernel
theorem dX10_undo_39 : decode cX10_undo 39 = .ok (.getfield 42, 3) := by decide +kernel
theorem dX10_undo_42 : decode cX10_undo 42 = .ok (.imul, 1) := by decide +kernel
theorem dX10_undo_43 : decode cX10_undo 43 = .ok (.aload_n 0, 1) := by decide +kernel
theorem dX10_undo_44 : decode cX10_undo 44 = .ok (.getfield 16, 3) := by decide +kernel
theorem dX10_undo_47 : decode cX10_undo 47 = .ok (.iconst 0, 1) := by decide +kernel
theorem dX10_undo_48 : decode cX10_undo 48 = .ok (.sipush 304, 3) := by decide +kernel
theorem dX10_undo_51 : decode cX10_undo 51 = .ok (.invokestatic 45, 3) := by decide +kernel
theorem dX10_undo_54 : decode cX10_undo 54 = .ok (.aload_n 0, 1) := by decide +kernel
theorem dX10_undo_55 : decode cX10_undo 55 = .ok (.getfield 42, 3) := by decide +kernel
theorem dX10_undo_58 : decode cX10_undo 58 = .ok (.ireturn, 1) := by decide +kernel
def bX10_undo_0 (w : ab_W) (s_X10_refused : ab_S) (s_X10_copy : ab_S) (M : Nat → ab_P) (Kn : Option Value → ab_H → Prop) : ab_P := ab_ald 0 (ab_ald 0 (ab_gf w 10 10 (ab_if1 (fun x => ¬ x = 0) (ab_ci (nI 0) (M 13)) (ab_ci (nI 1) (M 13)))))
def bX10_undo_13 (w : ab_W) (s_X10_refused : ab_S) (s_X10_copy : ab_S) (M : Nat → ab_P) (Kn : Option Value → ab_H → Prop) : ab_P := ab_cV w 2 10 s_X10_refused (ab_if1 (fun x => x = 0) (ab_ald 0 (ab_dup (ab_gf w 10 10 (ab_ci (nI 1) (ab_b2 (fun x y => x - y) (ab_pf w 10 10 (ab_ald 0 (ab_gr w 10 5 (ab_ci (nI 304) (ab_ald 0 (ab_gf w 10 10 (ab_b2 (fun x y => x * y) (ab_ald 0 (ab_gr w 10 3 (ab_ci (nI 0) (ab_ci (nI 304) (ab_cN w 5 s_X10_copy (ab_ald 0 (ab_gf w 10 10 (ab_ir Kn)))))))))))))))))))) (ab_ci (nI 0) (ab_ir Kn)))
set_option maxRecDepth 20000 in
set_option maxHeartbeats 2000000 in
theorem vc_X10_undo {l : Launch} (hl : l.stackTraces = false) {w : ab_W} (hI : ab_Inj w) {mc : Nat} {σ : ab_H} {As : List Value} {Kn : Option Value → ab_H → Prop} {Kx : String → ab_H → Prop} {s_X10_refused : ab_S} (ok_X10_refused : ab_OkN l yX10_refused (Cond.code yX10_refused cX10_refused 2 (some .boolean)) 1 s_X10_refused) {s_X10_copy : ab_S} (ok_X10_copy : ab_OkN l yX10_copy (Cond.code yX10_copy cX10_copy 6 none) 1 s_X10_copy) (hlen : (ab_xl As).length ≤ 1) (h : ∀ M : Nat → ab_P, (∀ L st σ, bX10_undo_0 w s_X10_refused s_X10_copy M Kn L st σ → M 0 L st σ) → (∀ L st σ, bX10_undo_13 w s_X10_refused s_X10_copy M Kn L st σ → M 13 L st σ) → M 0 (ab_pd 1 (ab_xl As)) [] σ) : ab_Met l yX10_undo (Cond.code yX10_undo cX10_undo 1 (some .int)) 2 mc w σ As Kn Kx := by
  refine ab_enter (by decide) hl hI hlen (by decide) ?_
  intro p e R s m args below meth c C hno hr
  exact h _ (sd_aload_n C (i := 0) dX10_undo_0 rfl (sd_aload_n C (i := 0) dX10_undo_1 rfl (sd_gf C (ci := 10) (k := 10) (r := (RX10, TX10, 15)) rfl (by decide) rfl wd_998 dX10_undo_2 (sd_if_ne C dX10_undo_5 (tgt := 12) (by decide) (sd_iconst C (x := nI 0) dX10_undo_12 (by decide +kernel) (fun _ _ _ h => h)) (sd_iconst C (x := nI 1) dX10_undo_8 (by decide +kernel) (sd_goto C dX10_undo_9 (tgt := 13) (by decide) (fun _ _ _ h => h)))))))
    (sd_cV C ok_X10_refused (ci := 10) (row := (RX10, TX10, 15)) rfl rfl ⟨by decide, by decide, wd_1050, wd_11, by decide +kernel⟩ wd_1047 wd_1049 ws_15 dX10_undo_13 (sd_if_eq C dX10_undo_16 (tgt := 21) (by decide) (sd_aload_n C (i := 0) dX10_undo_21 rfl (sd_dup C dX10_undo_22 (sd_gf C (ci := 10) (k := 10) (r := (RX10, TX10, 15)) rfl (by decide) rfl wd_998 dX10_undo_23 (sd_iconst C (x := nI 1) dX10_undo_26 (by decide +kernel) (sd_isub C dX10_undo_27 (sd_pf C (ci := 10) (k := 10) (r := (RX10, TX10, 15)) rfl (by decide) rfl rfl (by decide +kernel) wd_998 dX10_undo_28 (sd_aload_n C (i := 0) dX10_undo_31 rfl (sd_gr C (ci := 10) (k := 9) (r := (RX10, TX10, 15)) rfl (by decide) rfl wd_997 dX10_undo_32 (sd_sipush C (x := nI 304) dX10_undo_35 (by decide +kernel) (sd_aload_n C (i := 0) dX10_undo_38 rfl (sd_gf C (ci := 10) (k := 10) (r := (RX10, TX10, 15)) rfl (by decide) rfl wd_998 dX10_undo_39 (sd_imul C dX10_undo_42 (sd_aload_n C (i := 0) dX10_undo_43 rfl (sd_gr C (ci := 10) (k := 7) (r := (RX10, TX10, 15)) rfl (by decide) rfl wd_995 dX10_undo_44 (sd_iconst C (x := nI 0) dX10_undo_47 (by decide +kernel) (sd_sipush C (x := nI 304) dX10_undo_48 (by decide +kernel) (sd_cS C ok_X10_copy ⟨by decide, by decide, wd_1145, wd_11, by decide +kernel⟩ wd_1143 wd_1144 dX10_undo_51 (sd_aload_n C (i := 0) dX10_undo_54 rfl (sd_gf C (ci := 10) (k := 10) (r := (RX10, TX10, 15)) rfl (by decide) rfl wd_998 dX10_undo_55 (sd_ir C hr dX10_undo_58)))))))))))))))))))) (sd_iconst C (x := nI 0) dX10_undo_19 (by decide +kernel) (sd_ir C hr dX10_undo_20))))
theorem dX10_landing_0 : decode cX10_landing 0 = .ok (.aload_n 0, 1) := by decide +kernel
theorem dX10_landing_1 : decode cX10_landing 1 = .ok (.aload_n 0, 1) := by decide +kernel
theorem dX10_landing_2 : decode cX10_landing 2 = .ok (.iload_n 1, 1) := by decide +kernel
theorem dX10_landing_3 : decode cX10_landing 3 = .ok (.invokevirtual 209, 3) := by decide +kernel
theorem dX10_landing_6 : decode cX10_landing 6 = .ok (.ifCond .ne 7, 3) := by decide +kernel
theorem dX10_landing_9 : decode cX10_landing 9 = .ok (.iconst 1, 1) := by decide +kernel
theorem dX10_landing_10 : decode cX10_landing 10 = .ok (.goto 15, 3) := by decide +kernel
theorem dX10_landing_13 : decode cX10_landing 13 = .ok (.iload_n 2, 1) := by decide +kernel
theorem dX10_landing_14 : decode cX10_landing 14 = .ok (.invokestatic 224, 3) := by decide +kernel
theorem dX10_landing_17 : decode cX10_landing 17 = .ok (.ifCond .eq 7, 3) := by decide +kernel
theorem dX10_landing_20 : decode cX10_landing 20 = .ok (.iconst 0, 1) := by decide +kernel
theorem dX10_landing_21 : decode cX10_landing 21 = .ok (.goto 4, 3) := by decide +kernel
theorem dX10_landing_24 : decode cX10_landing 24 = .ok (.iconst 2, 1) := by decide +kernel
theorem dX10_landing_25 : decode cX10_landing 25 = .ok (.invokevirtual 127, 3) := by decide +kernel
theorem dX10_landing_28 : decode cX10_landing 28 = .ok (.ifCond .eq 5, 3) := by decide +kernel
theorem dX10_landing_31 : decode cX10_landing 31 = .ok (.iconst 0, 1) := by decide +kernel
theorem dX10_landing_32 : decode cX10_landing 32 = .ok (.ireturn, 1) := by decide +kernel
theorem dX10_landing_33 : decode cX10_landing 33 = .ok (.aload_n 0, 1) := by decide +kernel
theorem dX10_landing_34 : decode cX10_landing 34 = .ok (.getfield 16, 3) := by decide +kernel
theorem dX10_landing_37 : decode cX10_landing 37 = .ok (.iload_n 1, 1) := by decide +kernel
theorem dX10_landing_38 : decode cX10_landing 38 = .ok (.iload_n 2, 1) := by decide +kernel
theorem dX10_landing_39 : decode cX10_landing 39 = .ok (.invokestatic 89, 3) := by decide +kernel
theorem dX10_landing_42 : decode cX10_landing 42 = .ok (.ireturn, 1) := by decide +kernel
def bX10_landing_0 (w : ab_W) (s_X10_isStation : ab_S) (s_X10_isHour : ab_S) (s_X10_refused : ab_S) (s_X10_landingOf : ab_S) (M : Nat → ab_P) (Kn : Option Value → ab_H → Prop) : ab_P := ab_ald 0 (ab_ald 0 (ab_ild 1 (ab_cV w 2 10 s_X10_isStation (ab_if1 (fun x => ¬ x = 0) (ab_ild 2 (ab_cN w 1 s_X10_isHour (ab_if1 (fun x => x = 0) (ab_ci (nI 2) (M 25)) (ab_ci (nI 0) (M 25))))) (ab_ci (nI 1) (M 25))))))
def bX10_landing_25 (w : ab_W) (s_X10_isStation : ab_S) (s_X10_isHour : ab_S) (s_X10_refused : ab_S) (s_X10_landingOf : ab_S) (M : Nat → ab_P) (Kn : Option Value → ab_H → Prop) : ab_P := ab_cV w 2 10 s_X10_refused (ab_if1 (fun x => x = 0) (ab_ald 0 (ab_gr w 10 3 (ab_ild 1 (ab_ild 2 (ab_cN w 3 s_X10_landingOf (ab_ir Kn)))))) (ab_ci (nI 0) (ab_ir Kn)))
set_option maxRecDepth 20000 in
set_option maxHeartbeats 2000000 in
theorem vc_X10_landing {l : Launch} (hl : l.stackTraces = false) {w : ab_W} (hI : ab_Inj w) {mc : Nat} {σ : ab_H} {As : List Value} {Kn : Option Value → ab_H → Prop} {Kx : String → ab_H → Prop} {s_X10_isStation : ab_S} (ok_X10_isStation : ab_OkN l yX10_isStation (Cond.code yX10_isStation cX10_isStation 2 (some .boolean)) 2 s_X10_isStation) {s_X10_isHour : ab_S} (ok_X10_isHour : ab_OkN l yX10_isHour (Cond.code yX10_isHour cX10_isHour 1 (some .boolean)) 2 s_X10_isHour) {s_X10_refused : ab_S} (ok_X10_refused : ab_OkN l yX10_refused (Cond.code yX10_refused cX10_refused 2 (some .boolean)) 1 s_X10_refused) {s_X10_landingOf : ab_S} (ok_X10_landingOf : ab_OkN l yX10_landingOf (Cond.code yX10_landingOf cX10_landingOf 4 (some .int)) 2 s_X10_landingOf) (hlen : (ab_xl As).length ≤ 3) (h : ∀ M : Nat → ab_P, (∀ L st σ, bX10_landing_0 w s_X10_isStation s_X10_isHour s_X10_refused s_X10_landingOf M Kn L st σ → M 0 L st σ) → (∀ L st σ, bX10_landing_25 w s_X10_isStation s_X10_isHour s_X10_refused s_X10_landingOf M Kn L st σ → M 25 L st σ) → M 0 (ab_pd 3 (ab_xl As)) [] σ) : ab_Met l yX10_landing (Cond.code yX10_landing cX10_landing 3 (some .int)) 3 mc w σ As Kn Kx := by
  refine ab_enter (by decide) hl hI hlen (by decide) ?_
  intro p e R s m args below meth c C hno hr
  exact h _ (sd_aload_n C (i := 0) dX10_landing_0 rfl (sd_aload_n C (i := 0) dX10_landing_1 rfl (sd_iload_n C (i := 1) dX10_landing_2 rfl (sd_cV C ok_X10_isStation (ci := 10) (row := (RX10, TX10, 15)) rfl rfl ⟨by decide, by decide, wd_1202, wd_11, by decide +kernel⟩ wd_1199 wd_1201 ws_30 dX10_landing_3 (sd_if_ne C dX10_landing_6 (tgt := 13) (by decide) (sd_iload_n C (i := 2) dX10_landing_13 rfl (sd_cS C ok_X10_isHour ⟨by decide, by decide, wd_1236, wd_11, by decide +kernel⟩ wd_1234 wd_1235 dX10_landing_14 (sd_if_eq C dX10_landing_17 (tgt := 24) (by decide) (sd_iconst C (x := nI 2) dX10_landing_24 (by decide +kernel) (fun _ _ _ h => h)) (sd_iconst C (x := nI 0) dX10_landing_20 (by decide +kernel) (sd_goto C dX10_landing_21 (tgt := 25) (by decide) (fun _ _ _ h => h)))))) (sd_iconst C (x := nI 1) dX10_landing_9 (by decide +kernel) (sd_goto C dX10_landing_10 (tgt := 25) (by decide) (fun _ _ _ h => h))))))))
    (sd_cV C ok_X10_refused (ci := 10) (row := (RX10, TX10, 15)) rfl rfl ⟨by decide, by decide, wd_1050, wd_11, by decide +kernel⟩ wd_1047 wd_1049 ws_15 dX10_landing_25 (sd_if_eq C dX10_landing_28 (tgt := 33) (by decide) (sd_aload_n C (i := 0) dX10_landing_33 rfl (sd_gr C (ci := 10) (k := 7) (r := (RX10, TX10, 15)) rfl (by decide) rfl wd_995 dX10_landing_34 (sd_iload_n C (i := 1) dX10_landing_37 rfl (sd_iload_n C (i := 2) dX10_landing_38 rfl (sd_cS C ok_X10_landingOf ⟨by decide, by decide, wd_1163, wd_11, by decide +kernel⟩ wd_1161 wd_1162 dX10_landing_39 (sd_ir C hr dX10_landing_42)))))) (sd_iconst C (x := nI 0) dX10_landing_31 (by decide +kernel) (sd_ir C hr dX10_landing_32))))
theorem dX10_finds_0 : decode cX10_finds 0 = .ok (.aload_n 0, 1) := by decide +kernel
theorem dX10_finds_1 : decode cX10_finds 1 = .ok (.iload_n 1, 1) := by decide +kernel
theorem dX10_finds_2 : decode cX10_finds 2 = .ok (.i2l, 1) := by decide +kernel
theorem dX10_finds_3 : decode cX10_finds 3 = .ok (.lconst 0, 1) := by decide +kernel
theorem dX10_finds_4 : decode cX10_finds 4 = .ok (.ldc2_w 60, 3) := by decide +kernel
theorem dX10_finds_7 : decode cX10_finds 7 = .ok (.invokestatic 62, 3) := by decide +kernel
theorem dX10_finds_10 : decode cX10_finds 10 = .ok (.ifCond .eq 7, 3) := by decide +kernel
theorem dX10_finds_13 : decode cX10_finds 13 = .ok (.iconst 0, 1) := by decide +kernel
theorem dX10_finds_14 : decode cX10_finds 14 = .ok (.goto 4, 3) := by decide +kernel
theorem dX10_finds_17 : decode cX10_finds 17 = .ok (.iconst 1, 1) := by decide +kernel
theorem dX10_finds_18 : decode cX10_finds 18 = .ok (.invokevirtual 127, 3) := by decide +kernel
theorem dX10_finds_21 : decode cX10_finds 21 = .ok (.ifCond .eq 5, 3) := by decide +kernel
theorem dX10_finds_24 : decode cX10_finds 24 = .ok (.iconst 0, 1) := by decide +kernel
theorem dX10_finds_25 : decode cX10_finds 25 = .ok (.ireturn, 1) := by decide +kernel
theorem dX10_finds_26 : decode cX10_finds 26 = .ok (.aload_n 0, 1) := by decide +kernel
theorem dX10_finds_27 : decode cX10_finds 27 = .ok (.getfield 16, 3) := by decide +kernel
theorem dX10_finds_30 : decode cX10_finds 30 = .ok (.iload_n 1, 1) := by decide +kernel
theorem dX10_finds_31 : decode cX10_finds 31 = .ok (.invokestatic 93, 3) := by decide +kernel
theorem dX10_finds_34 : decode cX10_finds 34 = .ok (.ireturn, 1) := by decide +kernel
def bX10_finds_0 (w : ab_W) (s_X10_in : ab_S) (s_X10_refused : ab_S) (s_X10_finderOf : ab_S) (M : Nat → ab_P) (Kn : Option Value → ab_H → Prop) : ab_P := ab_ald 0 (ab_ild 1 (ab_i2l (ab_cl (lN 0) (ab_cl (99) (ab_cN w 3 s_X10_in (ab_if1 (fun x => x = 0) (ab_ci (nI 1) (M 18)) (ab_ci (nI 0) (M 18))))))))
def bX10_finds_18 (w : ab_W) (s_X10_in : ab_S) (s_X10_refused : ab_S) (s_X10_finderOf : ab_S) (M : Nat → ab_P) (Kn : Option Value → ab_H → Prop) : ab_P := ab_cV w 2 10 s_X10_refused (ab_if1 (fun x => x = 0) (ab_ald 0 (ab_gr w 10 3 (ab_ild 1 (ab_cN w 2 s_X10_finderOf (ab_ir Kn))))) (ab_ci (nI 0) (ab_ir Kn)))
set_option maxRecDepth 20000 in
set_option maxHeartbeats 2000000 in
theorem vc_X10_finds {l : Launch} (hl : l.stackTraces = false) {w : ab_W} (hI : ab_Inj w) {mc : Nat} {σ : ab_H} {As : List Value} {Kn : Option Value → ab_H → Prop} {Kx : String → ab_H → Prop} {s_X10_in : ab_S} (ok_X10_in : ab_OkN l yX10_in (Cond.code yX10_in cX10_in 6 (some .boolean)) 1 s_X10_in) {s_X10_refused : ab_S} (ok_X10_refused : ab_OkN l yX10_refused (Cond.code yX10_refused cX10_refused 2 (some .boolean)) 1 s_X10_refused) {s_X10_finderOf : ab_S} (ok_X10_finderOf : ab_OkN l yX10_finderOf (Cond.code yX10_finderOf cX10_finderOf 6 (some .int)) 2 s_X10_finderOf) (hlen : (ab_xl As).length ≤ 2) (h : ∀ M : Nat → ab_P, (∀ L st σ, bX10_finds_0 w s_X10_in s_X10_refused s_X10_finderOf M Kn L st σ → M 0 L st σ) → (∀ L st σ, bX10_finds_18 w s_X10_in s_X10_refused s_X10_finderOf M Kn L st σ → M 18 L st σ) → M 0 (ab_pd 2 (ab_xl As)) [] σ) : ab_Met l yX10_finds (Cond.code yX10_finds cX10_finds 2 (some .int)) 3 mc w σ As Kn Kx := by
  refine ab_enter (by decide) hl hI hlen (by decide) ?_
  intro p e R s m args below meth c C hno hr
  exact h _ (sd_aload_n C (i := 0) dX10_finds_0 rfl (sd_iload_n C (i := 1) dX10_finds_1 rfl (sd_i2l C dX10_finds_2 (sd_lconst C (x := lN 0) dX10_finds_3 (by decide +kernel) (sd_ldc2 C (x := 99) dX10_finds_4 wd_1164 (sd_cS C ok_X10_in ⟨by decide, by decide, wd_1046, wd_11, by decide +kernel⟩ wd_1044 wd_1045 dX10_finds_7 (sd_if_eq C dX10_finds_10 (tgt := 17) (by decide) (sd_iconst C (x := nI 1) dX10_finds_17 (by decide +kernel) (fun _ _ _ h => h)) (sd_iconst C (x := nI 0) dX10_finds_13 (by decide +kernel) (sd_goto C dX10_finds_14 (tgt := 18) (by decide) (fun _ _ _ h => h))))))))))
    (sd_cV C ok_X10_refused (ci := 10) (row := (RX10, TX10, 15)) rfl rfl ⟨by decide, by decide, wd_1050, wd_11, by decide +kernel⟩ wd_1047 wd_1049 ws_15 dX10_finds_18 (sd_if_eq C dX10_finds_21 (tgt := 26) (by decide) (sd_aload_n C (i := 0) dX10_finds_26 rfl (sd_gr C (ci := 10) (k := 7) (r := (RX10, TX10, 15)) rfl (by decide) rfl wd_995 dX10_finds_27 (sd_iload_n C (i := 1) dX10_finds_30 rfl (sd_cS C ok_X10_finderOf ⟨by decide, by decide, wd_1167, wd_11, by decide +kernel⟩ wd_1165 wd_1166 dX10_finds_31 (sd_ir C hr dX10_finds_34))))) (sd_iconst C (x := nI 0) dX10_finds_24 (by decide +kernel) (sd_ir C hr dX10_finds_25))))
theorem dX10_isFar_0 : decode cX10_isFar 0 = .ok (.iload_n 0, 1) := by decide +kernel
theorem dX10_isFar_1 : decode cX10_isFar 1 = .ok (.i2l, 1) := by decide +kernel
theorem dX10_isFar_2 : decode cX10_isFar 2 = .ok (.lconst 1, 1) := by decide +kernel
theorem dX10_isFar_3 : decode cX10_isFar 3 = .ok (.ldc2_w 269, 3) := by decide +kernel
theorem dX10_isFar_6 : decode cX10_isFar 6 = .ok (.invokestatic 62, 3) := by decide +kernel
theorem dX10_isFar_9 : decode cX10_isFar 9 = .ok (.ireturn, 1) := by decide +kernel
def bX10_isFar_0 (w : ab_W) (s_X10_in : ab_S) (M : Nat → ab_P) (Kn : Option Value → ab_H → Prop) : ab_P := ab_ild 0 (ab_i2l (ab_cl (lN 1) (ab_cl (60) (ab_cN w 3 s_X10_in (ab_zr Kn)))))
set_option maxRecDepth 20000 in
set_option maxHeartbeats 2000000 in
theorem vc_X10_isFar {l : Launch} (hl : l.stackTraces = false) {w : ab_W} (hI : ab_Inj w) {mc : Nat} {σ : ab_H} {As : List Value} {Kn : Option Value → ab_H → Prop} {Kx : String → ab_H → Prop} {s_X10_in : ab_S} (ok_X10_in : ab_OkN l yX10_in (Cond.code yX10_in cX10_in 6 (some .boolean)) 1 s_X10_in) (hlen : (ab_xl As).length ≤ 1) (h : ∀ M : Nat → ab_P, (∀ L st σ, bX10_isFar_0 w s_X10_in M Kn L st σ → M 0 L st σ) → M 0 (ab_pd 1 (ab_xl As)) [] σ) : ab_Met l yX10_isFar (Cond.code yX10_isFar cX10_isFar 1 (some .boolean)) 2 mc w σ As Kn Kx := by
  refine ab_enter (by decide) hl hI hlen (by decide) ?_
  intro p e R s m args below meth c C hno hr
  exact h _ (sd_iload_n C (i := 0) dX10_isFar_0 rfl (sd_i2l C dX10_isFar_1 (sd_lconst C (x := lN 1) dX10_isFar_2 (by decide +kernel) (sd_ldc2 C (x := 60) dX10_isFar_3 wd_1328 (sd_cS C ok_X10_in ⟨by decide, by decide, wd_1046, wd_11, by decide +kernel⟩ wd_1044 wd_1045 dX10_isFar_6 (sd_zr C hr dX10_isFar_9))))))
theorem dX10_coming_0 : decode cX10_coming 0 = .ok (.aload_n 0, 1) := by decide +kernel
theorem dX10_coming_1 : decode cX10_coming 1 = .ok (.iload_n 1, 1) := by decide +kernel
theorem dX10_coming_2 : decode cX10_coming 2 = .ok (.invokestatic 271, 3) := by decide +kernel
theorem dX10_coming_5 : decode cX10_coming 5 = .ok (.ifCond .eq 19, 3) := by decide +kernel
theorem dX10_coming_8 : decode cX10_coming 8 = .ok (.iload_n 2, 1) := by decide +kernel
theorem dX10_coming_9 : decode cX10_coming 9 = .ok (.i2l, 1) := by decide +kernel
theorem dX10_coming_10 : decode cX10_coming 10 = .ok (.lconst 0, 1) := by decide +kernel
theorem dX10_coming_11 : decode cX10_coming 11 = .ok (.ldc2_w 222, 3) := by decide +kernel
theorem dX10_coming_14 : decode cX10_coming 14 = .ok (.invokestatic 62, 3) := by decide +kernel
theorem dX10_coming_17 : decode cX10_coming 17 = .ok (.ifCond .eq 7, 3) := by decide +kernel
theorem dX10_coming_20 : decode cX10_coming 20 = .ok (.iconst 0, 1) := by decide +kernel
theorem dX10_coming_21 : decode cX10_coming 21 = .ok (.goto 4, 3) := by decide +kernel
theorem dX10_coming_24 : decode cX10_coming 24 = .ok (.iconst 1, 1) := by decide +kernel
theorem dX10_coming_25 : decode cX10_coming 25 = .ok (.invokevirtual 127, 3) := by decide +kernel
theorem dX10_coming_28 : decode cX10_coming 28 = .ok (.ifCond .eq 5, 3) := by decide +kernel
theorem dX10_coming_31 : decode cX10_coming 31 = .ok (.iconst 0, 1) := by decide +kernel
theorem dX10_coming_32 : decode cX10_coming 32 = .ok (.ireturn, 1) := by decide +kernel
theorem dX10_coming_33 : decode cX10_coming 33 = .ok (.aload_n 0, 1) := by decide +kernel
theorem dX10_coming_34 : decode cX10_coming 34 = .ok (.invokevirtual 206, 3) := by decide +kernel
theorem dX10_coming_37 : decode cX10_coming 37 = .ok (.aload_n 0, 1) := by decide +kernel
theorem dX10_coming_38 : decode cX10_coming 38 = .ok (.aload_n 0, 1) := by decide +kernel
theorem dX10_coming_39 : decode cX10_coming 39 = .ok (.getfield 19, 3) := by decide +kernel
theorem dX10_coming_42 : decode cX10_coming 42 = .ok (.iload_n 1, 1) := by decide +kernel
theorem dX10_coming_43 : decode cX10_coming 43 = .ok (.invokevirtual 175, 3) := by decide +kernel
theorem dX10_coming_46 : decode cX10_coming 46 = .ok (.istore_n 3, 1) := by decide +kernel
theorem dX10_coming_47 : decode cX10_coming 47 = .ok (.iload_n 2, 1) := by decide +kernel
theorem dX10_coming_48 : decode cX10_coming 48 = .ok (.ifCond .ne 7, 3) := by decide +kernel
theorem dX10_coming_51 : decode cX10_coming 51 = .ok (.iload_n 3, 1) := by decide +kernel
theorem dX10_coming_52 : decode cX10_coming 52 = .ok (.goto 52, 3) := by decide +kernel
theorem dX10_coming_55 : decode cX10_coming 55 = .ok (.iload_n 2, 1) := by decide +kernel
theorem dX10_coming_56 : decode cX10_coming 56 = .ok (.iconst 1, 1) := by decide +kernel
theorem dX10_coming_57 : decode cX10_coming 57 = .ok (.if_icmp .ne 19, 3) := by decide +kernel
theorem dX10_coming_60 : decode cX10_coming 60 = .ok (.aload_n 0, 1) := by decide +kernel
theorem dX10_coming_61 : decode cX10_coming 61 = .ok (.getfield 19, 3) := by decide +kernel
theorem dX10_coming_64 : decode cX10_coming 64 = .ok (.iconst 5, 1) := by decide +kernel
theorem dX10_coming_65 : decode cX10_coming 65 = .ok (.iaload, 1) := by decide +kernel
theorem dX10_coming_66 : decode cX10_coming 66 = .ok (.aload_n 0, 1) := by decide +kernel
theorem dX10_coming_67 : decode cX10_coming 67 = .ok (.getfield 16, 3) := by decide +kernel
theorem dX10_coming_70 : decode cX10_coming 70 = .ok (.iconst 5, 1) := by decide +kernel
theorem dX10_coming_71 : decode cX10_coming 71 = .ok (.iaload, 1) := by decide +kernel
theorem dX10_coming_72 : decode cX10_coming 72 = .ok (.isub, 1) := by decide +kernel
theorem dX10_coming_73 : decode cX10_coming 73 = .ok (.goto 31, 3) := by decide +kernel
theorem dX10_coming_76 : decode cX10_coming 76 = .ok (.iload_n 2, 1) := by decide +kernel
theorem dX10_coming_77 : decode cX10_coming 77 = .ok (.iconst 2, 1) := by decide +kernel
theorem dX10_coming_78 : decode cX10_coming 78 = .ok (.if_icmp .ne 19, 3) := by decide +kernel
theorem dX10_coming_81 : decode cX10_coming 81 = .ok (.aload_n 0, 1) := by decide +kernel
theorem dX10_coming_82 : decode cX10_coming 82 = .ok (.getfield 19, 3) := by decide +kernel
theorem dX10_coming_85 : decode cX10_coming 85 = .ok (.iconst 3, 1) := by decide +kernel
theorem dX10_coming_86 : decode cX10_coming 86 = .ok (.iaload, 1) := by decide +kernel
theorem dX10_coming_87 : decode cX10_coming 87 = .ok (.aload_n 0, 1) := by decide +kernel
theorem dX10_coming_88 : decode cX10_coming 88 = .ok (.getfield 16, 3) := by decide +kernel
theorem dX10_coming_91 : decode cX10_coming 91 = .ok (.iconst 3, 1) := by decide +kernel
theorem dX10_coming_92 : decode cX10_coming 92 = .ok (.iaload, 1) := by decide +kernel
theorem dX10_coming_93 : decode cX10_coming 93 = .ok (.isub, 1) := by decide +kernel
theorem dX10_coming_94 : decode cX10_coming 94 = .ok (.goto 10, 3) := by decide +kernel
theorem dX10_coming_97 : decode cX10_coming 97 = .ok (.aload_n 0, 1) := by decide +kernel
theorem dX10_coming_98 : decode cX10_coming 98 = .ok (.getfield 19, 3) := by decide +kernel
theorem dX10_coming_101 : decode cX10_coming 101 = .ok (.invokestatic 202, 3) := by decide +kernel
theorem dX10_coming_104 : decode cX10_coming 104 = .ok (.ireturn, 1) := by decide +kernel
def bX10_coming_0 (w : ab_W) (s_X10_isFar : ab_S) (s_X10_in : ab_S) (s_X10_refused : ab_S) (s_X10_tryIt : ab_S) (s_X10_runIn : ab_S) (s_X10_allSondes : ab_S) (M : Nat → ab_P) (Kn : Option Value → ab_H → Prop) : ab_P := ab_ald 0 (ab_ild 1 (ab_cN w 1 s_X10_isFar (ab_if1 (fun x => x = 0) (M 24) (ab_ild 2 (ab_i2l (ab_cl (lN 0) (ab_cl (3) (ab_cN w 3 s_X10_in (ab_if1 (fun x => x = 0) (M 24) (ab_ci (nI 0) (M 25)))))))))))
def bX10_coming_24 (w : ab_W) (s_X10_isFar : ab_S) (s_X10_in : ab_S) (s_X10_refused : ab_S) (s_X10_tryIt : ab_S) (s_X10_runIn : ab_S) (s_X10_allSondes : ab_S) (M : Nat → ab_P) (Kn : Option Value → ab_H → Prop) : ab_P := ab_ci (nI 1) (M 25)
def bX10_coming_25 (w : ab_W) (s_X10_isFar : ab_S) (s_X10_in : ab_S) (s_X10_refused : ab_S) (s_X10_tryIt : ab_S) (s_X10_runIn : ab_S) (s_X10_allSondes : ab_S) (M : Nat → ab_P) (Kn : Option Value → ab_H → Prop) : ab_P := ab_cV w 2 10 s_X10_refused (ab_if1 (fun x => x = 0) (ab_ald 0 (ab_cV w 1 10 s_X10_tryIt (ab_ald 0 (ab_ald 0 (ab_gr w 10 4 (ab_ild 1 (ab_cV w 3 10 s_X10_runIn (ab_ist 3 (ab_ild 2 (ab_if1 (fun x => ¬ x = 0) (ab_ild 2 (ab_ci (nI 1) (ab_if2 (fun x y => ¬ x = y) (ab_ild 2 (ab_ci (nI 2) (ab_if2 (fun x y => ¬ x = y) (ab_ald 0 (ab_gr w 10 4 (ab_cN w 1 s_X10_allSondes (M 104)))) (ab_ald 0 (ab_gr w 10 4 (ab_ci (nI 3) (ab_ia w 11 (ab_ald 0 (ab_gr w 10 3 (ab_ci (nI 3) (ab_ia w 11 (ab_b2 (fun x y => x - y) (M 104))))))))))))) (ab_ald 0 (ab_gr w 10 4 (ab_ci (nI 5) (ab_ia w 11 (ab_ald 0 (ab_gr w 10 3 (ab_ci (nI 5) (ab_ia w 11 (ab_b2 (fun x y => x - y) (M 104))))))))))))) (ab_ild 3 (M 104)))))))))))) (ab_ci (nI 0) (ab_ir Kn)))
def bX10_coming_104 (w : ab_W) (s_X10_isFar : ab_S) (s_X10_in : ab_S) (s_X10_refused : ab_S) (s_X10_tryIt : ab_S) (s_X10_runIn : ab_S) (s_X10_allSondes : ab_S) (M : Nat → ab_P) (Kn : Option Value → ab_H → Prop) : ab_P := ab_ir Kn
set_option maxRecDepth 20000 in
set_option maxHeartbeats 2000000 in
theorem vc_X10_coming {l : Launch} (hl : l.stackTraces = false) {w : ab_W} (hI : ab_Inj w) {mc : Nat} {σ : ab_H} {As : List Value} {Kn : Option Value → ab_H → Prop} {Kx : String → ab_H → Prop} {s_X10_isFar : ab_S} (ok_X10_isFar : ab_OkN l yX10_isFar (Cond.code yX10_isFar cX10_isFar 1 (some .boolean)) 2 s_X10_isFar) {s_X10_in : ab_S} (ok_X10_in : ab_OkN l yX10_in (Cond.code yX10_in cX10_in 6 (some .boolean)) 1 s_X10_in) {s_X10_refused : ab_S} (ok_X10_refused : ab_OkN l yX10_refused (Cond.code yX10_refused cX10_refused 2 (some .boolean)) 1 s_X10_refused) {s_X10_tryIt : ab_S} (ok_X10_tryIt : ab_OkN l yX10_tryIt (Cond.code yX10_tryIt cX10_tryIt 1 none) 2 s_X10_tryIt) {s_X10_runIn : ab_S} (ok_X10_runIn : ab_OkN l yX10_runIn (Cond.code yX10_runIn cX10_runIn 5 (some .int)) 5 s_X10_runIn) {s_X10_allSondes : ab_S} (ok_X10_allSondes : ab_OkN l yX10_allSondes (Cond.code yX10_allSondes cX10_allSondes 3 (some .int)) 3 s_X10_allSondes) (hlen : (ab_xl As).length ≤ 4) (h : ∀ M : Nat → ab_P, (∀ L st σ, bX10_coming_0 w s_X10_isFar s_X10_in s_X10_refused s_X10_tryIt s_X10_runIn s_X10_allSondes M Kn L st σ → M 0 L st σ) → (∀ L st σ, bX10_coming_24 w s_X10_isFar s_X10_in s_X10_refused s_X10_tryIt s_X10_runIn s_X10_allSondes M Kn L st σ → M 24 L st σ) → (∀ L st σ, bX10_coming_25 w s_X10_isFar s_X10_in s_X10_refused s_X10_tryIt s_X10_runIn s_X10_allSondes M Kn L st σ → M 25 L st σ) → (∀ L st σ, bX10_coming_104 w s_X10_isFar s_X10_in s_X10_refused s_X10_tryIt s_X10_runIn s_X10_allSondes M Kn L st σ → M 104 L st σ) → M 0 (ab_pd 4 (ab_xl As)) [] σ) : ab_Met l yX10_coming (Cond.code yX10_coming cX10_coming 4 (some .int)) 6 mc w σ As Kn Kx := by
  refine ab_enter (by decide) hl hI hlen (by decide) ?_
  intro p e R s m args below meth c C hno hr
  exact h _ (sd_aload_n C (i := 0) dX10_coming_0 rfl (sd_iload_n C (i := 1) dX10_coming_1 rfl (sd_cS C ok_X10_isFar ⟨by decide, by decide, wd_1327, wd_11, by decide +kernel⟩ wd_1325 wd_1326 dX10_coming_2 (sd_if_eq C dX10_coming_5 (tgt := 24) (by decide) (fun _ _ _ h => h) (sd_iload_n C (i := 2) dX10_coming_8 rfl (sd_i2l C dX10_coming_9 (sd_lconst C (x := lN 0) dX10_coming_10 (by decide +kernel) (sd_ldc2 C (x := 3) dX10_coming_11 wd_1237 (sd_cS C ok_X10_in ⟨by decide, by decide, wd_1046, wd_11, by decide +kernel⟩ wd_1044 wd_1045 dX10_coming_14 (sd_if_eq C dX10_coming_17 (tgt := 24) (by decide) (fun _ _ _ h => h) (sd_iconst C (x := nI 0) dX10_coming_20 (by decide +kernel) (sd_goto C dX10_coming_21 (tgt := 25) (by decide) (fun _ _ _ h => h)))))))))))))
    (sd_iconst C (x := nI 1) dX10_coming_24 (by decide +kernel) (fun _ _ _ h => h))
    (sd_cV C ok_X10_refused (ci := 10) (row := (RX10, TX10, 15)) rfl rfl ⟨by decide, by decide, wd_1050, wd_11, by decide +kernel⟩ wd_1047 wd_1049 ws_15 dX10_coming_25 (sd_if_eq C dX10_coming_28 (tgt := 33) (by decide) (sd_aload_n C (i := 0) dX10_coming_33 rfl (sd_cV C ok_X10_tryIt (ci := 10) (row := (RX10, TX10, 15)) rfl rfl ⟨by decide, by decide, wd_1211, wd_11, by decide +kernel⟩ wd_1208 wd_1210 ws_32 dX10_coming_34 (sd_aload_n C (i := 0) dX10_coming_37 rfl (sd_aload_n C (i := 0) dX10_coming_38 rfl (sd_gr C (ci := 10) (k := 8) (r := (RX10, TX10, 15)) rfl (by decide) rfl wd_996 dX10_coming_39 (sd_iload_n C (i := 1) dX10_coming_42 rfl (sd_cV C ok_X10_runIn (ci := 10) (row := (RX10, TX10, 15)) rfl rfl ⟨by decide, by decide, wd_1132, wd_11, by decide +kernel⟩ wd_1129 wd_1131 ws_28 dX10_coming_43 (sd_istore_n C (i := 3) dX10_coming_46 rfl (by decide) (sd_iload_n C (i := 2) dX10_coming_47 rfl (sd_if_ne C dX10_coming_48 (tgt := 55) (by decide) (sd_iload_n C (i := 2) dX10_coming_55 rfl (sd_iconst C (x := nI 1) dX10_coming_56 (by decide +kernel) (sd_icmp_ne C dX10_coming_57 (tgt := 76) (by decide) (sd_iload_n C (i := 2) dX10_coming_76 rfl (sd_iconst C (x := nI 2) dX10_coming_77 (by decide +kernel) (sd_icmp_ne C dX10_coming_78 (tgt := 97) (by decide) (sd_aload_n C (i := 0) dX10_coming_97 rfl (sd_gr C (ci := 10) (k := 8) (r := (RX10, TX10, 15)) rfl (by decide) rfl wd_996 dX10_coming_98 (sd_cS C ok_X10_allSondes ⟨by decide, by decide, wd_1191, wd_11, by decide +kernel⟩ wd_1189 wd_1190 dX10_coming_101 (fun _ _ _ h => h)))) (sd_aload_n C (i := 0) dX10_coming_81 rfl (sd_gr C (ci := 10) (k := 8) (r := (RX10, TX10, 15)) rfl (by decide) rfl wd_996 dX10_coming_82 (sd_iconst C (x := nI 3) dX10_coming_85 (by decide +kernel) (sd_ia C dX10_coming_86 (sd_aload_n C (i := 0) dX10_coming_87 rfl (sd_gr C (ci := 10) (k := 7) (r := (RX10, TX10, 15)) rfl (by decide) rfl wd_995 dX10_coming_88 (sd_iconst C (x := nI 3) dX10_coming_91 (by decide +kernel) (sd_ia C dX10_coming_92 (sd_isub C dX10_coming_93 (sd_goto C dX10_coming_94 (tgt := 104) (by decide) (fun _ _ _ h => h)))))))))))))) (sd_aload_n C (i := 0) dX10_coming_60 rfl (sd_gr C (ci := 10) (k := 8) (r := (RX10, TX10, 15)) rfl (by decide) rfl wd_996 dX10_coming_61 (sd_iconst C (x := nI 5) dX10_coming_64 (by decide +kernel) (sd_ia C dX10_coming_65 (sd_aload_n C (i := 0) dX10_coming_66 rfl (sd_gr C (ci := 10) (k := 7) (r := (RX10, TX10, 15)) rfl (by decide) rfl wd_995 dX10_coming_67 (sd_iconst C (x := nI 5) dX10_coming_70 (by decide +kernel) (sd_ia C dX10_coming_71 (sd_isub C dX10_coming_72 (sd_goto C dX10_coming_73 (tgt := 104) (by decide) (fun _ _ _ h => h)))))))))))))) (sd_iload_n C (i := 3) dX10_coming_51 rfl (sd_goto C dX10_coming_52 (tgt := 104) (by decide) (fun _ _ _ h => h))))))))))))) (sd_iconst C (x := nI 0) dX10_coming_31 (by decide +kernel) (sd_ir C hr dX10_coming_32))))
    (sd_ir C hr dX10_coming_104)
theorem dX10_firstGap_0 : decode cX10_firstGap 0 = .ok (.aload_n 0, 1) := by decide +kernel
theorem dX10_firstGap_1 : decode cX10_firstGap 1 = .ok (.iconst 0, 1) := by decide +kernel
theorem dX10_firstGap_2 : decode cX10_firstGap 2 = .ok (.putfield 36, 3) := by decide +kernel
theorem dX10_firstGap_5 : decode cX10_firstGap 5 = .ok (.aload_n 0, 1) := by decide +kernel
theorem dX10_firstGap_6 : decode cX10_firstGap 6 = .ok (.invokevirtual 206, 3) := by decide +kernel
theorem dX10_firstGap_9 : decode cX10_firstGap 9 = .ok (.iconst 0, 1) := by decide +kernel
theorem dX10_firstGap_10 : decode cX10_firstGap 10 = .ok (.istore_n 1, 1) := by decide +kernel
theorem dX10_firstGap_11 : decode cX10_firstGap 11 = .ok (.iload_n 1, 1) := by decide +kernel
theorem dX10_firstGap_12 : decode cX10_firstGap 12 = .ok (.bipush 60, 2) := by decide +kernel
theorem dX10_firstGap_14 : decode cX10_firstGap 14 = .ok (.if_icmp .ge 41, 3) := by decide +kernel
theorem dX10_firstGap_17 : decode cX10_firstGap 17 = .ok (.aload_n 0, 1) := by decide +kernel
theorem dX10_firstGap_18 : decode cX10_firstGap 18 = .ok (.aload_n 0, 1) := by decide +kernel
theorem dX10_firstGap_19 : decode cX10_firstGap 19 = .ok (.getfield 19, 3) := by decide +kernel
theorem dX10_firstGap_22 : decode cX10_firstGap 22 = .ok (.invokevirtual 119, 3) := by decide +kernel
theorem dX10_firstGap_25 : decode cX10_firstGap 25 = .ok (.aload_n 0, 1) := by decide +kernel
theorem dX10_firstGap_26 : decode cX10_firstGap 26 = .ok (.getfield 19, 3) := by decide +kernel
theorem dX10_firstGap_29 : decode cX10_firstGap 29 = .ok (.iconst 5, 1) := by decide +kernel
theorem dX10_firstGap_30 : decode cX10_firstGap 30 = .ok (.iaload, 1) := by decide +kernel
theorem dX10_firstGap_31 : decode cX10_firstGap 31 = .ok (.aload_n 0, 1) := by decide +kernel
theorem dX10_firstGap_32 : decode cX10_firstGap 32 = .ok (.getfield 16, 3) := by decide +kernel
theorem dX10_firstGap_35 : decode cX10_firstGap 35 = .ok (.iconst 5, 1) := by decide +kernel
theorem dX10_firstGap_36 : decode cX10_firstGap 36 = .ok (.iaload, 1) := by decide +kernel
theorem dX10_firstGap_37 : decode cX10_firstGap 37 = .ok (.if_icmp .le 12, 3) := by decide +kernel
theorem dX10_firstGap_40 : decode cX10_firstGap 40 = .ok (.aload_n 0, 1) := by decide +kernel
theorem dX10_firstGap_41 : decode cX10_firstGap 41 = .ok (.getfield 19, 3) := by decide +kernel
theorem dX10_firstGap_44 : decode cX10_firstGap 44 = .ok (.iconst 0, 1) := by decide +kernel
theorem dX10_firstGap_45 : decode cX10_firstGap 45 = .ok (.iaload, 1) := by decide +kernel
theorem dX10_firstGap_46 : decode cX10_firstGap 46 = .ok (.iconst 1, 1) := by decide +kernel
theorem dX10_firstGap_47 : decode cX10_firstGap 47 = .ok (.isub, 1) := by decide +kernel
theorem dX10_firstGap_48 : decode cX10_firstGap 48 = .ok (.ireturn, 1) := by decide +kernel
theorem dX10_firstGap_49 : decode cX10_firstGap 49 = .ok (.iinc 1 1, 3) := by decide +kernel
theorem dX10_firstGap_52 : decode cX10_firstGap 52 = .ok (.goto (-41), 3) := by decide +kernel
theorem dX10_firstGap_55 : decode cX10_firstGap 55 = .ok (.iconst (-1), 1) := by decide +kernel
theorem dX10_firstGap_56 : decode cX10_firstGap 56 = .ok (.ireturn, 1) := by decide +kernel
def bX10_firstGap_0 (w : ab_W) (s_X10_tryIt : ab_S) (s_X10_watchIn : ab_S) (M : Nat → ab_P) (Kn : Option Value → ab_H → Prop) : ab_P := ab_ald 0 (ab_ci (nI 0) (ab_pf w 10 0 (ab_ald 0 (ab_cV w 1 10 s_X10_tryIt (ab_ci (nI 0) (ab_ist 1 (M 11)))))))
def bX10_firstGap_11 (w : ab_W) (s_X10_tryIt : ab_S) (s_X10_watchIn : ab_S) (M : Nat → ab_P) (Kn : Option Value → ab_H → Prop) : ab_P := ab_ild 1 (ab_ci (nI 60) (ab_if2 (fun x y => y ≤ x) (ab_ci (-1) (ab_ir Kn)) (ab_ald 0 (ab_ald 0 (ab_gr w 10 4 (ab_cV w 2 10 s_X10_watchIn (ab_ald 0 (ab_gr w 10 4 (ab_ci (nI 5) (ab_ia w 11 (ab_ald 0 (ab_gr w 10 3 (ab_ci (nI 5) (ab_ia w 11 (ab_if2 (fun x y => x ≤ y) (ab_inc 1 (nI 1) (M 11)) (ab_ald 0 (ab_gr w 10 4 (ab_ci (nI 0) (ab_ia w 11 (ab_ci (nI 1) (ab_b2 (fun x y => x - y) (ab_ir Kn))))))))))))))))))))))
set_option maxRecDepth 20000 in
set_option maxHeartbeats 2000000 in
theorem vc_X10_firstGap {l : Launch} (hl : l.stackTraces = false) {w : ab_W} (hI : ab_Inj w) {mc : Nat} {σ : ab_H} {As : List Value} {Kn : Option Value → ab_H → Prop} {Kx : String → ab_H → Prop} {s_X10_tryIt : ab_S} (ok_X10_tryIt : ab_OkN l yX10_tryIt (Cond.code yX10_tryIt cX10_tryIt 1 none) 2 s_X10_tryIt) {s_X10_watchIn : ab_S} (ok_X10_watchIn : ab_OkN l yX10_watchIn (Cond.code yX10_watchIn cX10_watchIn 5 none) 4 s_X10_watchIn) (hlen : (ab_xl As).length ≤ 2) (h : ∀ M : Nat → ab_P, (∀ L st σ, bX10_firstGap_0 w s_X10_tryIt s_X10_watchIn M Kn L st σ → M 0 L st σ) → (∀ L st σ, bX10_firstGap_11 w s_X10_tryIt s_X10_watchIn M Kn L st σ → M 11 L st σ) → M 0 (ab_pd 2 (ab_xl As)) [] σ) : ab_Met l yX10_firstGap (Cond.code yX10_firstGap cX10_firstGap 2 (some .int)) 5 mc w σ As Kn Kx := by
  refine ab_enter (by decide) hl hI hlen (by decide) ?_
  intro p e R s m args below meth c C hno hr
  exact h _ (sd_aload_n C (i := 0) dX10_firstGap_0 rfl (sd_iconst C (x := nI 0) dX10_firstGap_1 (by decide +kernel) (sd_pf C (ci := 10) (k := 0) (r := (RX10, TX10, 15)) rfl (by decide) rfl rfl (by decide +kernel) wd_988 dX10_firstGap_2 (sd_aload_n C (i := 0) dX10_firstGap_5 rfl (sd_cV C ok_X10_tryIt (ci := 10) (row := (RX10, TX10, 15)) rfl rfl ⟨by decide, by decide, wd_1211, wd_11, by decide +kernel⟩ wd_1208 wd_1210 ws_32 dX10_firstGap_6 (sd_iconst C (x := nI 0) dX10_firstGap_9 (by decide +kernel) (sd_istore_n C (i := 1) dX10_firstGap_10 rfl (by decide) (fun _ _ _ h => h))))))))
    (sd_iload_n C (i := 1) dX10_firstGap_11 rfl (sd_bipush C (x := nI 60) dX10_firstGap_12 (by decide +kernel) (sd_icmp_ge C dX10_firstGap_14 (tgt := 55) (by decide) (sd_iconst C (x := -1) dX10_firstGap_55 (by decide +kernel) (sd_ir C hr dX10_firstGap_56)) (sd_aload_n C (i := 0) dX10_firstGap_17 rfl (sd_aload_n C (i := 0) dX10_firstGap_18 rfl (sd_gr C (ci := 10) (k := 8) (r := (RX10, TX10, 15)) rfl (by decide) rfl wd_996 dX10_firstGap_19 (sd_cV C ok_X10_watchIn (ci := 10) (row := (RX10, TX10, 15)) rfl rfl ⟨by decide, by decide, wd_1136, wd_11, by decide +kernel⟩ wd_1133 wd_1135 ws_29 dX10_firstGap_22 (sd_aload_n C (i := 0) dX10_firstGap_25 rfl (sd_gr C (ci := 10) (k := 8) (r := (RX10, TX10, 15)) rfl (by decide) rfl wd_996 dX10_firstGap_26 (sd_iconst C (x := nI 5) dX10_firstGap_29 (by decide +kernel) (sd_ia C dX10_firstGap_30 (sd_aload_n C (i := 0) dX10_firstGap_31 rfl (sd_gr C (ci := 10) (k := 7) (r := (RX10, TX10, 15)) rfl (by decide) rfl wd_995 dX10_firstGap_32 (sd_iconst C (x := nI 5) dX10_firstGap_35 (by decide +kernel) (sd_ia C dX10_firstGap_36 (sd_icmp_le C dX10_firstGap_37 (tgt := 49) (by decide) (sd_iinc C (x := nI 1) dX10_firstGap_49 (by decide +kernel) (by decide) (sd_goto C dX10_firstGap_52 (tgt := 11) (by decide) (fun _ _ _ h => h))) (sd_aload_n C (i := 0) dX10_firstGap_40 rfl (sd_gr C (ci := 10) (k := 8) (r := (RX10, TX10, 15)) rfl (by decide) rfl wd_996 dX10_firstGap_41 (sd_iconst C (x := nI 0) dX10_firstGap_44 (by decide +kernel) (sd_ia C dX10_firstGap_45 (sd_iconst C (x := nI 1) dX10_firstGap_46 (by decide +kernel) (sd_isub C dX10_firstGap_47 (sd_ir C hr dX10_firstGap_48)))))))))))))))))))))))
theorem dX10_lacks_0 : decode cX10_lacks 0 = .ok (.aload_n 0, 1) := by decide +kernel
theorem dX10_lacks_1 : decode cX10_lacks 1 = .ok (.aload_n 0, 1) := by decide +kernel
theorem dX10_lacks_2 : decode cX10_lacks 2 = .ok (.iload_n 1, 1) := by decide +kernel
theorem dX10_lacks_3 : decode cX10_lacks 3 = .ok (.invokevirtual 209, 3) := by decide +kernel
theorem dX10_lacks_6 : decode cX10_lacks 6 = .ok (.ifCond .ne 7, 3) := by decide +kernel
theorem dX10_lacks_9 : decode cX10_lacks 9 = .ok (.iconst 1, 1) := by decide +kernel
theorem dX10_lacks_10 : decode cX10_lacks 10 = .ok (.goto 15, 3) := by decide +kernel
theorem dX10_lacks_13 : decode cX10_lacks 13 = .ok (.iload_n 2, 1) := by decide +kernel
theorem dX10_lacks_14 : decode cX10_lacks 14 = .ok (.invokestatic 271, 3) := by decide +kernel
theorem dX10_lacks_17 : decode cX10_lacks 17 = .ok (.ifCond .eq 7, 3) := by decide +kernel
theorem dX10_lacks_20 : decode cX10_lacks 20 = .ok (.iconst 0, 1) := by decide +kernel
theorem dX10_lacks_21 : decode cX10_lacks 21 = .ok (.goto 4, 3) := by decide +kernel
theorem dX10_lacks_24 : decode cX10_lacks 24 = .ok (.iconst 2, 1) := by decide +kernel
theorem dX10_lacks_25 : decode cX10_lacks 25 = .ok (.invokevirtual 127, 3) := by decide +kernel
theorem dX10_lacks_28 : decode cX10_lacks 28 = .ok (.ifCond .eq 5, 3) := by decide +kernel
theorem dX10_lacks_31 : decode cX10_lacks 31 = .ok (.iconst 0, 1) := by decide +kernel
theorem dX10_lacks_32 : decode cX10_lacks 32 = .ok (.ireturn, 1) := by decide +kernel
theorem dX10_lacks_33 : decode cX10_lacks 33 = .ok (.aload_n 0, 1) := by decide +kernel
theorem dX10_lacks_34 : decode cX10_lacks 34 = .ok (.invokevirtual 206, 3) := by decide +kernel
theorem dX10_lacks_37 : decode cX10_lacks 37 = .ok (.aload_n 0, 1) := by decide +kernel
theorem dX10_lacks_38 : decode cX10_lacks 38 = .ok (.iload_n 1, 1) := by decide +kernel
theorem dX10_lacks_39 : decode cX10_lacks 39 = .ok (.putfield 49, 3) := by decide +kernel
theorem dX10_lacks_42 : decode cX10_lacks 42 = .ok (.aload_n 0, 1) := by decide +kernel
theorem dX10_lacks_43 : decode cX10_lacks 43 = .ok (.sipush 1000, 3) := by decide +kernel
theorem dX10_lacks_46 : decode cX10_lacks 46 = .ok (.putfield 109, 3) := by decide +kernel
theorem dX10_lacks_49 : decode cX10_lacks 49 = .ok (.aload_n 0, 1) := by decide +kernel
theorem dX10_lacks_50 : decode cX10_lacks 50 = .ok (.getfield 19, 3) := by decide +kernel
theorem dX10_lacks_53 : decode cX10_lacks 53 = .ok (.iload_n 1, 1) := by decide +kernel
theorem dX10_lacks_54 : decode cX10_lacks 54 = .ok (.iconst 3, 1) := by decide +kernel
theorem dX10_lacks_55 : decode cX10_lacks 55 = .ok (.invokestatic 52, 3) := by decide +kernel
theorem dX10_lacks_58 : decode cX10_lacks 58 = .ok (.dup2, 1) := by decide +kernel
theorem dX10_lacks_59 : decode cX10_lacks 59 = .ok (.iaload, 1) := by decide +kernel
theorem dX10_lacks_60 : decode cX10_lacks 60 = .ok (.sipush 1000, 3) := by decide +kernel
theorem dX10_lacks_63 : decode cX10_lacks 63 = .ok (.iadd, 1) := by decide +kernel
theorem dX10_lacks_64 : decode cX10_lacks 64 = .ok (.iastore, 1) := by decide +kernel
theorem dX10_lacks_65 : decode cX10_lacks 65 = .ok (.aload_n 0, 1) := by decide +kernel
theorem dX10_lacks_66 : decode cX10_lacks 66 = .ok (.aload_n 0, 1) := by decide +kernel
theorem dX10_lacks_67 : decode cX10_lacks 67 = .ok (.getfield 19, 3) := by decide +kernel
theorem dX10_lacks_70 : decode cX10_lacks 70 = .ok (.iload_n 2, 1) := by decide +kernel
theorem dX10_lacks_71 : decode cX10_lacks 71 = .ok (.invokevirtual 175, 3) := by decide +kernel
theorem dX10_lacks_74 : decode cX10_lacks 74 = .ok (.pop, 1) := by decide +kernel
theorem dX10_lacks_75 : decode cX10_lacks 75 = .ok (.aload_n 0, 1) := by decide +kernel
theorem dX10_lacks_76 : decode cX10_lacks 76 = .ok (.iconst (-1), 1) := by decide +kernel
theorem dX10_lacks_77 : decode cX10_lacks 77 = .ok (.putfield 49, 3) := by decide +kernel
theorem dX10_lacks_80 : decode cX10_lacks 80 = .ok (.aload_n 0, 1) := by decide +kernel
theorem dX10_lacks_81 : decode cX10_lacks 81 = .ok (.getfield 109, 3) := by decide +kernel
theorem dX10_lacks_84 : decode cX10_lacks 84 = .ok (.sipush 1000, 3) := by decide +kernel
theorem dX10_lacks_87 : decode cX10_lacks 87 = .ok (.if_icmp .ge 14, 3) := by decide +kernel
theorem dX10_lacks_90 : decode cX10_lacks 90 = .ok (.sipush 1000, 3) := by decide +kernel
theorem dX10_lacks_93 : decode cX10_lacks 93 = .ok (.aload_n 0, 1) := by decide +kernel
theorem dX10_lacks_94 : decode cX10_lacks 94 = .ok (.getfield 109, 3) := by decide +kernel
theorem dX10_lacks_97 : decode cX10_lacks 97 = .ok (.isub, 1) := by decide +kernel
theorem dX10_lacks_98 : decode cX10_lacks 98 = .ok (.goto 4, 3) := by decide +kernel
theorem dX10_lacks_101 : decode cX10_lacks 101 = .ok (.iconst 0, 1) := by decide +kernel
theorem dX10_lacks_102 : decode cX10_lacks 102 = .ok (.ireturn, 1) := by decide +kernel
def bX10_lacks_0 (w : ab_W) (s_X10_isStation : ab_S) (s_X10_isFar : ab_S) (s_X10_refused : ab_S) (s_X10_tryIt : ab_S) (s_X10_stationAt : ab_S) (s_X10_runIn : ab_S) (M : Nat → ab_P) (Kn : Option Value → ab_H → Prop) : ab_P := ab_ald 0 (ab_ald 0 (ab_ild 1 (ab_cV w 2 10 s_X10_isStation (ab_if1 (fun x => ¬ x = 0) (ab_ild 2 (ab_cN w 1 s_X10_isFar (ab_if1 (fun x => x = 0) (ab_ci (nI 2) (M 25)) (ab_ci (nI 0) (M 25))))) (ab_ci (nI 1) (M 25))))))
def bX10_lacks_25 (w : ab_W) (s_X10_isStation : ab_S) (s_X10_isFar : ab_S) (s_X10_refused : ab_S) (s_X10_tryIt : ab_S) (s_X10_stationAt : ab_S) (s_X10_runIn : ab_S) (M : Nat → ab_P) (Kn : Option Value → ab_H → Prop) : ab_P := ab_cV w 2 10 s_X10_refused (ab_if1 (fun x => x = 0) (ab_ald 0 (ab_cV w 1 10 s_X10_tryIt (ab_ald 0 (ab_ild 1 (ab_pf w 10 13 (ab_ald 0 (ab_ci (nI 1000) (ab_pf w 10 14 (ab_ald 0 (ab_gr w 10 4 (ab_ild 1 (ab_ci (nI 3) (ab_cN w 2 s_X10_stationAt (ab_dup2 (ab_ia w 11 (ab_ci (nI 1000) (ab_b2 (fun x y => x + y) (ab_is w (ab_ald 0 (ab_ald 0 (ab_gr w 10 4 (ab_ild 2 (ab_cV w 3 10 s_X10_runIn (ab_pop (ab_ald 0 (ab_ci (-1) (ab_pf w 10 13 (ab_ald 0 (ab_gf w 10 14 (ab_ci (nI 1000) (ab_if2 (fun x y => y ≤ x) (ab_ci (nI 0) (M 102)) (ab_ci (nI 1000) (ab_ald 0 (ab_gf w 10 14 (ab_b2 (fun x y => x - y) (M 102)))))))))))))))))))))))))))))))))))) (ab_ci (nI 0) (ab_ir Kn)))
def bX10_lacks_102 (w : ab_W) (s_X10_isStation : ab_S) (s_X10_isFar : ab_S) (s_X10_refused : ab_S) (s_X10_tryIt : ab_S) (s_X10_stationAt : ab_S) (s_X10_runIn : ab_S) (M : Nat → ab_P) (Kn : Option Value → ab_H → Prop) : ab_P := ab_ir Kn
set_option maxRecDepth 20000 in
set_option maxHeartbeats 2000000 in
theorem vc_X10_lacks {l : Launch} (hl : l.stackTraces = false) {w : ab_W} (hI : ab_Inj w) {mc : Nat} {σ : ab_H} {As : List Value} {Kn : Option Value → ab_H → Prop} {Kx : String → ab_H → Prop} {s_X10_isStation : ab_S} (ok_X10_isStation : ab_OkN l yX10_isStation (Cond.code yX10_isStation cX10_isStation 2 (some .boolean)) 2 s_X10_isStation) {s_X10_isFar : ab_S} (ok_X10_isFar : ab_OkN l yX10_isFar (Cond.code yX10_isFar cX10_isFar 1 (some .boolean)) 2 s_X10_isFar) {s_X10_refused : ab_S} (ok_X10_refused : ab_OkN l yX10_refused (Cond.code yX10_refused cX10_refused 2 (some .boolean)) 1 s_X10_refused) {s_X10_tryIt : ab_S} (ok_X10_tryIt : ab_OkN l yX10_tryIt (Cond.code yX10_tryIt cX10_tryIt 1 none) 2 s_X10_tryIt) {s_X10_stationAt : ab_S} (ok_X10_stationAt : ab_OkN l yX10_stationAt (Cond.code yX10_stationAt cX10_stationAt 2 (some .int)) 1 s_X10_stationAt) {s_X10_runIn : ab_S} (ok_X10_runIn : ab_OkN l yX10_runIn (Cond.code yX10_runIn cX10_runIn 5 (some .int)) 5 s_X10_runIn) (hlen : (ab_xl As).length ≤ 3) (h : ∀ M : Nat → ab_P, (∀ L st σ, bX10_lacks_0 w s_X10_isStation s_X10_isFar s_X10_refused s_X10_tryIt s_X10_stationAt s_X10_runIn M Kn L st σ → M 0 L st σ) → (∀ L st σ, bX10_lacks_25 w s_X10_isStation s_X10_isFar s_X10_refused s_X10_tryIt s_X10_stationAt s_X10_runIn M Kn L st σ → M 25 L st σ) → (∀ L st σ, bX10_lacks_102 w s_X10_isStation s_X10_isFar s_X10_refused s_X10_tryIt s_X10_stationAt s_X10_runIn M Kn L st σ → M 102 L st σ) → M 0 (ab_pd 3 (ab_xl As)) [] σ) : ab_Met l yX10_lacks (Cond.code yX10_lacks cX10_lacks 3 (some .int)) 6 mc w σ As Kn Kx := by
  refine ab_enter (by decide) hl hI hlen (by decide) ?_
  intro p e R s m args below meth c C hno hr
  exact h _ (sd_aload_n C (i := 0) dX10_lacks_0 rfl (sd_aload_n C (i := 0) dX10_lacks_1 rfl (sd_iload_n C (i := 1) dX10_lacks_2 rfl (sd_cV C ok_X10_isStation (ci := 10) (row := (RX10, TX10, 15)) rfl rfl ⟨by decide, by decide, wd_1202, wd_11, by decide +kernel⟩ wd_1199 wd_1201 ws_30 dX10_lacks_3 (sd_if_ne C dX10_lacks_6 (tgt := 13) (by decide) (sd_iload_n C (i := 2) dX10_lacks_13 rfl (sd_cS C ok_X10_isFar ⟨by decide, by decide, wd_1327, wd_11, by decide +kernel⟩ wd_1325 wd_1326 dX10_lacks_14 (sd_if_eq C dX10_lacks_17 (tgt := 24) (by decide) (sd_iconst C (x := nI 2) dX10_lacks_24 (by decide +kernel) (fun _ _ _ h => h)) (sd_iconst C (x := nI 0) dX10_lacks_20 (by decide +kernel) (sd_goto C dX10_lacks_21 (tgt := 25) (by decide) (fun _ _ _ h => h)))))) (sd_iconst C (x := nI 1) dX10_lacks_9 (by decide +kernel) (sd_goto C dX10_lacks_10 (tgt := 25) (by decide) (fun _ _ _ h => h))))))))
    (sd_cV C ok_X10_refused (ci := 10) (row := (RX10, TX10, 15)) rfl rfl ⟨by decide, by decide, wd_1050, wd_11, by decide +kernel⟩ wd_1047 wd_1049 ws_15 dX10_lacks_25 (sd_if_eq C dX10_lacks_28 (tgt := 33) (by decide) (sd_aload_n C (i := 0) dX10_lacks_33 rfl (sd_cV C ok_X10_tryIt (ci := 10) (row := (RX10, TX10, 15)) rfl rfl ⟨by decide, by decide, wd_1211, wd_11, by decide +kernel⟩ wd_1208 wd_1210 ws_32 dX10_lacks_34 (sd_aload_n C (i := 0) dX10_lacks_37 rfl (sd_iload_n C (i := 1) dX10_lacks_38 rfl (sd_pf C (ci := 10) (k := 13) (r := (RX10, TX10, 15)) rfl (by decide) rfl rfl (by decide +kernel) wd_1001 dX10_lacks_39 (sd_aload_n C (i := 0) dX10_lacks_42 rfl (sd_sipush C (x := nI 1000) dX10_lacks_43 (by decide +kernel) (sd_pf C (ci := 10) (k := 14) (r := (RX10, TX10, 15)) rfl (by decide) rfl rfl (by decide +kernel) wd_1002 dX10_lacks_46 (sd_aload_n C (i := 0) dX10_lacks_49 rfl (sd_gr C (ci := 10) (k := 8) (r := (RX10, TX10, 15)) rfl (by decide) rfl wd_996 dX10_lacks_50 (sd_iload_n C (i := 1) dX10_lacks_53 rfl (sd_iconst C (x := nI 3) dX10_lacks_54 (by decide +kernel) (sd_cS C ok_X10_stationAt ⟨by decide, by decide, wd_1097, wd_11, by decide +kernel⟩ wd_1095 wd_1096 dX10_lacks_55 (sd_dup2 C dX10_lacks_58 (sd_ia C dX10_lacks_59 (sd_sipush C (x := nI 1000) dX10_lacks_60 (by decide +kernel) (sd_iadd C dX10_lacks_63 (sd_is C dX10_lacks_64 (sd_aload_n C (i := 0) dX10_lacks_65 rfl (sd_aload_n C (i := 0) dX10_lacks_66 rfl (sd_gr C (ci := 10) (k := 8) (r := (RX10, TX10, 15)) rfl (by decide) rfl wd_996 dX10_lacks_67 (sd_iload_n C (i := 2) dX10_lacks_70 rfl (sd_cV C ok_X10_runIn (ci := 10) (row := (RX10, TX10, 15)) rfl rfl ⟨by decide, by decide, wd_1132, wd_11, by decide +kernel⟩ wd_1129 wd_1131 ws_28 dX10_lacks_71 (sd_pop C dX10_lacks_74 (sd_aload_n C (i := 0) dX10_lacks_75 rfl (sd_iconst C (x := -1) dX10_lacks_76 (by decide +kernel) (sd_pf C (ci := 10) (k := 13) (r := (RX10, TX10, 15)) rfl (by decide) rfl rfl (by decide +kernel) wd_1001 dX10_lacks_77 (sd_aload_n C (i := 0) dX10_lacks_80 rfl (sd_gf C (ci := 10) (k := 14) (r := (RX10, TX10, 15)) rfl (by decide) rfl wd_1002 dX10_lacks_81 (sd_sipush C (x := nI 1000) dX10_lacks_84 (by decide +kernel) (sd_icmp_ge C dX10_lacks_87 (tgt := 101) (by decide) (sd_iconst C (x := nI 0) dX10_lacks_101 (by decide +kernel) (fun _ _ _ h => h)) (sd_sipush C (x := nI 1000) dX10_lacks_90 (by decide +kernel) (sd_aload_n C (i := 0) dX10_lacks_93 rfl (sd_gf C (ci := 10) (k := 14) (r := (RX10, TX10, 15)) rfl (by decide) rfl wd_1002 dX10_lacks_94 (sd_isub C dX10_lacks_97 (sd_goto C dX10_lacks_98 (tgt := 102) (by decide) (fun _ _ _ h => h))))))))))))))))))))))))))))))))))))) (sd_iconst C (x := nI 0) dX10_lacks_31 (by decide +kernel) (sd_ir C hr dX10_lacks_32))))
    (sd_ir C hr dX10_lacks_102)
theorem dX10_ifDelivered_0 : decode cX10_ifDelivered 0 = .ok (.aload_n 0, 1) := by decide +kernel
theorem dX10_ifDelivered_1 : decode cX10_ifDelivered 1 = .ok (.aload_n 0, 1) := by decide +kernel
theorem dX10_ifDelivered_2 : decode cX10_ifDelivered 2 = .ok (.iload_n 1, 1) := by decide +kernel
theorem dX10_ifDelivered_3 : decode cX10_ifDelivered 3 = .ok (.invokevirtual 209, 3) := by decide +kernel
theorem dX10_ifDelivered_6 : decode cX10_ifDelivered 6 = .ok (.ifCond .ne 7, 3) := by decide +kernel
theorem dX10_ifDelivered_9 : decode cX10_ifDelivered 9 = .ok (.iconst 1, 1) := by decide +kernel
theorem dX10_ifDelivered_10 : decode cX10_ifDelivered 10 = .ok (.goto 40, 3) := by decide +kernel
theorem dX10_ifDelivered_13 : decode cX10_ifDelivered 13 = .ok (.iload_n 2, 1) := by decide +kernel
theorem dX10_ifDelivered_14 : decode cX10_ifDelivered 14 = .ok (.iload_n 3, 1) := by decide +kernel
theorem dX10_ifDelivered_15 : decode cX10_ifDelivered 15 = .ok (.invokestatic 237, 3) := by decide +kernel
theorem dX10_ifDelivered_18 : decode cX10_ifDelivered 18 = .ok (.ifCond .eq 11, 3) := by decide +kernel
theorem dX10_ifDelivered_21 : decode cX10_ifDelivered 21 = .ok (.iload 4, 2) := by decide +kernel
theorem dX10_ifDelivered_23 : decode cX10_ifDelivered 23 = .ok (.invokestatic 271, 3) := by decide +kernel
theorem dX10_ifDelivered_26 : decode cX10_ifDelivered 26 = .ok (.ifCond .ne 7, 3) := by decide +kernel
theorem dX10_ifDelivered_29 : decode cX10_ifDelivered 29 = .ok (.iconst 2, 1) := by decide +kernel
theorem dX10_ifDelivered_30 : decode cX10_ifDelivered 30 = .ok (.goto 20, 3) := by decide +kernel
theorem dX10_ifDelivered_33 : decode cX10_ifDelivered 33 = .ok (.aload_n 0, 1) := by decide +kernel
theorem dX10_ifDelivered_34 : decode cX10_ifDelivered 34 = .ok (.getfield 16, 3) := by decide +kernel
theorem dX10_ifDelivered_37 : decode cX10_ifDelivered 37 = .ok (.iload_n 2, 1) := by decide +kernel
theorem dX10_ifDelivered_38 : decode cX10_ifDelivered 38 = .ok (.iload_n 3, 1) := by decide +kernel
theorem dX10_ifDelivered_39 : decode cX10_ifDelivered 39 = .ok (.invokestatic 168, 3) := by decide +kernel
theorem dX10_ifDelivered_42 : decode cX10_ifDelivered 42 = .ok (.ifCond .eq 7, 3) := by decide +kernel
theorem dX10_ifDelivered_45 : decode cX10_ifDelivered 45 = .ok (.iconst 0, 1) := by decide +kernel
theorem dX10_ifDelivered_46 : decode cX10_ifDelivered 46 = .ok (.goto 4, 3) := by decide +kernel
theorem dX10_ifDelivered_49 : decode cX10_ifDelivered 49 = .ok (.iconst 3, 1) := by decide +kernel
theorem dX10_ifDelivered_50 : decode cX10_ifDelivered 50 = .ok (.invokevirtual 127, 3) := by decide +kernel
theorem dX10_ifDelivered_53 : decode cX10_ifDelivered 53 = .ok (.ifCond .eq 5, 3) := by decide +kernel
theorem dX10_ifDelivered_56 : decode cX10_ifDelivered 56 = .ok (.iconst 0, 1) := by decide +kernel
theorem dX10_ifDelivered_57 : decode cX10_ifDelivered 57 = .ok (.ireturn, 1) := by decide +kernel
theorem dX10_ifDelivered_58 : decode cX10_ifDelivered 58 = .ok (.aload_n 0, 1) := by decide +kernel
theorem dX10_ifDelivered_59 : decode cX10_ifDelivered 59 = .ok (.invokevirtual 206, 3) := by decide +kernel
theorem dX10_ifDelivered_62 : decode cX10_ifDelivered 62 = .ok (.aload_n 0, 1) := by decide +kernel
theorem dX10_ifDelivered_63 : decode cX10_ifDelivered 63 = .ok (.getfield 19, 3) := by decide +kernel
theorem dX10_ifDelivered_66 : decode cX10_ifDelivered 66 = .ok (.iload_n 1, 1) := by decide +kernel
theorem dX10_ifDelivered_67 : decode cX10_ifDelivered 67 = .ok (.iload_n 2, 1) := by decide +kernel
theorem dX10_ifDelivered_68 : decode cX10_ifDelivered 68 = .ok (.iload_n 3, 1) := by decide +kernel
theorem dX10_ifDelivered_69 : decode cX10_ifDelivered 69 = .ok (.invokestatic 172, 3) := by decide +kernel
theorem dX10_ifDelivered_72 : decode cX10_ifDelivered 72 = .ok (.pop, 1) := by decide +kernel
theorem dX10_ifDelivered_73 : decode cX10_ifDelivered 73 = .ok (.aload_n 0, 1) := by decide +kernel
theorem dX10_ifDelivered_74 : decode cX10_ifDelivered 74 = .ok (.aload_n 0, 1) := by decide +kernel
theorem dX10_ifDelivered_75 : decode cX10_ifDelivered 75 = .ok (.getfield 19, 3) := by decide +kernel
theorem dX10_ifDelivered_78 : decode cX10_ifDelivered 78 = .ok (.iload 4, 2) := by decide +kernel
theorem dX10_ifDelivered_80 : decode cX10_ifDelivered 80 = .ok (.invokevirtual 175, 3) := by decide +kernel
theorem dX10_ifDelivered_83 : decode cX10_ifDelivered 83 = .ok (.pop, 1) := by decide +kernel
theorem dX10_ifDelivered_84 : decode cX10_ifDelivered 84 = .ok (.aload_n 0, 1) := by decide +kernel
theorem dX10_ifDelivered_85 : decode cX10_ifDelivered 85 = .ok (.getfield 19, 3) := by decide +kernel
theorem dX10_ifDelivered_88 : decode cX10_ifDelivered 88 = .ok (.iconst 5, 1) := by decide +kernel
theorem dX10_ifDelivered_89 : decode cX10_ifDelivered 89 = .ok (.iaload, 1) := by decide +kernel
theorem dX10_ifDelivered_90 : decode cX10_ifDelivered 90 = .ok (.aload_n 0, 1) := by decide +kernel
theorem dX10_ifDelivered_91 : decode cX10_ifDelivered 91 = .ok (.getfield 16, 3) := by decide +kernel
theorem dX10_ifDelivered_94 : decode cX10_ifDelivered 94 = .ok (.iconst 5, 1) := by decide +kernel
theorem dX10_ifDelivered_95 : decode cX10_ifDelivered 95 = .ok (.iaload, 1) := by decide +kernel
theorem dX10_ifDelivered_96 : decode cX10_ifDelivered 96 = .ok (.isub, 1) := by decide +kernel
theorem dX10_ifDelivered_97 : decode cX10_ifDelivered 97 = .ok (.ireturn, 1) := by decide +kernel
def bX10_ifDelivered_0 (w : ab_W) (s_X10_isStation : ab_S) (s_X10_isLoad : ab_S) (s_X10_isFar : ab_S) (s_X10_canDeliver : ab_S) (s_X10_refused : ab_S) (s_X10_tryIt : ab_S) (s_X10_deliverIn : ab_S) (s_X10_runIn : ab_S) (M : Nat → ab_P) (Kn : Option Value → ab_H → Prop) : ab_P := ab_ald 0 (ab_ald 0 (ab_ild 1 (ab_cV w 2 10 s_X10_isStation (ab_if1 (fun x => ¬ x = 0) (ab_ild 2 (ab_ild 3 (ab_cN w 2 s_X10_isLoad (ab_if1 (fun x => x = 0) (M 29) (ab_ild 4 (ab_cN w 1 s_X10_isFar (ab_if1 (fun x => ¬ x = 0) (ab_ald 0 (ab_gr w 10 3 (ab_ild 2 (ab_ild 3 (ab_cN w 3 s_X10_canDeliver (ab_if1 (fun x => x = 0) (ab_ci (nI 3) (M 50)) (ab_ci (nI 0) (M 50)))))))) (M 29)))))))) (ab_ci (nI 1) (M 50))))))
def bX10_ifDelivered_29 (w : ab_W) (s_X10_isStation : ab_S) (s_X10_isLoad : ab_S) (s_X10_isFar : ab_S) (s_X10_canDeliver : ab_S) (s_X10_refused : ab_S) (s_X10_tryIt : ab_S) (s_X10_deliverIn : ab_S) (s_X10_runIn : ab_S) (M : Nat → ab_P) (Kn : Option Value → ab_H → Prop) : ab_P := ab_ci (nI 2) (M 50)
def bX10_ifDelivered_50 (w : ab_W) (s_X10_isStation : ab_S) (s_X10_isLoad : ab_S) (s_X10_isFar : ab_S) (s_X10_canDeliver : ab_S) (s_X10_refused : ab_S) (s_X10_tryIt : ab_S) (s_X10_deliverIn : ab_S) (s_X10_runIn : ab_S) (M : Nat → ab_P) (Kn : Option Value → ab_H → Prop) : ab_P := ab_cV w 2 10 s_X10_refused (ab_if1 (fun x => x = 0) (ab_ald 0 (ab_cV w 1 10 s_X10_tryIt (ab_ald 0 (ab_gr w 10 4 (ab_ild 1 (ab_ild 2 (ab_ild 3 (ab_cN w 4 s_X10_deliverIn (ab_pop (ab_ald 0 (ab_ald 0 (ab_gr w 10 4 (ab_ild 4 (ab_cV w 3 10 s_X10_runIn (ab_pop (ab_ald 0 (ab_gr w 10 4 (ab_ci (nI 5) (ab_ia w 11 (ab_ald 0 (ab_gr w 10 3 (ab_ci (nI 5) (ab_ia w 11 (ab_b2 (fun x y => x - y) (ab_ir Kn))))))))))))))))))))))))) (ab_ci (nI 0) (ab_ir Kn)))
set_option maxRecDepth 20000 in
set_option maxHeartbeats 2000000 in
theorem vc_X10_ifDelivered {l : Launch} (hl : l.stackTraces = false) {w : ab_W} (hI : ab_Inj w) {mc : Nat} {σ : ab_H} {As : List Value} {Kn : Option Value → ab_H → Prop} {Kx : String → ab_H → Prop} {s_X10_isStation : ab_S} (ok_X10_isStation : ab_OkN l yX10_isStation (Cond.code yX10_isStation cX10_isStation 2 (some .boolean)) 2 s_X10_isStation) {s_X10_isLoad : ab_S} (ok_X10_isLoad : ab_OkN l yX10_isLoad (Cond.code yX10_isLoad cX10_isLoad 2 (some .boolean)) 2 s_X10_isLoad) {s_X10_isFar : ab_S} (ok_X10_isFar : ab_OkN l yX10_isFar (Cond.code yX10_isFar cX10_isFar 1 (some .boolean)) 2 s_X10_isFar) {s_X10_canDeliver : ab_S} (ok_X10_canDeliver : ab_OkN l yX10_canDeliver (Cond.code yX10_canDeliver cX10_canDeliver 3 (some .boolean)) 1 s_X10_canDeliver) {s_X10_refused : ab_S} (ok_X10_refused : ab_OkN l yX10_refused (Cond.code yX10_refused cX10_refused 2 (some .boolean)) 1 s_X10_refused) {s_X10_tryIt : ab_S} (ok_X10_tryIt : ab_OkN l yX10_tryIt (Cond.code yX10_tryIt cX10_tryIt 1 none) 2 s_X10_tryIt) {s_X10_deliverIn : ab_S} (ok_X10_deliverIn : ab_OkN l yX10_deliverIn (Cond.code yX10_deliverIn cX10_deliverIn 6 (some .int)) 2 s_X10_deliverIn) {s_X10_runIn : ab_S} (ok_X10_runIn : ab_OkN l yX10_runIn (Cond.code yX10_runIn cX10_runIn 5 (some .int)) 5 s_X10_runIn) (hlen : (ab_xl As).length ≤ 5) (h : ∀ M : Nat → ab_P, (∀ L st σ, bX10_ifDelivered_0 w s_X10_isStation s_X10_isLoad s_X10_isFar s_X10_canDeliver s_X10_refused s_X10_tryIt s_X10_deliverIn s_X10_runIn M Kn L st σ → M 0 L st σ) → (∀ L st σ, bX10_ifDelivered_29 w s_X10_isStation s_X10_isLoad s_X10_isFar s_X10_canDeliver s_X10_refused s_X10_tryIt s_X10_deliverIn s_X10_runIn M Kn L st σ → M 29 L st σ) → (∀ L st σ, bX10_ifDelivered_50 w s_X10_isStation s_X10_isLoad s_X10_isFar s_X10_canDeliver s_X10_refused s_X10_tryIt s_X10_deliverIn s_X10_runIn M Kn L st σ → M 50 L st σ) → M 0 (ab_pd 5 (ab_xl As)) [] σ) : ab_Met l yX10_ifDelivered (Cond.code yX10_ifDelivered cX10_ifDelivered 5 (some .int)) 6 mc w σ As Kn Kx := by
  refine ab_enter (by decide) hl hI hlen (by decide) ?_
  intro p e R s m args below meth c C hno hr
  exact h _ (sd_aload_n C (i := 0) dX10_ifDelivered_0 rfl (sd_aload_n C (i := 0) dX10_ifDelivered_1 rfl (sd_iload_n C (i := 1) dX10_ifDelivered_2 rfl (sd_cV C ok_X10_isStation (ci := 10) (row := (RX10, TX10, 15)) rfl rfl ⟨by decide, by decide, wd_1202, wd_11, by decide +kernel⟩ wd_1199 wd_1201 ws_30 dX10_ifDelivered_3 (sd_if_ne C dX10_ifDelivered_6 (tgt := 13) (by decide) (sd_iload_n C (i := 2) dX10_ifDelivered_13 rfl (sd_iload_n C (i := 3) dX10_ifDelivered_14 rfl (sd_cS C ok_X10_isLoad ⟨by decide, by decide, wd_1253, wd_11, by decide +kernel⟩ wd_1251 wd_1252 dX10_ifDelivered_15 (sd_if_eq C dX10_ifDelivered_18 (tgt := 29) (by decide) (fun _ _ _ h => h) (sd_iload C dX10_ifDelivered_21 (sd_cS C ok_X10_isFar ⟨by decide, by decide, wd_1327, wd_11, by decide +kernel⟩ wd_1325 wd_1326 dX10_ifDelivered_23 (sd_if_ne C dX10_ifDelivered_26 (tgt := 33) (by decide) (sd_aload_n C (i := 0) dX10_ifDelivered_33 rfl (sd_gr C (ci := 10) (k := 7) (r := (RX10, TX10, 15)) rfl (by decide) rfl wd_995 dX10_ifDelivered_34 (sd_iload_n C (i := 2) dX10_ifDelivered_37 rfl (sd_iload_n C (i := 3) dX10_ifDelivered_38 rfl (sd_cS C ok_X10_canDeliver ⟨by decide, by decide, wd_1118, wd_11, by decide +kernel⟩ wd_1116 wd_1117 dX10_ifDelivered_39 (sd_if_eq C dX10_ifDelivered_42 (tgt := 49) (by decide) (sd_iconst C (x := nI 3) dX10_ifDelivered_49 (by decide +kernel) (fun _ _ _ h => h)) (sd_iconst C (x := nI 0) dX10_ifDelivered_45 (by decide +kernel) (sd_goto C dX10_ifDelivered_46 (tgt := 50) (by decide) (fun _ _ _ h => h))))))))) (fun _ _ _ h => h)))))))) (sd_iconst C (x := nI 1) dX10_ifDelivered_9 (by decide +kernel) (sd_goto C dX10_ifDelivered_10 (tgt := 50) (by decide) (fun _ _ _ h => h))))))))
    (sd_iconst C (x := nI 2) dX10_ifDelivered_29 (by decide +kernel) (sd_goto C dX10_ifDelivered_30 (tgt := 50) (by decide) (fun _ _ _ h => h)))
    (sd_cV C ok_X10_refused (ci := 10) (row := (RX10, TX10, 15)) rfl rfl ⟨by decide, by decide, wd_1050, wd_11, by decide +kernel⟩ wd_1047 wd_1049 ws_15 dX10_ifDelivered_50 (sd_if_eq C dX10_ifDelivered_53 (tgt := 58) (by decide) (sd_aload_n C (i := 0) dX10_ifDelivered_58 rfl (sd_cV C ok_X10_tryIt (ci := 10) (row := (RX10, TX10, 15)) rfl rfl ⟨by decide, by decide, wd_1211, wd_11, by decide +kernel⟩ wd_1208 wd_1210 ws_32 dX10_ifDelivered_59 (sd_aload_n C (i := 0) dX10_ifDelivered_62 rfl (sd_gr C (ci := 10) (k := 8) (r := (RX10, TX10, 15)) rfl (by decide) rfl wd_996 dX10_ifDelivered_63 (sd_iload_n C (i := 1) dX10_ifDelivered_66 rfl (sd_iload_n C (i := 2) dX10_ifDelivered_67 rfl (sd_iload_n C (i := 3) dX10_ifDelivered_68 rfl (sd_cS C ok_X10_deliverIn ⟨by decide, by decide, wd_1121, wd_11, by decide +kernel⟩ wd_1119 wd_1120 dX10_ifDelivered_69 (sd_pop C dX10_ifDelivered_72 (sd_aload_n C (i := 0) dX10_ifDelivered_73 rfl (sd_aload_n C (i := 0) dX10_ifDelivered_74 rfl (sd_gr C (ci := 10) (k := 8) (r := (RX10, TX10, 15)) rfl (by decide) rfl wd_996 dX10_ifDelivered_75 (sd_iload C dX10_ifDelivered_78 (sd_cV C ok_X10_runIn (ci := 10) (row := (RX10, TX10, 15)) rfl rfl ⟨by decide, by decide, wd_1132, wd_11, by decide +kernel⟩ wd_1129 wd_1131 ws_28 dX10_ifDelivered_80 (sd_pop C dX10_ifDelivered_83 (sd_aload_n C (i := 0) dX10_ifDelivered_84 rfl (sd_gr C (ci := 10) (k := 8) (r := (RX10, TX10, 15)) rfl (by decide) rfl wd_996 dX10_ifDelivered_85 (sd_iconst C (x := nI 5) dX10_ifDelivered_88 (by decide +kernel) (sd_ia C dX10_ifDelivered_89 (sd_aload_n C (i := 0) dX10_ifDelivered_90 rfl (sd_gr C (ci := 10) (k := 7) (r := (RX10, TX10, 15)) rfl (by decide) rfl wd_995 dX10_ifDelivered_91 (sd_iconst C (x := nI 5) dX10_ifDelivered_94 (by decide +kernel) (sd_ia C dX10_ifDelivered_95 (sd_isub C dX10_ifDelivered_96 (sd_ir C hr dX10_ifDelivered_97))))))))))))))))))))))))) (sd_iconst C (x := nI 0) dX10_ifDelivered_56 (by decide +kernel) (sd_ir C hr dX10_ifDelivered_57))))
theorem dX10_isThere_0 : decode cX10_isThere 0 = .ok (.iload_n 1, 1) := by decide +kernel
theorem dX10_isThere_1 : decode cX10_isThere 1 = .ok (.aload_n 0, 1) := by decide +kernel
theorem dX10_isThere_2 : decode cX10_isThere 2 = .ok (.getfield 19, 3) := by decide +kernel
theorem dX10_isThere_5 : decode cX10_isThere 5 = .ok (.iconst 1, 1) := by decide +kernel
theorem dX10_isThere_6 : decode cX10_isThere 6 = .ok (.iaload, 1) := by decide +kernel
theorem dX10_isThere_7 : decode cX10_isThere 7 = .ok (.if_icmp .ge 7, 3) := by decide +kernel
theorem dX10_isThere_10 : decode cX10_isThere 10 = .ok (.iconst 1, 1) := by decide +kernel
theorem dX10_isThere_11 : decode cX10_isThere 11 = .ok (.goto 4, 3) := by decide +kernel
theorem dX10_isThere_14 : decode cX10_isThere 14 = .ok (.iconst 0, 1) := by decide +kernel
theorem dX10_isThere_15 : decode cX10_isThere 15 = .ok (.ireturn, 1) := by decide +kernel
def bX10_isThere_0 (w : ab_W) (M : Nat → ab_P) (Kn : Option Value → ab_H → Prop) : ab_P := ab_ild 1 (ab_ald 0 (ab_gr w 10 4 (ab_ci (nI 1) (ab_ia w 11 (ab_if2 (fun x y => y ≤ x) (ab_ci (nI 0) (M 15)) (ab_ci (nI 1) (M 15)))))))
def bX10_isThere_15 (w : ab_W) (M : Nat → ab_P) (Kn : Option Value → ab_H → Prop) : ab_P := ab_zr Kn
set_option maxRecDepth 20000 in
set_option maxHeartbeats 2000000 in
theorem vc_X10_isThere {l : Launch} (hl : l.stackTraces = false) {w : ab_W} (hI : ab_Inj w) {mc : Nat} {σ : ab_H} {As : List Value} {Kn : Option Value → ab_H → Prop} {Kx : String → ab_H → Prop} (hlen : (ab_xl As).length ≤ 2) (h : ∀ M : Nat → ab_P, (∀ L st σ, bX10_isThere_0 w M Kn L st σ → M 0 L st σ) → (∀ L st σ, bX10_isThere_15 w M Kn L st σ → M 15 L st σ) → M 0 (ab_pd 2 (ab_xl As)) [] σ) : ab_Met l yX10_isThere (Cond.code yX10_isThere cX10_isThere 2 (some .boolean)) 1 mc w σ As Kn Kx := by
  refine ab_enter (by decide) hl hI hlen (by decide) ?_
  intro p e R s m args below meth c C hno hr
  exact h _ (sd_iload_n C (i := 1) dX10_isThere_0 rfl (sd_aload_n C (i := 0) dX10_isThere_1 rfl (sd_gr C (ci := 10) (k := 8) (r := (RX10, TX10, 15)) rfl (by decide) rfl wd_996 dX10_isThere_2 (sd_iconst C (x := nI 1) dX10_isThere_5 (by decide +kernel) (sd_ia C dX10_isThere_6 (sd_icmp_ge C dX10_isThere_7 (tgt := 14) (by decide) (sd_iconst C (x := nI 0) dX10_isThere_14 (by decide +kernel) (fun _ _ _ h => h)) (sd_iconst C (x := nI 1) dX10_isThere_10 (by decide +kernel) (sd_goto C dX10_isThere_11 (tgt := 15) (by decide) (fun _ _ _ h => h)))))))))
    (sd_zr C hr dX10_isThere_15)
theorem dX10_delivers_0 : decode cX10_delivers 0 = .ok (.aload_n 0, 1) := by decide +kernel
theorem dX10_delivers_1 : decode cX10_delivers 1 = .ok (.iload_n 1, 1) := by decide +kernel
theorem dX10_delivers_2 : decode cX10_delivers 2 = .ok (.invokevirtual 274, 3) := by decide +kernel
theorem dX10_delivers_5 : decode cX10_delivers 5 = .ok (.ifCond .eq 15, 3) := by decide +kernel
theorem dX10_delivers_8 : decode cX10_delivers 8 = .ok (.aload_n 0, 1) := by decide +kernel
theorem dX10_delivers_9 : decode cX10_delivers 9 = .ok (.getfield 19, 3) := by decide +kernel
theorem dX10_delivers_12 : decode cX10_delivers 12 = .ok (.iload_n 2, 1) := by decide +kernel
theorem dX10_delivers_13 : decode cX10_delivers 13 = .ok (.iload_n 3, 1) := by decide +kernel
theorem dX10_delivers_14 : decode cX10_delivers 14 = .ok (.invokestatic 168, 3) := by decide +kernel
theorem dX10_delivers_17 : decode cX10_delivers 17 = .ok (.ifCond .ne 5, 3) := by decide +kernel
theorem dX10_delivers_20 : decode cX10_delivers 20 = .ok (.iconst 0, 1) := by decide +kernel
theorem dX10_delivers_21 : decode cX10_delivers 21 = .ok (.ireturn, 1) := by decide +kernel
theorem dX10_delivers_22 : decode cX10_delivers 22 = .ok (.aload_n 0, 1) := by decide +kernel
theorem dX10_delivers_23 : decode cX10_delivers 23 = .ok (.getfield 19, 3) := by decide +kernel
theorem dX10_delivers_26 : decode cX10_delivers 26 = .ok (.iload_n 1, 1) := by decide +kernel
theorem dX10_delivers_27 : decode cX10_delivers 27 = .ok (.iload_n 2, 1) := by decide +kernel
theorem dX10_delivers_28 : decode cX10_delivers 28 = .ok (.iload_n 3, 1) := by decide +kernel
theorem dX10_delivers_29 : decode cX10_delivers 29 = .ok (.invokestatic 172, 3) := by decide +kernel
theorem dX10_delivers_32 : decode cX10_delivers 32 = .ok (.pop, 1) := by decide +kernel
theorem dX10_delivers_33 : decode cX10_delivers 33 = .ok (.iconst 1, 1) := by decide +kernel
theorem dX10_delivers_34 : decode cX10_delivers 34 = .ok (.ireturn, 1) := by decide +kernel
def bX10_delivers_0 (w : ab_W) (s_X10_isThere : ab_S) (s_X10_canDeliver : ab_S) (s_X10_deliverIn : ab_S) (M : Nat → ab_P) (Kn : Option Value → ab_H → Prop) : ab_P := ab_ald 0 (ab_ild 1 (ab_cV w 2 10 s_X10_isThere (ab_if1 (fun x => x = 0) (M 20) (ab_ald 0 (ab_gr w 10 4 (ab_ild 2 (ab_ild 3 (ab_cN w 3 s_X10_canDeliver (ab_if1 (fun x => ¬ x = 0) (ab_ald 0 (ab_gr w 10 4 (ab_ild 1 (ab_ild 2 (ab_ild 3 (ab_cN w 4 s_X10_deliverIn (ab_pop (ab_ci (nI 1) (ab_zr Kn))))))))) (M 20))))))))))
def bX10_delivers_20 (w : ab_W) (s_X10_isThere : ab_S) (s_X10_canDeliver : ab_S) (s_X10_deliverIn : ab_S) (M : Nat → ab_P) (Kn : Option Value → ab_H → Prop) : ab_P := ab_ci (nI 0) (ab_zr Kn)
set_option maxRecDepth 20000 in
set_option maxHeartbeats 2000000 in
theorem vc_X10_delivers {l : Launch} (hl : l.stackTraces = false) {w : ab_W} (hI : ab_Inj w) {mc : Nat} {σ : ab_H} {As : List Value} {Kn : Option Value → ab_H → Prop} {Kx : String → ab_H → Prop} {s_X10_isThere : ab_S} (ok_X10_isThere : ab_OkN l yX10_isThere (Cond.code yX10_isThere cX10_isThere 2 (some .boolean)) 1 s_X10_isThere) {s_X10_canDeliver : ab_S} (ok_X10_canDeliver : ab_OkN l yX10_canDeliver (Cond.code yX10_canDeliver cX10_canDeliver 3 (some .boolean)) 1 s_X10_canDeliver) {s_X10_deliverIn : ab_S} (ok_X10_deliverIn : ab_OkN l yX10_deliverIn (Cond.code yX10_deliverIn cX10_deliverIn 6 (some .int)) 2 s_X10_deliverIn) (hlen : (ab_xl As).length ≤ 4) (h : ∀ M : Nat → ab_P, (∀ L st σ, bX10_delivers_0 w s_X10_isThere s_X10_canDeliver s_X10_deliverIn M Kn L st σ → M 0 L st σ) → (∀ L st σ, bX10_delivers_20 w s_X10_isThere s_X10_canDeliver s_X10_deliverIn M Kn L st σ → M 20 L st σ) → M 0 (ab_pd 4 (ab_xl As)) [] σ) : ab_Met l yX10_delivers (Cond.code yX10_delivers cX10_delivers 4 (some .boolean)) 3 mc w σ As Kn Kx := by
  refine ab_enter (by decide) hl hI hlen (by decide) ?_
  intro p e R s m args below meth c C hno hr
  exact h _ (sd_aload_n C (i := 0) dX10_delivers_0 rfl (sd_iload_n C (i := 1) dX10_delivers_1 rfl (sd_cV C ok_X10_isThere (ci := 10) (row := (RX10, TX10, 15)) rfl rfl ⟨by decide, by decide, wd_1361, wd_11, by decide +kernel⟩ wd_1358 wd_1360 ws_36 dX10_delivers_2 (sd_if_eq C dX10_delivers_5 (tgt := 20) (by decide) (fun _ _ _ h => h) (sd_aload_n C (i := 0) dX10_delivers_8 rfl (sd_gr C (ci := 10) (k := 8) (r := (RX10, TX10, 15)) rfl (by decide) rfl wd_996 dX10_delivers_9 (sd_iload_n C (i := 2) dX10_delivers_12 rfl (sd_iload_n C (i := 3) dX10_delivers_13 rfl (sd_cS C ok_X10_canDeliver ⟨by decide, by decide, wd_1118, wd_11, by decide +kernel⟩ wd_1116 wd_1117 dX10_delivers_14 (sd_if_ne C dX10_delivers_17 (tgt := 22) (by decide) (sd_aload_n C (i := 0) dX10_delivers_22 rfl (sd_gr C (ci := 10) (k := 8) (r := (RX10, TX10, 15)) rfl (by decide) rfl wd_996 dX10_delivers_23 (sd_iload_n C (i := 1) dX10_delivers_26 rfl (sd_iload_n C (i := 2) dX10_delivers_27 rfl (sd_iload_n C (i := 3) dX10_delivers_28 rfl (sd_cS C ok_X10_deliverIn ⟨by decide, by decide, wd_1121, wd_11, by decide +kernel⟩ wd_1119 wd_1120 dX10_delivers_29 (sd_pop C dX10_delivers_32 (sd_iconst C (x := nI 1) dX10_delivers_33 (by decide +kernel) (sd_zr C hr dX10_delivers_34))))))))) (fun _ _ _ h => h)))))))))))
    (sd_iconst C (x := nI 0) dX10_delivers_20 (by decide +kernel) (sd_zr C hr dX10_delivers_21))
theorem dX10_moves_0 : decode cX10_moves 0 = .ok (.aload_n 0, 1) := by decide +kernel
theorem dX10_moves_1 : decode cX10_moves 1 = .ok (.iload_n 1, 1) := by decide +kernel
theorem dX10_moves_2 : decode cX10_moves 2 = .ok (.invokevirtual 274, 3) := by decide +kernel
theorem dX10_moves_5 : decode cX10_moves 5 = .ok (.ifCond .eq 23, 3) := by decide +kernel
theorem dX10_moves_8 : decode cX10_moves 8 = .ok (.aload_n 0, 1) := by decide +kernel
theorem dX10_moves_9 : decode cX10_moves 9 = .ok (.iload_n 2, 1) := by decide +kernel
theorem dX10_moves_10 : decode cX10_moves 10 = .ok (.invokevirtual 274, 3) := by decide +kernel
theorem dX10_moves_13 : decode cX10_moves 13 = .ok (.ifCond .eq 15, 3) := by decide +kernel
theorem dX10_moves_16 : decode cX10_moves 16 = .ok (.aload_n 0, 1) := by decide +kernel
theorem dX10_moves_17 : decode cX10_moves 17 = .ok (.getfield 19, 3) := by decide +kernel
theorem dX10_moves_20 : decode cX10_moves 20 = .ok (.iload_n 1, 1) := by decide +kernel
theorem dX10_moves_21 : decode cX10_moves 21 = .ok (.iload_n 2, 1) := by decide +kernel
theorem dX10_moves_22 : decode cX10_moves 22 = .ok (.invokestatic 255, 3) := by decide +kernel
theorem dX10_moves_25 : decode cX10_moves 25 = .ok (.ifCond .ne 5, 3) := by decide +kernel
theorem dX10_moves_28 : decode cX10_moves 28 = .ok (.iconst 0, 1) := by decide +kernel
theorem dX10_moves_29 : decode cX10_moves 29 = .ok (.ireturn, 1) := by decide +kernel
theorem dX10_moves_30 : decode cX10_moves 30 = .ok (.aload_n 0, 1) := by decide +kernel
theorem dX10_moves_31 : decode cX10_moves 31 = .ok (.getfield 19, 3) := by decide +kernel
theorem dX10_moves_34 : decode cX10_moves 34 = .ok (.iload_n 1, 1) := by decide +kernel
theorem dX10_moves_35 : decode cX10_moves 35 = .ok (.iload_n 2, 1) := by decide +kernel
theorem dX10_moves_36 : decode cX10_moves 36 = .ok (.invokestatic 258, 3) := by decide +kernel
theorem dX10_moves_39 : decode cX10_moves 39 = .ok (.pop, 1) := by decide +kernel
theorem dX10_moves_40 : decode cX10_moves 40 = .ok (.iconst 1, 1) := by decide +kernel
theorem dX10_moves_41 : decode cX10_moves 41 = .ok (.ireturn, 1) := by decide +kernel
def bX10_moves_0 (w : ab_W) (s_X10_isThere : ab_S) (s_X10_canMove : ab_S) (s_X10_moveIn : ab_S) (M : Nat → ab_P) (Kn : Option Value → ab_H → Prop) : ab_P := ab_ald 0 (ab_ild 1 (ab_cV w 2 10 s_X10_isThere (ab_if1 (fun x => x = 0) (M 28) (ab_ald 0 (ab_ild 2 (ab_cV w 2 10 s_X10_isThere (ab_if1 (fun x => x = 0) (M 28) (ab_ald 0 (ab_gr w 10 4 (ab_ild 1 (ab_ild 2 (ab_cN w 3 s_X10_canMove (ab_if1 (fun x => ¬ x = 0) (ab_ald 0 (ab_gr w 10 4 (ab_ild 1 (ab_ild 2 (ab_cN w 3 s_X10_moveIn (ab_pop (ab_ci (nI 1) (ab_zr Kn)))))))) (M 28))))))))))))))
def bX10_moves_28 (w : ab_W) (s_X10_isThere : ab_S) (s_X10_canMove : ab_S) (s_X10_moveIn : ab_S) (M : Nat → ab_P) (Kn : Option Value → ab_H → Prop) : ab_P := ab_ci (nI 0) (ab_zr Kn)
set_option maxRecDepth 20000 in
set_option maxHeartbeats 2000000 in
theorem vc_X10_moves {l : Launch} (hl : l.stackTraces = false) {w : ab_W} (hI : ab_Inj w) {mc : Nat} {σ : ab_H} {As : List Value} {Kn : Option Value → ab_H → Prop} {Kx : String → ab_H → Prop} {s_X10_isThere : ab_S} (ok_X10_isThere : ab_OkN l yX10_isThere (Cond.code yX10_isThere cX10_isThere 2 (some .boolean)) 1 s_X10_isThere) {s_X10_canMove : ab_S} (ok_X10_canMove : ab_OkN l yX10_canMove (Cond.code yX10_canMove cX10_canMove 3 (some .boolean)) 3 s_X10_canMove) {s_X10_moveIn : ab_S} (ok_X10_moveIn : ab_OkN l yX10_moveIn (Cond.code yX10_moveIn cX10_moveIn 4 (some .int)) 3 s_X10_moveIn) (hlen : (ab_xl As).length ≤ 3) (h : ∀ M : Nat → ab_P, (∀ L st σ, bX10_moves_0 w s_X10_isThere s_X10_canMove s_X10_moveIn M Kn L st σ → M 0 L st σ) → (∀ L st σ, bX10_moves_28 w s_X10_isThere s_X10_canMove s_X10_moveIn M Kn L st σ → M 28 L st σ) → M 0 (ab_pd 3 (ab_xl As)) [] σ) : ab_Met l yX10_moves (Cond.code yX10_moves cX10_moves 3 (some .boolean)) 4 mc w σ As Kn Kx := by
  refine ab_enter (by decide) hl hI hlen (by decide) ?_
  intro p e R s m args below meth c C hno hr
  exact h _ (sd_aload_n C (i := 0) dX10_moves_0 rfl (sd_iload_n C (i := 1) dX10_moves_1 rfl (sd_cV C ok_X10_isThere (ci := 10) (row := (RX10, TX10, 15)) rfl rfl ⟨by decide, by decide, wd_1361, wd_11, by decide +kernel⟩ wd_1358 wd_1360 ws_36 dX10_moves_2 (sd_if_eq C dX10_moves_5 (tgt := 28) (by decide) (fun _ _ _ h => h) (sd_aload_n C (i := 0) dX10_moves_8 rfl (sd_iload_n C (i := 2) dX10_moves_9 rfl (sd_cV C ok_X10_isThere (ci := 10) (row := (RX10, TX10, 15)) rfl rfl ⟨by decide, by decide, wd_1361, wd_11, by decide +kernel⟩ wd_1358 wd_1360 ws_36 dX10_moves_10 (sd_if_eq C dX10_moves_13 (tgt := 28) (by decide) (fun _ _ _ h => h) (sd_aload_n C (i := 0) dX10_moves_16 rfl (sd_gr C (ci := 10) (k := 8) (r := (RX10, TX10, 15)) rfl (by decide) rfl wd_996 dX10_moves_17 (sd_iload_n C (i := 1) dX10_moves_20 rfl (sd_iload_n C (i := 2) dX10_moves_21 rfl (sd_cS C ok_X10_canMove ⟨by decide, by decide, wd_1290, wd_11, by decide +kernel⟩ wd_1288 wd_1289 dX10_moves_22 (sd_if_ne C dX10_moves_25 (tgt := 30) (by decide) (sd_aload_n C (i := 0) dX10_moves_30 rfl (sd_gr C (ci := 10) (k := 8) (r := (RX10, TX10, 15)) rfl (by decide) rfl wd_996 dX10_moves_31 (sd_iload_n C (i := 1) dX10_moves_34 rfl (sd_iload_n C (i := 2) dX10_moves_35 rfl (sd_cS C ok_X10_moveIn ⟨by decide, by decide, wd_1293, wd_11, by decide +kernel⟩ wd_1291 wd_1292 dX10_moves_36 (sd_pop C dX10_moves_39 (sd_iconst C (x := nI 1) dX10_moves_40 (by decide +kernel) (sd_zr C hr dX10_moves_41)))))))) (fun _ _ _ h => h)))))))))))))))
    (sd_iconst C (x := nI 0) dX10_moves_28 (by decide +kernel) (sd_zr C hr dX10_moves_29))
theorem dX10_changes_0 : decode cX10_changes 0 = .ok (.aload_n 0, 1) := by decide +kernel
theorem dX10_changes_1 : decode cX10_changes 1 = .ok (.iload_n 1, 1) := by decide +kernel
theorem dX10_changes_2 : decode cX10_changes 2 = .ok (.invokevirtual 274, 3) := by decide +kernel
theorem dX10_changes_5 : decode cX10_changes 5 = .ok (.ifCond .eq 11, 3) := by decide +kernel
theorem dX10_changes_8 : decode cX10_changes 8 = .ok (.iload_n 2, 1) := by decide +kernel
theorem dX10_changes_9 : decode cX10_changes 9 = .ok (.iload_n 3, 1) := by decide +kernel
theorem dX10_changes_10 : decode cX10_changes 10 = .ok (.invokestatic 233, 3) := by decide +kernel
theorem dX10_changes_13 : decode cX10_changes 13 = .ok (.ifCond .ne 5, 3) := by decide +kernel
theorem dX10_changes_16 : decode cX10_changes 16 = .ok (.iconst 0, 1) := by decide +kernel
theorem dX10_changes_17 : decode cX10_changes 17 = .ok (.ireturn, 1) := by decide +kernel
theorem dX10_changes_18 : decode cX10_changes 18 = .ok (.aload_n 0, 1) := by decide +kernel
theorem dX10_changes_19 : decode cX10_changes 19 = .ok (.getfield 19, 3) := by decide +kernel
theorem dX10_changes_22 : decode cX10_changes 22 = .ok (.iload_n 1, 1) := by decide +kernel
theorem dX10_changes_23 : decode cX10_changes 23 = .ok (.iload_n 2, 1) := by decide +kernel
theorem dX10_changes_24 : decode cX10_changes 24 = .ok (.iload_n 3, 1) := by decide +kernel
theorem dX10_changes_25 : decode cX10_changes 25 = .ok (.invokestatic 252, 3) := by decide +kernel
theorem dX10_changes_28 : decode cX10_changes 28 = .ok (.pop, 1) := by decide +kernel
theorem dX10_changes_29 : decode cX10_changes 29 = .ok (.iconst 1, 1) := by decide +kernel
theorem dX10_changes_30 : decode cX10_changes 30 = .ok (.ireturn, 1) := by decide +kernel
def bX10_changes_0 (w : ab_W) (s_X10_isThere : ab_S) (s_X10_isShape : ab_S) (s_X10_changeIn : ab_S) (M : Nat → ab_P) (Kn : Option Value → ab_H → Prop) : ab_P := ab_ald 0 (ab_ild 1 (ab_cV w 2 10 s_X10_isThere (ab_if1 (fun x => x = 0) (M 16) (ab_ild 2 (ab_ild 3 (ab_cN w 2 s_X10_isShape (ab_if1 (fun x => ¬ x = 0) (ab_ald 0 (ab_gr w 10 4 (ab_ild 1 (ab_ild 2 (ab_ild 3 (ab_cN w 4 s_X10_changeIn (ab_pop (ab_ci (nI 1) (ab_zr Kn))))))))) (M 16))))))))
def bX10_changes_16 (w : ab_W) (s_X10_isThere : ab_S) (s_X10_isShape : ab_S) (s_X10_changeIn : ab_S) (M : Nat → ab_P) (Kn : Option Value → ab_H → Prop) : ab_P := ab_ci (nI 0) (ab_zr Kn)
set_option maxRecDepth 20000 in
set_option maxHeartbeats 2000000 in
theorem vc_X10_changes {l : Launch} (hl : l.stackTraces = false) {w : ab_W} (hI : ab_Inj w) {mc : Nat} {σ : ab_H} {As : List Value} {Kn : Option Value → ab_H → Prop} {Kx : String → ab_H → Prop} {s_X10_isThere : ab_S} (ok_X10_isThere : ab_OkN l yX10_isThere (Cond.code yX10_isThere cX10_isThere 2 (some .boolean)) 1 s_X10_isThere) {s_X10_isShape : ab_S} (ok_X10_isShape : ab_OkN l yX10_isShape (Cond.code yX10_isShape cX10_isShape 2 (some .boolean)) 2 s_X10_isShape) {s_X10_changeIn : ab_S} (ok_X10_changeIn : ab_OkN l yX10_changeIn (Cond.code yX10_changeIn cX10_changeIn 5 (some .int)) 2 s_X10_changeIn) (hlen : (ab_xl As).length ≤ 4) (h : ∀ M : Nat → ab_P, (∀ L st σ, bX10_changes_0 w s_X10_isThere s_X10_isShape s_X10_changeIn M Kn L st σ → M 0 L st σ) → (∀ L st σ, bX10_changes_16 w s_X10_isThere s_X10_isShape s_X10_changeIn M Kn L st σ → M 16 L st σ) → M 0 (ab_pd 4 (ab_xl As)) [] σ) : ab_Met l yX10_changes (Cond.code yX10_changes cX10_changes 4 (some .boolean)) 3 mc w σ As Kn Kx := by
  refine ab_enter (by decide) hl hI hlen (by decide) ?_
  intro p e R s m args below meth c C hno hr
  exact h _ (sd_aload_n C (i := 0) dX10_changes_0 rfl (sd_iload_n C (i := 1) dX10_changes_1 rfl (sd_cV C ok_X10_isThere (ci := 10) (row := (RX10, TX10, 15)) rfl rfl ⟨by decide, by decide, wd_1361, wd_11, by decide +kernel⟩ wd_1358 wd_1360 ws_36 dX10_changes_2 (sd_if_eq C dX10_changes_5 (tgt := 16) (by decide) (fun _ _ _ h => h) (sd_iload_n C (i := 2) dX10_changes_8 rfl (sd_iload_n C (i := 3) dX10_changes_9 rfl (sd_cS C ok_X10_isShape ⟨by decide, by decide, wd_1248, wd_11, by decide +kernel⟩ wd_1246 wd_1247 dX10_changes_10 (sd_if_ne C dX10_changes_13 (tgt := 18) (by decide) (sd_aload_n C (i := 0) dX10_changes_18 rfl (sd_gr C (ci := 10) (k := 8) (r := (RX10, TX10, 15)) rfl (by decide) rfl wd_996 dX10_changes_19 (sd_iload_n C (i := 1) dX10_changes_22 rfl (sd_iload_n C (i := 2) dX10_changes_23 rfl (sd_iload_n C (i := 3) dX10_changes_24 rfl (sd_cS C ok_X10_changeIn ⟨by decide, by decide, wd_1279, wd_11, by decide +kernel⟩ wd_1277 wd_1278 dX10_changes_25 (sd_pop C dX10_changes_28 (sd_iconst C (x := nI 1) dX10_changes_29 (by decide +kernel) (sd_zr C hr dX10_changes_30))))))))) (fun _ _ _ h => h)))))))))
    (sd_iconst C (x := nI 0) dX10_changes_16 (by decide +kernel) (sd_zr C hr dX10_changes_17))
theorem dX10_blows_0 : decode cX10_blows 0 = .ok (.iload_n 1, 1) := by decide +kernel
theorem dX10_blows_1 : decode cX10_blows 1 = .ok (.invokestatic 224, 3) := by decide +kernel
theorem dX10_blows_4 : decode cX10_blows 4 = .ok (.ifCond .eq 10, 3) := by decide +kernel
theorem dX10_blows_7 : decode cX10_blows 7 = .ok (.iload_n 2, 1) := by decide +kernel
theorem dX10_blows_8 : decode cX10_blows 8 = .ok (.invokestatic 249, 3) := by decide +kernel
theorem dX10_blows_11 : decode cX10_blows 11 = .ok (.ifCond .ne 5, 3) := by decide +kernel
theorem dX10_blows_14 : decode cX10_blows 14 = .ok (.iconst 0, 1) := by decide +kernel
theorem dX10_blows_15 : decode cX10_blows 15 = .ok (.ireturn, 1) := by decide +kernel
theorem dX10_blows_16 : decode cX10_blows 16 = .ok (.aload_n 0, 1) := by decide +kernel
theorem dX10_blows_17 : decode cX10_blows 17 = .ok (.getfield 19, 3) := by decide +kernel
theorem dX10_blows_20 : decode cX10_blows 20 = .ok (.bipush 17, 2) := by decide +kernel
theorem dX10_blows_22 : decode cX10_blows 22 = .ok (.iload_n 1, 1) := by decide +kernel
theorem dX10_blows_23 : decode cX10_blows 23 = .ok (.iadd, 1) := by decide +kernel
theorem dX10_blows_24 : decode cX10_blows 24 = .ok (.iload_n 2, 1) := by decide +kernel
theorem dX10_blows_25 : decode cX10_blows 25 = .ok (.iastore, 1) := by decide +kernel
theorem dX10_blows_26 : decode cX10_blows 26 = .ok (.iconst 1, 1) := by decide +kernel
theorem dX10_blows_27 : decode cX10_blows 27 = .ok (.ireturn, 1) := by decide +kernel
def bX10_blows_0 (w : ab_W) (s_X10_isHour : ab_S) (s_X10_isWind : ab_S) (M : Nat → ab_P) (Kn : Option Value → ab_H → Prop) : ab_P := ab_ild 1 (ab_cN w 1 s_X10_isHour (ab_if1 (fun x => x = 0) (M 14) (ab_ild 2 (ab_cN w 1 s_X10_isWind (ab_if1 (fun x => ¬ x = 0) (ab_ald 0 (ab_gr w 10 4 (ab_ci (nI 17) (ab_ild 1 (ab_b2 (fun x y => x + y) (ab_ild 2 (ab_is w (ab_ci (nI 1) (ab_zr Kn))))))))) (M 14))))))
def bX10_blows_14 (w : ab_W) (s_X10_isHour : ab_S) (s_X10_isWind : ab_S) (M : Nat → ab_P) (Kn : Option Value → ab_H → Prop) : ab_P := ab_ci (nI 0) (ab_zr Kn)
set_option maxRecDepth 20000 in
set_option maxHeartbeats 2000000 in
theorem vc_X10_blows {l : Launch} (hl : l.stackTraces = false) {w : ab_W} (hI : ab_Inj w) {mc : Nat} {σ : ab_H} {As : List Value} {Kn : Option Value → ab_H → Prop} {Kx : String → ab_H → Prop} {s_X10_isHour : ab_S} (ok_X10_isHour : ab_OkN l yX10_isHour (Cond.code yX10_isHour cX10_isHour 1 (some .boolean)) 2 s_X10_isHour) {s_X10_isWind : ab_S} (ok_X10_isWind : ab_OkN l yX10_isWind (Cond.code yX10_isWind cX10_isWind 1 (some .boolean)) 2 s_X10_isWind) (hlen : (ab_xl As).length ≤ 3) (h : ∀ M : Nat → ab_P, (∀ L st σ, bX10_blows_0 w s_X10_isHour s_X10_isWind M Kn L st σ → M 0 L st σ) → (∀ L st σ, bX10_blows_14 w s_X10_isHour s_X10_isWind M Kn L st σ → M 14 L st σ) → M 0 (ab_pd 3 (ab_xl As)) [] σ) : ab_Met l yX10_blows (Cond.code yX10_blows cX10_blows 3 (some .boolean)) 3 mc w σ As Kn Kx := by
  refine ab_enter (by decide) hl hI hlen (by decide) ?_
  intro p e R s m args below meth c C hno hr
  exact h _ (sd_iload_n C (i := 1) dX10_blows_0 rfl (sd_cS C ok_X10_isHour ⟨by decide, by decide, wd_1236, wd_11, by decide +kernel⟩ wd_1234 wd_1235 dX10_blows_1 (sd_if_eq C dX10_blows_4 (tgt := 14) (by decide) (fun _ _ _ h => h) (sd_iload_n C (i := 2) dX10_blows_7 rfl (sd_cS C ok_X10_isWind ⟨by decide, by decide, wd_1271, wd_11, by decide +kernel⟩ wd_1269 wd_1270 dX10_blows_8 (sd_if_ne C dX10_blows_11 (tgt := 16) (by decide) (sd_aload_n C (i := 0) dX10_blows_16 rfl (sd_gr C (ci := 10) (k := 8) (r := (RX10, TX10, 15)) rfl (by decide) rfl wd_996 dX10_blows_17 (sd_bipush C (x := nI 17) dX10_blows_20 (by decide +kernel) (sd_iload_n C (i := 1) dX10_blows_22 rfl (sd_iadd C dX10_blows_23 (sd_iload_n C (i := 2) dX10_blows_24 rfl (sd_is C dX10_blows_25 (sd_iconst C (x := nI 1) dX10_blows_26 (by decide +kernel) (sd_zr C hr dX10_blows_27))))))))) (fun _ _ _ h => h)))))))
    (sd_iconst C (x := nI 0) dX10_blows_14 (by decide +kernel) (sd_zr C hr dX10_blows_15))
theorem dX10_sets_0 : decode cX10_sets 0 = .ok (.iload_n 1, 1) := by decide +kernel
theorem dX10_sets_1 : decode cX10_sets 1 = .ok (.iload_n 2, 1) := by decide +kernel
theorem dX10_sets_2 : decode cX10_sets 2 = .ok (.invokestatic 266, 3) := by decide +kernel
theorem dX10_sets_5 : decode cX10_sets 5 = .ok (.ifCond .ne 5, 3) := by decide +kernel
theorem dX10_sets_8 : decode cX10_sets 8 = .ok (.iconst 0, 1) := by decide +kernel
theorem dX10_sets_9 : decode cX10_sets 9 = .ok (.ireturn, 1) := by decide +kernel
theorem dX10_sets_10 : decode cX10_sets 10 = .ok (.aload_n 0, 1) := by decide +kernel
theorem dX10_sets_11 : decode cX10_sets 11 = .ok (.getfield 19, 3) := by decide +kernel
theorem dX10_sets_14 : decode cX10_sets 14 = .ok (.bipush 12, 2) := by decide +kernel
theorem dX10_sets_16 : decode cX10_sets 16 = .ok (.iload_n 1, 1) := by decide +kernel
theorem dX10_sets_17 : decode cX10_sets 17 = .ok (.iadd, 1) := by decide +kernel
theorem dX10_sets_18 : decode cX10_sets 18 = .ok (.iload_n 2, 1) := by decide +kernel
theorem dX10_sets_19 : decode cX10_sets 19 = .ok (.iastore, 1) := by decide +kernel
theorem dX10_sets_20 : decode cX10_sets 20 = .ok (.iconst 1, 1) := by decide +kernel
theorem dX10_sets_21 : decode cX10_sets 21 = .ok (.ireturn, 1) := by decide +kernel
def bX10_sets_0 (w : ab_W) (s_X10_isSetting : ab_S) (M : Nat → ab_P) (Kn : Option Value → ab_H → Prop) : ab_P := ab_ild 1 (ab_ild 2 (ab_cN w 2 s_X10_isSetting (ab_if1 (fun x => ¬ x = 0) (ab_ald 0 (ab_gr w 10 4 (ab_ci (nI 12) (ab_ild 1 (ab_b2 (fun x y => x + y) (ab_ild 2 (ab_is w (ab_ci (nI 1) (ab_zr Kn))))))))) (ab_ci (nI 0) (ab_zr Kn)))))
set_option maxRecDepth 20000 in
set_option maxHeartbeats 2000000 in
theorem vc_X10_sets {l : Launch} (hl : l.stackTraces = false) {w : ab_W} (hI : ab_Inj w) {mc : Nat} {σ : ab_H} {As : List Value} {Kn : Option Value → ab_H → Prop} {Kx : String → ab_H → Prop} {s_X10_isSetting : ab_S} (ok_X10_isSetting : ab_OkN l yX10_isSetting (Cond.code yX10_isSetting cX10_isSetting 3 (some .boolean)) 2 s_X10_isSetting) (hlen : (ab_xl As).length ≤ 3) (h : ∀ M : Nat → ab_P, (∀ L st σ, bX10_sets_0 w s_X10_isSetting M Kn L st σ → M 0 L st σ) → M 0 (ab_pd 3 (ab_xl As)) [] σ) : ab_Met l yX10_sets (Cond.code yX10_sets cX10_sets 3 (some .boolean)) 3 mc w σ As Kn Kx := by
  refine ab_enter (by decide) hl hI hlen (by decide) ?_
  intro p e R s m args below meth c C hno hr
  exact h _ (sd_iload_n C (i := 1) dX10_sets_0 rfl (sd_iload_n C (i := 2) dX10_sets_1 rfl (sd_cS C ok_X10_isSetting ⟨by decide, by decide, wd_1308, wd_11, by decide +kernel⟩ wd_1306 wd_1307 dX10_sets_2 (sd_if_ne C dX10_sets_5 (tgt := 10) (by decide) (sd_aload_n C (i := 0) dX10_sets_10 rfl (sd_gr C (ci := 10) (k := 8) (r := (RX10, TX10, 15)) rfl (by decide) rfl wd_996 dX10_sets_11 (sd_bipush C (x := nI 12) dX10_sets_14 (by decide +kernel) (sd_iload_n C (i := 1) dX10_sets_16 rfl (sd_iadd C dX10_sets_17 (sd_iload_n C (i := 2) dX10_sets_18 rfl (sd_is C dX10_sets_19 (sd_iconst C (x := nI 1) dX10_sets_20 (by decide +kernel) (sd_zr C hr dX10_sets_21))))))))) (sd_iconst C (x := nI 0) dX10_sets_8 (by decide +kernel) (sd_zr C hr dX10_sets_9))))))
theorem dX10_runs_0 : decode cX10_runs 0 = .ok (.iload_n 1, 1) := by decide +kernel
theorem dX10_runs_1 : decode cX10_runs 1 = .ok (.invokestatic 263, 3) := by decide +kernel
theorem dX10_runs_4 : decode cX10_runs 4 = .ok (.ifCond .eq 13, 3) := by decide +kernel
theorem dX10_runs_7 : decode cX10_runs 7 = .ok (.aload_n 0, 1) := by decide +kernel
theorem dX10_runs_8 : decode cX10_runs 8 = .ok (.aload_n 0, 1) := by decide +kernel
theorem dX10_runs_9 : decode cX10_runs 9 = .ok (.getfield 19, 3) := by decide +kernel
theorem dX10_runs_12 : decode cX10_runs 12 = .ok (.iload_n 1, 1) := by decide +kernel
theorem dX10_runs_13 : decode cX10_runs 13 = .ok (.invokevirtual 175, 3) := by decide +kernel
theorem dX10_runs_16 : decode cX10_runs 16 = .ok (.pop, 1) := by decide +kernel
theorem dX10_runs_17 : decode cX10_runs 17 = .ok (.iload_n 1, 1) := by decide +kernel
theorem dX10_runs_18 : decode cX10_runs 18 = .ok (.invokestatic 263, 3) := by decide +kernel
theorem dX10_runs_21 : decode cX10_runs 21 = .ok (.ireturn, 1) := by decide +kernel
def bX10_runs_0 (w : ab_W) (s_X10_isRun : ab_S) (s_X10_runIn : ab_S) (M : Nat → ab_P) (Kn : Option Value → ab_H → Prop) : ab_P := ab_ild 1 (ab_cN w 1 s_X10_isRun (ab_if1 (fun x => x = 0) (M 17) (ab_ald 0 (ab_ald 0 (ab_gr w 10 4 (ab_ild 1 (ab_cV w 3 10 s_X10_runIn (ab_pop (M 17)))))))))
def bX10_runs_17 (w : ab_W) (s_X10_isRun : ab_S) (s_X10_runIn : ab_S) (M : Nat → ab_P) (Kn : Option Value → ab_H → Prop) : ab_P := ab_ild 1 (ab_cN w 1 s_X10_isRun (ab_zr Kn))
set_option maxRecDepth 20000 in
set_option maxHeartbeats 2000000 in
theorem vc_X10_runs {l : Launch} (hl : l.stackTraces = false) {w : ab_W} (hI : ab_Inj w) {mc : Nat} {σ : ab_H} {As : List Value} {Kn : Option Value → ab_H → Prop} {Kx : String → ab_H → Prop} {s_X10_isRun : ab_S} (ok_X10_isRun : ab_OkN l yX10_isRun (Cond.code yX10_isRun cX10_isRun 1 (some .boolean)) 2 s_X10_isRun) {s_X10_runIn : ab_S} (ok_X10_runIn : ab_OkN l yX10_runIn (Cond.code yX10_runIn cX10_runIn 5 (some .int)) 5 s_X10_runIn) (hlen : (ab_xl As).length ≤ 2) (h : ∀ M : Nat → ab_P, (∀ L st σ, bX10_runs_0 w s_X10_isRun s_X10_runIn M Kn L st σ → M 0 L st σ) → (∀ L st σ, bX10_runs_17 w s_X10_isRun s_X10_runIn M Kn L st σ → M 17 L st σ) → M 0 (ab_pd 2 (ab_xl As)) [] σ) : ab_Met l yX10_runs (Cond.code yX10_runs cX10_runs 2 (some .boolean)) 6 mc w σ As Kn Kx := by
  refine ab_enter (by decide) hl hI hlen (by decide) ?_
  intro p e R s m args below meth c C hno hr
  exact h _ (sd_iload_n C (i := 1) dX10_runs_0 rfl (sd_cS C ok_X10_isRun ⟨by decide, by decide, wd_1300, wd_11, by decide +kernel⟩ wd_1298 wd_1299 dX10_runs_1 (sd_if_eq C dX10_runs_4 (tgt := 17) (by decide) (fun _ _ _ h => h) (sd_aload_n C (i := 0) dX10_runs_7 rfl (sd_aload_n C (i := 0) dX10_runs_8 rfl (sd_gr C (ci := 10) (k := 8) (r := (RX10, TX10, 15)) rfl (by decide) rfl wd_996 dX10_runs_9 (sd_iload_n C (i := 1) dX10_runs_12 rfl (sd_cV C ok_X10_runIn (ci := 10) (row := (RX10, TX10, 15)) rfl rfl ⟨by decide, by decide, wd_1132, wd_11, by decide +kernel⟩ wd_1129 wd_1131 ws_28 dX10_runs_13 (sd_pop C dX10_runs_16 (fun _ _ _ h => h))))))))))
    (sd_iload_n C (i := 1) dX10_runs_17 rfl (sd_cS C ok_X10_isRun ⟨by decide, by decide, wd_1300, wd_11, by decide +kernel⟩ wd_1298 wd_1299 dX10_runs_18 (sd_zr C hr dX10_runs_21)))
theorem dX10_does_0 : decode cX10_does 0 = .ok (.iload_n 1, 1) := by decide +kernel
theorem dX10_does_1 : decode cX10_does 1 = .ok (.sipush 10000, 3) := by decide +kernel
theorem dX10_does_4 : decode cX10_does 4 = .ok (.idiv, 1) := by decide +kernel
theorem dX10_does_5 : decode cX10_does 5 = .ok (.istore_n 2, 1) := by decide +kernel
theorem dX10_does_6 : decode cX10_does 6 = .ok (.iload_n 1, 1) := by decide +kernel
theorem dX10_does_7 : decode cX10_does 7 = .ok (.sipush 1000, 3) := by decide +kernel
theorem dX10_does_10 : decode cX10_does 10 = .ok (.idiv, 1) := by decide +kernel
theorem dX10_does_11 : decode cX10_does 11 = .ok (.bipush 10, 2) := by decide +kernel
theorem dX10_does_13 : decode cX10_does 13 = .ok (.irem, 1) := by decide +kernel
theorem dX10_does_14 : decode cX10_does 14 = .ok (.istore_n 3, 1) := by decide +kernel
theorem dX10_does_15 : decode cX10_does 15 = .ok (.iload_n 1, 1) := by decide +kernel
theorem dX10_does_16 : decode cX10_does 16 = .ok (.bipush 10, 2) := by decide +kernel
theorem dX10_does_18 : decode cX10_does 18 = .ok (.idiv, 1) := by decide +kernel
theorem dX10_does_19 : decode cX10_does 19 = .ok (.bipush 100, 2) := by decide +kernel
theorem dX10_does_21 : decode cX10_does 21 = .ok (.irem, 1) := by decide +kernel
theorem dX10_does_22 : decode cX10_does 22 = .ok (.istore 4, 2) := by decide +kernel
theorem dX10_does_24 : decode cX10_does 24 = .ok (.iload_n 1, 1) := by decide +kernel
theorem dX10_does_25 : decode cX10_does 25 = .ok (.bipush 10, 2) := by decide +kernel
theorem dX10_does_27 : decode cX10_does 27 = .ok (.irem, 1) := by decide +kernel
theorem dX10_does_28 : decode cX10_does 28 = .ok (.istore 5, 2) := by decide +kernel
theorem dX10_does_30 : decode cX10_does 30 = .ok (.iload_n 1, 1) := by decide +kernel
theorem dX10_does_31 : decode cX10_does 31 = .ok (.bipush 100, 2) := by decide +kernel
theorem dX10_does_33 : decode cX10_does 33 = .ok (.idiv, 1) := by decide +kernel
theorem dX10_does_34 : decode cX10_does 34 = .ok (.bipush 10, 2) := by decide +kernel
theorem dX10_does_36 : decode cX10_does 36 = .ok (.irem, 1) := by decide +kernel
theorem dX10_does_37 : decode cX10_does 37 = .ok (.istore 6, 2) := by decide +kernel
theorem dX10_does_39 : decode cX10_does 39 = .ok (.iload_n 2, 1) := by decide +kernel
theorem dX10_does_40 : decode cX10_does 40 = .ok (.tableswitch 259 1 9 #[52, 62, 85, 95, 119, 140, 167, 201, 233], 52) := by decide +kernel
theorem dX10_does_92 : decode cX10_does 92 = .ok (.aload_n 0, 1) := by decide +kernel
theorem dX10_does_93 : decode cX10_does 93 = .ok (.iload_n 3, 1) := by decide +kernel
theorem dX10_does_94 : decode cX10_does 94 = .ok (.iload 4, 2) := by decide +kernel
theorem dX10_does_96 : decode cX10_does 96 = .ok (.iload 5, 2) := by decide +kernel
theorem dX10_does_98 : decode cX10_does 98 = .ok (.invokevirtual 277, 3) := by decide +kernel
theorem dX10_does_101 : decode cX10_does 101 = .ok (.ireturn, 1) := by decide +kernel
theorem dX10_does_102 : decode cX10_does 102 = .ok (.iload_n 1, 1) := by decide +kernel
theorem dX10_does_103 : decode cX10_does 103 = .ok (.bipush 100, 2) := by decide +kernel
theorem dX10_does_105 : decode cX10_does 105 = .ok (.irem, 1) := by decide +kernel
theorem dX10_does_106 : decode cX10_does 106 = .ok (.ifCond .ne 17, 3) := by decide +kernel
theorem dX10_does_109 : decode cX10_does 109 = .ok (.aload_n 0, 1) := by decide +kernel
theorem dX10_does_110 : decode cX10_does 110 = .ok (.iload_n 3, 1) := by decide +kernel
theorem dX10_does_111 : decode cX10_does 111 = .ok (.iload 6, 2) := by decide +kernel
theorem dX10_does_113 : decode cX10_does 113 = .ok (.invokevirtual 281, 3) := by decide +kernel
theorem dX10_does_116 : decode cX10_does 116 = .ok (.ifCond .eq 7, 3) := by decide +kernel
theorem dX10_does_119 : decode cX10_does 119 = .ok (.iconst 1, 1) := by decide +kernel
theorem dX10_does_120 : decode cX10_does 120 = .ok (.goto 4, 3) := by decide +kernel
theorem dX10_does_123 : decode cX10_does 123 = .ok (.iconst 0, 1) := by decide +kernel
theorem dX10_does_124 : decode cX10_does 124 = .ok (.ireturn, 1) := by decide +kernel
theorem dX10_does_125 : decode cX10_does 125 = .ok (.aload_n 0, 1) := by decide +kernel
theorem dX10_does_126 : decode cX10_does 126 = .ok (.iload_n 3, 1) := by decide +kernel
theorem dX10_does_127 : decode cX10_does 127 = .ok (.iload 4, 2) := by decide +kernel
theorem dX10_does_129 : decode cX10_does 129 = .ok (.iload 5, 2) := by decide +kernel
theorem dX10_does_131 : decode cX10_does 131 = .ok (.invokevirtual 284, 3) := by decide +kernel
theorem dX10_does_134 : decode cX10_does 134 = .ok (.ireturn, 1) := by decide +kernel
theorem dX10_does_135 : decode cX10_does 135 = .ok (.iload 5, 2) := by decide +kernel
theorem dX10_does_137 : decode cX10_does 137 = .ok (.ifCond .ne 20, 3) := by decide +kernel
theorem dX10_does_140 : decode cX10_does 140 = .ok (.aload_n 0, 1) := by decide +kernel
theorem dX10_does_141 : decode cX10_does 141 = .ok (.iload_n 3, 1) := by decide +kernel
theorem dX10_does_142 : decode cX10_does 142 = .ok (.iload 4, 2) := by decide +kernel
theorem dX10_does_144 : decode cX10_does 144 = .ok (.bipush 20, 2) := by decide +kernel
theorem dX10_does_146 : decode cX10_does 146 = .ok (.isub, 1) := by decide +kernel
theorem dX10_does_147 : decode cX10_does 147 = .ok (.invokevirtual 287, 3) := by decide +kernel
theorem dX10_does_150 : decode cX10_does 150 = .ok (.ifCond .eq 7, 3) := by decide +kernel
theorem dX10_does_153 : decode cX10_does 153 = .ok (.iconst 1, 1) := by decide +kernel
theorem dX10_does_154 : decode cX10_does 154 = .ok (.goto 4, 3) := by decide +kernel
theorem dX10_does_157 : decode cX10_does 157 = .ok (.iconst 0, 1) := by decide +kernel
theorem dX10_does_158 : decode cX10_does 158 = .ok (.ireturn, 1) := by decide +kernel
theorem dX10_does_159 : decode cX10_does 159 = .ok (.iload 5, 2) := by decide +kernel
theorem dX10_does_161 : decode cX10_does 161 = .ok (.ifCond .ne 17, 3) := by decide +kernel
theorem dX10_does_164 : decode cX10_does 164 = .ok (.aload_n 0, 1) := by decide +kernel
theorem dX10_does_165 : decode cX10_does 165 = .ok (.iload_n 3, 1) := by decide +kernel
theorem dX10_does_166 : decode cX10_does 166 = .ok (.iload 4, 2) := by decide +kernel
theorem dX10_does_168 : decode cX10_does 168 = .ok (.invokevirtual 290, 3) := by decide +kernel
theorem dX10_does_171 : decode cX10_does 171 = .ok (.ifCond .eq 7, 3) := by decide +kernel
theorem dX10_does_174 : decode cX10_does 174 = .ok (.iconst 1, 1) := by decide +kernel
theorem dX10_does_175 : decode cX10_does 175 = .ok (.goto 4, 3) := by decide +kernel
theorem dX10_does_178 : decode cX10_does 178 = .ok (.iconst 0, 1) := by decide +kernel
theorem dX10_does_179 : decode cX10_does 179 = .ok (.ireturn, 1) := by decide +kernel
theorem dX10_does_180 : decode cX10_does 180 = .ok (.iload_n 1, 1) := by decide +kernel
theorem dX10_does_181 : decode cX10_does 181 = .ok (.sipush 10000, 3) := by decide +kernel
theorem dX10_does_184 : decode cX10_does 184 = .ok (.irem, 1) := by decide +kernel
theorem dX10_does_185 : decode cX10_does 185 = .ok (.bipush 100, 2) := by decide +kernel
theorem dX10_does_187 : decode cX10_does 187 = .ok (.if_icmp .ge 18, 3) := by decide +kernel
theorem dX10_does_190 : decode cX10_does 190 = .ok (.aload_n 0, 1) := by decide +kernel
theorem dX10_does_191 : decode cX10_does 191 = .ok (.iload_n 1, 1) := by decide +kernel
theorem dX10_does_192 : decode cX10_does 192 = .ok (.bipush 100, 2) := by decide +kernel
theorem dX10_does_194 : decode cX10_does 194 = .ok (.irem, 1) := by decide +kernel
theorem dX10_does_195 : decode cX10_does 195 = .ok (.invokevirtual 293, 3) := by decide +kernel
theorem dX10_does_198 : decode cX10_does 198 = .ok (.ifCond .eq 7, 3) := by decide +kernel
theorem dX10_does_201 : decode cX10_does 201 = .ok (.iconst 1, 1) := by decide +kernel
theorem dX10_does_202 : decode cX10_does 202 = .ok (.goto 4, 3) := by decide +kernel
theorem dX10_does_205 : decode cX10_does 205 = .ok (.iconst 0, 1) := by decide +kernel
theorem dX10_does_206 : decode cX10_does 206 = .ok (.ireturn, 1) := by decide +kernel
theorem dX10_does_207 : decode cX10_does 207 = .ok (.iload 5, 2) := by decide +kernel
theorem dX10_does_209 : decode cX10_does 209 = .ok (.ifCond .ne 30, 3) := by decide +kernel
theorem dX10_does_212 : decode cX10_does 212 = .ok (.aload_n 0, 1) := by decide +kernel
theorem dX10_does_213 : decode cX10_does 213 = .ok (.iload_n 3, 1) := by decide +kernel
theorem dX10_does_214 : decode cX10_does 214 = .ok (.invokevirtual 274, 3) := by decide +kernel
theorem dX10_does_217 : decode cX10_does 217 = .ok (.ifCond .eq 22, 3) := by decide +kernel
theorem dX10_does_220 : decode cX10_does 220 = .ok (.aload_n 0, 1) := by decide +kernel
theorem dX10_does_221 : decode cX10_does 221 = .ok (.getfield 19, 3) := by decide +kernel
theorem dX10_does_224 : decode cX10_does 224 = .ok (.iload_n 3, 1) := by decide +kernel
theorem dX10_does_225 : decode cX10_does 225 = .ok (.iconst 3, 1) := by decide +kernel
theorem dX10_does_226 : decode cX10_does 226 = .ok (.invokestatic 52, 3) := by decide +kernel
theorem dX10_does_229 : decode cX10_does 229 = .ok (.iaload, 1) := by decide +kernel
theorem dX10_does_230 : decode cX10_does 230 = .ok (.iload 4, 2) := by decide +kernel
theorem dX10_does_232 : decode cX10_does 232 = .ok (.if_icmp .lt 7, 3) := by decide +kernel
theorem dX10_does_235 : decode cX10_does 235 = .ok (.iconst 1, 1) := by decide +kernel
theorem dX10_does_236 : decode cX10_does 236 = .ok (.goto 4, 3) := by decide +kernel
theorem dX10_does_239 : decode cX10_does 239 = .ok (.iconst 0, 1) := by decide +kernel
theorem dX10_does_240 : decode cX10_does 240 = .ok (.ireturn, 1) := by decide +kernel
theorem dX10_does_241 : decode cX10_does 241 = .ok (.iload 5, 2) := by decide +kernel
theorem dX10_does_243 : decode cX10_does 243 = .ok (.ifCond .ne 28, 3) := by decide +kernel
theorem dX10_does_246 : decode cX10_does 246 = .ok (.aload_n 0, 1) := by decide +kernel
theorem dX10_does_247 : decode cX10_does 247 = .ok (.iload_n 3, 1) := by decide +kernel
theorem dX10_does_248 : decode cX10_does 248 = .ok (.invokevirtual 274, 3) := by decide +kernel
theorem dX10_does_251 : decode cX10_does 251 = .ok (.ifCond .eq 20, 3) := by decide +kernel
theorem dX10_does_254 : decode cX10_does 254 = .ok (.aload_n 0, 1) := by decide +kernel
theorem dX10_does_255 : decode cX10_does 255 = .ok (.getfield 19, 3) := by decide +kernel
theorem dX10_does_258 : decode cX10_does 258 = .ok (.iload_n 3, 1) := by decide +kernel
theorem dX10_does_259 : decode cX10_does 259 = .ok (.invokestatic 56, 3) := by decide +kernel
theorem dX10_does_262 : decode cX10_does 262 = .ok (.iload 4, 2) := by decide +kernel
theorem dX10_does_264 : decode cX10_does 264 = .ok (.if_icmp .lt 7, 3) := by decide +kernel
theorem dX10_does_267 : decode cX10_does 267 = .ok (.iconst 1, 1) := by decide +kernel
theorem dX10_does_268 : decode cX10_does 268 = .ok (.goto 4, 3) := by decide +kernel
theorem dX10_does_271 : decode cX10_does 271 = .ok (.iconst 0, 1) := by decide +kernel
theorem dX10_does_272 : decode cX10_does 272 = .ok (.ireturn, 1) := by decide +kernel
theorem dX10_does_273 : decode cX10_does 273 = .ok (.iload 5, 2) := by decide +kernel
theorem dX10_does_275 : decode cX10_does 275 = .ok (.ifCond .ne 22, 3) := by decide +kernel
theorem dX10_does_278 : decode cX10_does 278 = .ok (.iload_n 3, 1) := by decide +kernel
theorem dX10_does_279 : decode cX10_does 279 = .ok (.ifCond .ne 18, 3) := by decide +kernel
theorem dX10_does_282 : decode cX10_does 282 = .ok (.aload_n 0, 1) := by decide +kernel
theorem dX10_does_283 : decode cX10_does 283 = .ok (.getfield 19, 3) := by decide +kernel
theorem dX10_does_286 : decode cX10_does 286 = .ok (.iconst 5, 1) := by decide +kernel
theorem dX10_does_287 : decode cX10_does 287 = .ok (.iaload, 1) := by decide +kernel
theorem dX10_does_288 : decode cX10_does 288 = .ok (.iload 4, 2) := by decide +kernel
theorem dX10_does_290 : decode cX10_does 290 = .ok (.if_icmp .gt 7, 3) := by decide +kernel
theorem dX10_does_293 : decode cX10_does 293 = .ok (.iconst 1, 1) := by decide +kernel
theorem dX10_does_294 : decode cX10_does 294 = .ok (.goto 4, 3) := by decide +kernel
theorem dX10_does_297 : decode cX10_does 297 = .ok (.iconst 0, 1) := by decide +kernel
theorem dX10_does_298 : decode cX10_does 298 = .ok (.ireturn, 1) := by decide +kernel
theorem dX10_does_299 : decode cX10_does 299 = .ok (.iconst 0, 1) := by decide +kernel
theorem dX10_does_300 : decode cX10_does 300 = .ok (.ireturn, 1) := by decide +kernel
def bX10_does_0 (w : ab_W) (s_X10_delivers : ab_S) (s_X10_moves : ab_S) (s_X10_changes : ab_S) (s_X10_blows : ab_S) (s_X10_sets : ab_S) (s_X10_runs : ab_S) (s_X10_isThere : ab_S) (s_X10_stationAt : ab_S) (s_X10_sondes : ab_S) (M : Nat → ab_P) (Kn : Option Value → ab_H → Prop) : ab_P := ab_ild 1 (ab_ci (nI 10000) (ab_d2 (fun x y => x / y) (ab_ist 2 (ab_ild 1 (ab_ci (nI 1000) (ab_d2 (fun x y => x / y) (ab_ci (nI 10) (ab_d2 (fun x y => x - x / y * y) (ab_ist 3 (ab_ild 1 (ab_ci (nI 10) (ab_d2 (fun x y => x / y) (ab_ci (nI 100) (ab_d2 (fun x y => x - x / y * y) (ab_ist 4 (ab_ild 1 (ab_ci (nI 10) (ab_d2 (fun x y => x - x / y * y) (ab_ist 5 (ab_ild 1 (ab_ci (nI 100) (ab_d2 (fun x y => x / y) (ab_ci (nI 10) (ab_d2 (fun x y => x - x / y * y) (ab_ist 6 (ab_ild 2 (ab_sw [(nI 1, ab_ald 0 (ab_ild 3 (ab_ild 4 (ab_ild 5 (ab_cV w 4 10 s_X10_delivers (ab_zr Kn)))))), (nI 2, ab_ild 1 (ab_ci (nI 100) (ab_d2 (fun x y => x - x / y * y) (ab_if1 (fun x => ¬ x = 0) (M 123) (ab_ald 0 (ab_ild 3 (ab_ild 6 (ab_cV w 3 10 s_X10_moves (ab_if1 (fun x => x = 0) (M 123) (ab_ci (nI 1) (M 124))))))))))), (nI 3, ab_ald 0 (ab_ild 3 (ab_ild 4 (ab_ild 5 (ab_cV w 4 10 s_X10_changes (ab_zr Kn)))))), (nI 4, ab_ild 5 (ab_if1 (fun x => ¬ x = 0) (M 157) (ab_ald 0 (ab_ild 3 (ab_ild 4 (ab_ci (nI 20) (ab_b2 (fun x y => x - y) (ab_cV w 3 10 s_X10_blows (ab_if1 (fun x => x = 0) (M 157) (ab_ci (nI 1) (M 158))))))))))), (nI 5, ab_ild 5 (ab_if1 (fun x => ¬ x = 0) (M 178) (ab_ald 0 (ab_ild 3 (ab_ild 4 (ab_cV w 3 10 s_X10_sets (ab_if1 (fun x => x = 0) (M 178) (ab_ci (nI 1) (M 179))))))))), (nI 6, ab_ild 1 (ab_ci (nI 10000) (ab_d2 (fun x y => x - x / y * y) (ab_ci (nI 100) (ab_if2 (fun x y => y ≤ x) (M 205) (ab_ald 0 (ab_ild 1 (ab_ci (nI 100) (ab_d2 (fun x y => x - x / y * y) (ab_cV w 2 10 s_X10_runs (ab_if1 (fun x => x = 0) (M 205) (ab_ci (nI 1) (M 206))))))))))))), (nI 7, ab_ild 5 (ab_if1 (fun x => ¬ x = 0) (M 239) (ab_ald 0 (ab_ild 3 (ab_cV w 2 10 s_X10_isThere (ab_if1 (fun x => x = 0) (M 239) (ab_ald 0 (ab_gr w 10 4 (ab_ild 3 (ab_ci (nI 3) (ab_cN w 2 s_X10_stationAt (ab_ia w 11 (ab_ild 4 (ab_if2 (fun x y => x < y) (M 239) (ab_ci (nI 1) (M 240)))))))))))))))), (nI 8, ab_ild 5 (ab_if1 (fun x => ¬ x = 0) (M 271) (ab_ald 0 (ab_ild 3 (ab_cV w 2 10 s_X10_isThere (ab_if1 (fun x => x = 0) (M 271) (ab_ald 0 (ab_gr w 10 4 (ab_ild 3 (ab_cN w 2 s_X10_sondes (ab_ild 4 (ab_if2 (fun x y => x < y) (M 271) (ab_ci (nI 1) (M 272)))))))))))))), (nI 9, ab_ild 5 (ab_if1 (fun x => ¬ x = 0) (M 297) (ab_ild 3 (ab_if1 (fun x => ¬ x = 0) (M 297) (ab_ald 0 (ab_gr w 10 4 (ab_ci (nI 5) (ab_ia w 11 (ab_ild 4 (ab_if2 (fun x y => y < x) (M 297) (ab_ci (nI 1) (M 298))))))))))))] (ab_ci (nI 0) (ab_zr Kn)))))))))))))))))))))))))))))
def bX10_does_123 (w : ab_W) (s_X10_delivers : ab_S) (s_X10_moves : ab_S) (s_X10_changes : ab_S) (s_X10_blows : ab_S) (s_X10_sets : ab_S) (s_X10_runs : ab_S) (s_X10_isThere : ab_S) (s_X10_stationAt : ab_S) (s_X10_sondes : ab_S) (M : Nat → ab_P) (Kn : Option Value → ab_H → Prop) : ab_P := ab_ci (nI 0) (M 124)
def bX10_does_124 (w : ab_W) (s_X10_delivers : ab_S) (s_X10_moves : ab_S) (s_X10_changes : ab_S) (s_X10_blows : ab_S) (s_X10_sets : ab_S) (s_X10_runs : ab_S) (s_X10_isThere : ab_S) (s_X10_stationAt : ab_S) (s_X10_sondes : ab_S) (M : Nat → ab_P) (Kn : Option Value → ab_H → Prop) : ab_P := ab_zr Kn
def bX10_does_157 (w : ab_W) (s_X10_delivers : ab_S) (s_X10_moves : ab_S) (s_X10_changes : ab_S) (s_X10_blows : ab_S) (s_X10_sets : ab_S) (s_X10_runs : ab_S) (s_X10_isThere : ab_S) (s_X10_stationAt : ab_S) (s_X10_sondes : ab_S) (M : Nat → ab_P) (Kn : Option Value → ab_H → Prop) : ab_P := ab_ci (nI 0) (M 158)
def bX10_does_158 (w : ab_W) (s_X10_delivers : ab_S) (s_X10_moves : ab_S) (s_X10_changes : ab_S) (s_X10_blows : ab_S) (s_X10_sets : ab_S) (s_X10_runs : ab_S) (s_X10_isThere : ab_S) (s_X10_stationAt : ab_S) (s_X10_sondes : ab_S) (M : Nat → ab_P) (Kn : Option Value → ab_H → Prop) : ab_P := ab_zr Kn
def bX10_does_178 (w : ab_W) (s_X10_delivers : ab_S) (s_X10_moves : ab_S) (s_X10_changes : ab_S) (s_X10_blows : ab_S) (s_X10_sets : ab_S) (s_X10_runs : ab_S) (s_X10_isThere : ab_S) (s_X10_stationAt : ab_S) (s_X10_sondes : ab_S) (M : Nat → ab_P) (Kn : Option Value → ab_H → Prop) : ab_P := ab_ci (nI 0) (M 179)
def bX10_does_179 (w : ab_W) (s_X10_delivers : ab_S) (s_X10_moves : ab_S) (s_X10_changes : ab_S) (s_X10_blows : ab_S) (s_X10_sets : ab_S) (s_X10_runs : ab_S) (s_X10_isThere : ab_S) (s_X10_stationAt : ab_S) (s_X10_sondes : ab_S) (M : Nat → ab_P) (Kn : Option Value → ab_H → Prop) : ab_P := ab_zr Kn
def bX10_does_205 (w : ab_W) (s_X10_delivers : ab_S) (s_X10_moves : ab_S) (s_X10_changes : ab_S) (s_X10_blows : ab_S) (s_X10_sets : ab_S) (s_X10_runs : ab_S) (s_X10_isThere : ab_S) (s_X10_stationAt : ab_S) (s_X10_sondes : ab_S) (M : Nat → ab_P) (Kn : Option Value → ab_H → Prop) : ab_P := ab_ci (nI 0) (M 206)
def bX10_does_206 (w : ab_W) (s_X10_delivers : ab_S) (s_X10_moves : ab_S) (s_X10_changes : ab_S) (s_X10_blows : ab_S) (s_X10_sets : ab_S) (s_X10_runs : ab_S) (s_X10_isThere : ab_S) (s_X10_stationAt : ab_S) (s_X10_sondes : ab_S) (M : Nat → ab_P) (Kn : Option Value → ab_H → Prop) : ab_P := ab_zr Kn
def bX10_does_239 (w : ab_W) (s_X10_delivers : ab_S) (s_X10_moves : ab_S) (s_X10_changes : ab_S) (s_X10_blows : ab_S) (s_X10_sets : ab_S) (s_X10_runs : ab_S) (s_X10_isThere : ab_S) (s_X10_stationAt : ab_S) (s_X10_sondes : ab_S) (M : Nat → ab_P) (Kn : Option Value → ab_H → Prop) : ab_P := ab_ci (nI 0) (M 240)
def bX10_does_240 (w : ab_W) (s_X10_delivers : ab_S) (s_X10_moves : ab_S) (s_X10_changes : ab_S) (s_X10_blows : ab_S) (s_X10_sets : ab_S) (s_X10_runs : ab_S) (s_X10_isThere : ab_S) (s_X10_stationAt : ab_S) (s_X10_sondes : ab_S) (M : Nat → ab_P) (Kn : Option Value → ab_H → Prop) : ab_P := ab_zr Kn
def bX10_does_271 (w : ab_W) (s_X10_delivers : ab_S) (s_X10_moves : ab_S) (s_X10_changes : ab_S) (s_X10_blows : ab_S) (s_X10_sets : ab_S) (s_X10_runs : ab_S) (s_X10_isThere : ab_S) (s_X10_stationAt : ab_S) (s_X10_sondes : ab_S) (M : Nat → ab_P) (Kn : Option Value → ab_H → Prop) : ab_P := ab_ci (nI 0) (M 272)
def bX10_does_272 (w : ab_W) (s_X10_delivers : ab_S) (s_X10_moves : ab_S) (s_X10_changes : ab_S) (s_X10_blows : ab_S) (s_X10_sets : ab_S) (s_X10_runs : ab_S) (s_X10_isThere : ab_S) (s_X10_stationAt : ab_S) (s_X10_sondes : ab_S) (M : Nat → ab_P) (Kn : Option Value → ab_H → Prop) : ab_P := ab_zr Kn
def bX10_does_297 (w : ab_W) (s_X10_delivers : ab_S) (s_X10_moves : ab_S) (s_X10_changes : ab_S) (s_X10_blows : ab_S) (s_X10_sets : ab_S) (s_X10_runs : ab_S) (s_X10_isThere : ab_S) (s_X10_stationAt : ab_S) (s_X10_sondes : ab_S) (M : Nat → ab_P) (Kn : Option Value → ab_H → Prop) : ab_P := ab_ci (nI 0) (M 298)
def bX10_does_298 (w : ab_W) (s_X10_delivers : ab_S) (s_X10_moves : ab_S) (s_X10_changes : ab_S) (s_X10_blows : ab_S) (s_X10_sets : ab_S) (s_X10_runs : ab_S) (s_X10_isThere : ab_S) (s_X10_stationAt : ab_S) (s_X10_sondes : ab_S) (M : Nat → ab_P) (Kn : Option Value → ab_H → Prop) : ab_P := ab_zr Kn
set_option maxRecDepth 20000 in
set_option maxHeartbeats 2000000 in
theorem vc_X10_does {l : Launch} (hl : l.stackTraces = false) {w : ab_W} (hI : ab_Inj w) {mc : Nat} {σ : ab_H} {As : List Value} {Kn : Option Value → ab_H → Prop} {Kx : String → ab_H → Prop} {s_X10_delivers : ab_S} (ok_X10_delivers : ab_OkN l yX10_delivers (Cond.code yX10_delivers cX10_delivers 4 (some .boolean)) 3 s_X10_delivers) {s_X10_moves : ab_S} (ok_X10_moves : ab_OkN l yX10_moves (Cond.code yX10_moves cX10_moves 3 (some .boolean)) 4 s_X10_moves) {s_X10_changes : ab_S} (ok_X10_changes : ab_OkN l yX10_changes (Cond.code yX10_changes cX10_changes 4 (some .boolean)) 3 s_X10_changes) {s_X10_blows : ab_S} (ok_X10_blows : ab_OkN l yX10_blows (Cond.code yX10_blows cX10_blows 3 (some .boolean)) 3 s_X10_blows) {s_X10_sets : ab_S} (ok_X10_sets : ab_OkN l yX10_sets (Cond.code yX10_sets cX10_sets 3 (some .boolean)) 3 s_X10_sets) {s_X10_runs : ab_S} (ok_X10_runs : ab_OkN l yX10_runs (Cond.code yX10_runs cX10_runs 2 (some .boolean)) 6 s_X10_runs) {s_X10_isThere : ab_S} (ok_X10_isThere : ab_OkN l yX10_isThere (Cond.code yX10_isThere cX10_isThere 2 (some .boolean)) 1 s_X10_isThere) {s_X10_stationAt : ab_S} (ok_X10_stationAt : ab_OkN l yX10_stationAt (Cond.code yX10_stationAt cX10_stationAt 2 (some .int)) 1 s_X10_stationAt) {s_X10_sondes : ab_S} (ok_X10_sondes : ab_OkN l yX10_sondes (Cond.code yX10_sondes cX10_sondes 4 (some .int)) 2 s_X10_sondes) (hlen : (ab_xl As).length ≤ 7) (h : ∀ M : Nat → ab_P, (∀ L st σ, bX10_does_0 w s_X10_delivers s_X10_moves s_X10_changes s_X10_blows s_X10_sets s_X10_runs s_X10_isThere s_X10_stationAt s_X10_sondes M Kn L st σ → M 0 L st σ) → (∀ L st σ, bX10_does_123 w s_X10_delivers s_X10_moves s_X10_changes s_X10_blows s_X10_sets s_X10_runs s_X10_isThere s_X10_stationAt s_X10_sondes M Kn L st σ → M 123 L st σ) → (∀ L st σ, bX10_does_124 w s_X10_delivers s_X10_moves s_X10_changes s_X10_blows s_X10_sets s_X10_runs s_X10_isThere s_X10_stationAt s_X10_sondes M Kn L st σ → M 124 L st σ) → (∀ L st σ, bX10_does_157 w s_X10_delivers s_X10_moves s_X10_changes s_X10_blows s_X10_sets s_X10_runs s_X10_isThere s_X10_stationAt s_X10_sondes M Kn L st σ → M 157 L st σ) → (∀ L st σ, bX10_does_158 w s_X10_delivers s_X10_moves s_X10_changes s_X10_blows s_X10_sets s_X10_runs s_X10_isThere s_X10_stationAt s_X10_sondes M Kn L st σ → M 158 L st σ) → (∀ L st σ, bX10_does_178 w s_X10_delivers s_X10_moves s_X10_changes s_X10_blows s_X10_sets s_X10_runs s_X10_isThere s_X10_stationAt s_X10_sondes M Kn L st σ → M 178 L st σ) → (∀ L st σ, bX10_does_179 w s_X10_delivers s_X10_moves s_X10_changes s_X10_blows s_X10_sets s_X10_runs s_X10_isThere s_X10_stationAt s_X10_sondes M Kn L st σ → M 179 L st σ) → (∀ L st σ, bX10_does_205 w s_X10_delivers s_X10_moves s_X10_changes s_X10_blows s_X10_sets s_X10_runs s_X10_isThere s_X10_stationAt s_X10_sondes M Kn L st σ → M 205 L st σ) → (∀ L st σ, bX10_does_206 w s_X10_delivers s_X10_moves s_X10_changes s_X10_blows s_X10_sets s_X10_runs s_X10_isThere s_X10_stationAt s_X10_sondes M Kn L st σ → M 206 L st σ) → (∀ L st σ, bX10_does_239 w s_X10_delivers s_X10_moves s_X10_changes s_X10_blows s_X10_sets s_X10_runs s_X10_isThere s_X10_stationAt s_X10_sondes M Kn L st σ → M 239 L st σ) → (∀ L st σ, bX10_does_240 w s_X10_delivers s_X10_moves s_X10_changes s_X10_blows s_X10_sets s_X10_runs s_X10_isThere s_X10_stationAt s_X10_sondes M Kn L st σ → M 240 L st σ) → (∀ L st σ, bX10_does_271 w s_X10_delivers s_X10_moves s_X10_changes s_X10_blows s_X10_sets s_X10_runs s_X10_isThere s_X10_stationAt s_X10_sondes M Kn L st σ → M 271 L st σ) → (∀ L st σ, bX10_does_272 w s_X10_delivers s_X10_moves s_X10_changes s_X10_blows s_X10_sets s_X10_runs s_X10_isThere s_X10_stationAt s_X10_sondes M Kn L st σ → M 272 L st σ) → (∀ L st σ, bX10_does_297 w s_X10_delivers s_X10_moves s_X10_changes s_X10_blows s_X10_sets s_X10_runs s_X10_isThere s_X10_stationAt s_X10_sondes M Kn L st σ → M 297 L st σ) → (∀ L st σ, bX10_does_298 w s_X10_delivers s_X10_moves s_X10_changes s_X10_blows s_X10_sets s_X10_runs s_X10_isThere s_X10_stationAt s_X10_sondes M Kn L st σ → M 298 L st σ) → M 0 (ab_pd 7 (ab_xl As)) [] σ) : ab_Met l yX10_does (Cond.code yX10_does cX10_does 7 (some .boolean)) 7 mc w σ As Kn Kx := by
  refine ab_enter (by decide) hl hI hlen (by decide) ?_
  intro p e R s m args below meth c C hno hr
  exact h _ (sd_iload_n C (i := 1) dX10_does_0 rfl (sd_sipush C (x := nI 10000) dX10_does_1 (by decide +kernel) (sd_idiv C dX10_does_4 (sd_istore_n C (i := 2) dX10_does_5 rfl (by decide) (sd_iload_n C (i := 1) dX10_does_6 rfl (sd_sipush C (x := nI 1000) dX10_does_7 (by decide +kernel) (sd_idiv C dX10_does_10 (sd_bipush C (x := nI 10) dX10_does_11 (by decide +kernel) (sd_irem C dX10_does_13 (sd_istore_n C (i := 3) dX10_does_14 rfl (by decide) (sd_iload_n C (i := 1) dX10_does_15 rfl (sd_bipush C (x := nI 10) dX10_does_16 (by decide +kernel) (sd_idiv C dX10_does_18 (sd_bipush C (x := nI 100) dX10_does_19 (by decide +kernel) (sd_irem C dX10_does_21 (sd_istore C dX10_does_22 (by decide) (sd_iload_n C (i := 1) dX10_does_24 rfl (sd_bipush C (x := nI 10) dX10_does_25 (by decide +kernel) (sd_irem C dX10_does_27 (sd_istore C dX10_does_28 (by decide) (sd_iload_n C (i := 1) dX10_does_30 rfl (sd_bipush C (x := nI 100) dX10_does_31 (by decide +kernel) (sd_idiv C dX10_does_33 (sd_bipush C (x := nI 10) dX10_does_34 (by decide +kernel) (sd_irem C dX10_does_36 (sd_istore C dX10_does_37 (by decide) (sd_iload_n C (i := 2) dX10_does_39 rfl (sd_table C (td := 299) dX10_does_40 9 (by decide +kernel : ([nI 1, nI 2, nI 3, nI 4, nI 5, nI 6, nI 7, nI 8, nI 9] : List Int32) = _) (by decide) (List.forall_mem_cons.mpr ⟨⟨52, 92, (by decide +kernel : ¬ (nI 1 : Int32).toInt < 1), (by decide +kernel : ¬ (9 : Int) < (nI 1 : Int32).toInt), (by decide +kernel : (#[52, 62, 85, 95, 119, 140, 167, 201, 233] : Array Int)[((nI 1 : Int32).toInt - 1).toNat]? = some 52), (by decide), (sd_aload_n C (i := 0) dX10_does_92 rfl (sd_iload_n C (i := 3) dX10_does_93 rfl (sd_iload C dX10_does_94 (sd_iload C dX10_does_96 (sd_cV C ok_X10_delivers (ci := 10) (row := (RX10, TX10, 15)) rfl rfl ⟨by decide, by decide, wd_1357, wd_11, by decide +kernel⟩ wd_1354 wd_1356 ws_35 dX10_does_98 (sd_zr C hr dX10_does_101))))))⟩, (List.forall_mem_cons.mpr ⟨⟨62, 102, (by decide +kernel : ¬ (nI 2 : Int32).toInt < 1), (by decide +kernel : ¬ (9 : Int) < (nI 2 : Int32).toInt), (by decide +kernel : (#[52, 62, 85, 95, 119, 140, 167, 201, 233] : Array Int)[((nI 2 : Int32).toInt - 1).toNat]? = some 62), (by decide), (sd_iload_n C (i := 1) dX10_does_102 rfl (sd_bipush C (x := nI 100) dX10_does_103 (by decide +kernel) (sd_irem C dX10_does_105 (sd_if_ne C dX10_does_106 (tgt := 123) (by decide) (fun _ _ _ h => h) (sd_aload_n C (i := 0) dX10_does_109 rfl (sd_iload_n C (i := 3) dX10_does_110 rfl (sd_iload C dX10_does_111 (sd_cV C ok_X10_moves (ci := 10) (row := (RX10, TX10, 15)) rfl rfl ⟨by decide, by decide, wd_1365, wd_11, by decide +kernel⟩ wd_1362 wd_1364 ws_37 dX10_does_113 (sd_if_eq C dX10_does_116 (tgt := 123) (by decide) (fun _ _ _ h => h) (sd_iconst C (x := nI 1) dX10_does_119 (by decide +kernel) (sd_goto C dX10_does_120 (tgt := 124) (by decide) (fun _ _ _ h => h))))))))))))⟩, (List.forall_mem_cons.mpr ⟨⟨85, 125, (by decide +kernel : ¬ (nI 3 : Int32).toInt < 1), (by decide +kernel : ¬ (9 : Int) < (nI 3 : Int32).toInt), (by decide +kernel : (#[52, 62, 85, 95, 119, 140, 167, 201, 233] : Array Int)[((nI 3 : Int32).toInt - 1).toNat]? = some 85), (by decide), (sd_aload_n C (i := 0) dX10_does_125 rfl (sd_iload_n C (i := 3) dX10_does_126 rfl (sd_iload C dX10_does_127 (sd_iload C dX10_does_129 (sd_cV C ok_X10_changes (ci := 10) (row := (RX10, TX10, 15)) rfl rfl ⟨by decide, by decide, wd_1369, wd_11, by decide +kernel⟩ wd_1366 wd_1368 ws_38 dX10_does_131 (sd_zr C hr dX10_does_134))))))⟩, (List.forall_mem_cons.mpr ⟨⟨95, 135, (by decide +kernel : ¬ (nI 4 : Int32).toInt < 1), (by decide +kernel : ¬ (9 : Int) < (nI 4 : Int32).toInt), (by decide +kernel : (#[52, 62, 85, 95, 119, 140, 167, 201, 233] : Array Int)[((nI 4 : Int32).toInt - 1).toNat]? = some 95), (by decide), (sd_iload C dX10_does_135 (sd_if_ne C dX10_does_137 (tgt := 157) (by decide) (fun _ _ _ h => h) (sd_aload_n C (i := 0) dX10_does_140 rfl (sd_iload_n C (i := 3) dX10_does_141 rfl (sd_iload C dX10_does_142 (sd_bipush C (x := nI 20) dX10_does_144 (by decide +kernel) (sd_isub C dX10_does_146 (sd_cV C ok_X10_blows (ci := 10) (row := (RX10, TX10, 15)) rfl rfl ⟨by decide, by decide, wd_1373, wd_11, by decide +kernel⟩ wd_1370 wd_1372 ws_39 dX10_does_147 (sd_if_eq C dX10_does_150 (tgt := 157) (by decide) (fun _ _ _ h => h) (sd_iconst C (x := nI 1) dX10_does_153 (by decide +kernel) (sd_goto C dX10_does_154 (tgt := 158) (by decide) (fun _ _ _ h => h))))))))))))⟩, (List.forall_mem_cons.mpr ⟨⟨119, 159, (by decide +kernel : ¬ (nI 5 : Int32).toInt < 1), (by decide +kernel : ¬ (9 : Int) < (nI 5 : Int32).toInt), (by decide +kernel : (#[52, 62, 85, 95, 119, 140, 167, 201, 233] : Array Int)[((nI 5 : Int32).toInt - 1).toNat]? = some 119), (by decide), (sd_iload C dX10_does_159 (sd_if_ne C dX10_does_161 (tgt := 178) (by decide) (fun _ _ _ h => h) (sd_aload_n C (i := 0) dX10_does_164 rfl (sd_iload_n C (i := 3) dX10_does_165 rfl (sd_iload C dX10_does_166 (sd_cV C ok_X10_sets (ci := 10) (row := (RX10, TX10, 15)) rfl rfl ⟨by decide, by decide, wd_1377, wd_11, by decide +kernel⟩ wd_1374 wd_1376 ws_40 dX10_does_168 (sd_if_eq C dX10_does_171 (tgt := 178) (by decide) (fun _ _ _ h => h) (sd_iconst C (x := nI 1) dX10_does_174 (by decide +kernel) (sd_goto C dX10_does_175 (tgt := 179) (by decide) (fun _ _ _ h => h))))))))))⟩, (List.forall_mem_cons.mpr ⟨⟨140, 180, (by decide +kernel : ¬ (nI 6 : Int32).toInt < 1), (by decide +kernel : ¬ (9 : Int) < (nI 6 : Int32).toInt), (by decide +kernel : (#[52, 62, 85, 95, 119, 140, 167, 201, 233] : Array Int)[((nI 6 : Int32).toInt - 1).toNat]? = some 140), (by decide), (sd_iload_n C (i := 1) dX10_does_180 rfl (sd_sipush C (x := nI 10000) dX10_does_181 (by decide +kernel) (sd_irem C dX10_does_184 (sd_bipush C (x := nI 100) dX10_does_185 (by decide +kernel) (sd_icmp_ge C dX10_does_187 (tgt := 205) (by decide) (fun _ _ _ h => h) (sd_aload_n C (i := 0) dX10_does_190 rfl (sd_iload_n C (i := 1) dX10_does_191 rfl (sd_bipush C (x := nI 100) dX10_does_192 (by decide +kernel) (sd_irem C dX10_does_194 (sd_cV C ok_X10_runs (ci := 10) (row := (RX10, TX10, 15)) rfl rfl ⟨by decide, by decide, wd_1381, wd_11, by decide +kernel⟩ wd_1378 wd_1380 ws_41 dX10_does_195 (sd_if_eq C dX10_does_198 (tgt := 205) (by decide) (fun _ _ _ h => h) (sd_iconst C (x := nI 1) dX10_does_201 (by decide +kernel) (sd_goto C dX10_does_202 (tgt := 206) (by decide) (fun _ _ _ h => h))))))))))))))⟩, (List.forall_mem_cons.mpr ⟨⟨167, 207, (by decide +kernel : ¬ (nI 7 : Int32).toInt < 1), (by decide +kernel : ¬ (9 : Int) < (nI 7 : Int32).toInt), (by decide +kernel : (#[52, 62, 85, 95, 119, 140, 167, 201, 233] : Array Int)[((nI 7 : Int32).toInt - 1).toNat]? = some 167), (by decide), (sd_iload C dX10_does_207 (sd_if_ne C dX10_does_209 (tgt := 239) (by decide) (fun _ _ _ h => h) (sd_aload_n C (i := 0) dX10_does_212 rfl (sd_iload_n C (i := 3) dX10_does_213 rfl (sd_cV C ok_X10_isThere (ci := 10) (row := (RX10, TX10, 15)) rfl rfl ⟨by decide, by decide, wd_1361, wd_11, by decide +kernel⟩ wd_1358 wd_1360 ws_36 dX10_does_214 (sd_if_eq C dX10_does_217 (tgt := 239) (by decide) (fun _ _ _ h => h) (sd_aload_n C (i := 0) dX10_does_220 rfl (sd_gr C (ci := 10) (k := 8) (r := (RX10, TX10, 15)) rfl (by decide) rfl wd_996 dX10_does_221 (sd_iload_n C (i := 3) dX10_does_224 rfl (sd_iconst C (x := nI 3) dX10_does_225 (by decide +kernel) (sd_cS C ok_X10_stationAt ⟨by decide, by decide, wd_1097, wd_11, by decide +kernel⟩ wd_1095 wd_1096 dX10_does_226 (sd_ia C dX10_does_229 (sd_iload C dX10_does_230 (sd_icmp_lt C dX10_does_232 (tgt := 239) (by decide) (fun _ _ _ h => h) (sd_iconst C (x := nI 1) dX10_does_235 (by decide +kernel) (sd_goto C dX10_does_236 (tgt := 240) (by decide) (fun _ _ _ h => h)))))))))))))))))⟩, (List.forall_mem_cons.mpr ⟨⟨201, 241, (by decide +kernel : ¬ (nI 8 : Int32).toInt < 1), (by decide +kernel : ¬ (9 : Int) < (nI 8 : Int32).toInt), (by decide +kernel : (#[52, 62, 85, 95, 119, 140, 167, 201, 233] : Array Int)[((nI 8 : Int32).toInt - 1).toNat]? = some 201), (by decide), (sd_iload C dX10_does_241 (sd_if_ne C dX10_does_243 (tgt := 271) (by decide) (fun _ _ _ h => h) (sd_aload_n C (i := 0) dX10_does_246 rfl (sd_iload_n C (i := 3) dX10_does_247 rfl (sd_cV C ok_X10_isThere (ci := 10) (row := (RX10, TX10, 15)) rfl rfl ⟨by decide, by decide, wd_1361, wd_11, by decide +kernel⟩ wd_1358 wd_1360 ws_36 dX10_does_248 (sd_if_eq C dX10_does_251 (tgt := 271) (by decide) (fun _ _ _ h => h) (sd_aload_n C (i := 0) dX10_does_254 rfl (sd_gr C (ci := 10) (k := 8) (r := (RX10, TX10, 15)) rfl (by decide) rfl wd_996 dX10_does_255 (sd_iload_n C (i := 3) dX10_does_258 rfl (sd_cS C ok_X10_sondes ⟨by decide, by decide, wd_1194, wd_11, by decide +kernel⟩ wd_1192 wd_1193 dX10_does_259 (sd_iload C dX10_does_262 (sd_icmp_lt C dX10_does_264 (tgt := 271) (by decide) (fun _ _ _ h => h) (sd_iconst C (x := nI 1) dX10_does_267 (by decide +kernel) (sd_goto C dX10_does_268 (tgt := 272) (by decide) (fun _ _ _ h => h)))))))))))))))⟩, (List.forall_mem_cons.mpr ⟨⟨233, 273, (by decide +kernel : ¬ (nI 9 : Int32).toInt < 1), (by decide +kernel : ¬ (9 : Int) < (nI 9 : Int32).toInt), (by decide +kernel : (#[52, 62, 85, 95, 119, 140, 167, 201, 233] : Array Int)[((nI 9 : Int32).toInt - 1).toNat]? = some 233), (by decide), (sd_iload C dX10_does_273 (sd_if_ne C dX10_does_275 (tgt := 297) (by decide) (fun _ _ _ h => h) (sd_iload_n C (i := 3) dX10_does_278 rfl (sd_if_ne C dX10_does_279 (tgt := 297) (by decide) (fun _ _ _ h => h) (sd_aload_n C (i := 0) dX10_does_282 rfl (sd_gr C (ci := 10) (k := 8) (r := (RX10, TX10, 15)) rfl (by decide) rfl wd_996 dX10_does_283 (sd_iconst C (x := nI 5) dX10_does_286 (by decide +kernel) (sd_ia C dX10_does_287 (sd_iload C dX10_does_288 (sd_icmp_gt C dX10_does_290 (tgt := 297) (by decide) (fun _ _ _ h => h) (sd_iconst C (x := nI 1) dX10_does_293 (by decide +kernel) (sd_goto C dX10_does_294 (tgt := 298) (by decide) (fun _ _ _ h => h)))))))))))))⟩, (fun _ h => absurd h List.not_mem_nil)⟩)⟩)⟩)⟩)⟩)⟩)⟩)⟩)⟩) (by decide) (sd_iconst C (x := nI 0) dX10_does_299 (by decide +kernel) (sd_zr C hr dX10_does_300))))))))))))))))))))))))))))))
    (sd_iconst C (x := nI 0) dX10_does_123 (by decide +kernel) (fun _ _ _ h => h))
    (sd_zr C hr dX10_does_124)
    (sd_iconst C (x := nI 0) dX10_does_157 (by decide +kernel) (fun _ _ _ h => h))
    (sd_zr C hr dX10_does_158)
    (sd_iconst C (x := nI 0) dX10_does_178 (by decide +kernel) (fun _ _ _ h => h))
    (sd_zr C hr dX10_does_179)
    (sd_iconst C (x := nI 0) dX10_does_205 (by decide +kernel) (fun _ _ _ h => h))
    (sd_zr C hr dX10_does_206)
    (sd_iconst C (x := nI 0) dX10_does_239 (by decide +kernel) (fun _ _ _ h => h))
    (sd_zr C hr dX10_does_240)
    (sd_iconst C (x := nI 0) dX10_does_271 (by decide +kernel) (fun _ _ _ h => h))
    (sd_zr C hr dX10_does_272)
    (sd_iconst C (x := nI 0) dX10_does_297 (by decide +kernel) (fun _ _ _ h => h))
    (sd_zr C hr dX10_does_298)
theorem dX10_runScript_0 : decode cX10_runScript 0 = .ok (.iload_n 1, 1) := by decide +kernel
theorem dX10_runScript_1 : decode cX10_runScript 1 = .ok (.i2l, 1) := by decide +kernel
theorem dX10_runScript_2 : decode cX10_runScript 2 = .ok (.lconst 1, 1) := by decide +kernel
theorem dX10_runScript_3 : decode cX10_runScript 3 = .ok (.ldc2_w 222, 3) := by decide +kernel
theorem dX10_runScript_6 : decode cX10_runScript 6 = .ok (.invokestatic 62, 3) := by decide +kernel
theorem dX10_runScript_9 : decode cX10_runScript 9 = .ok (.istore 4, 2) := by decide +kernel
theorem dX10_runScript_11 : decode cX10_runScript 11 = .ok (.aload_n 0, 1) := by decide +kernel
theorem dX10_runScript_12 : decode cX10_runScript 12 = .ok (.iload 4, 2) := by decide +kernel
theorem dX10_runScript_14 : decode cX10_runScript 14 = .ok (.ifCond .eq 32, 3) := by decide +kernel
theorem dX10_runScript_17 : decode cX10_runScript 17 = .ok (.lload_n 2, 1) := by decide +kernel
theorem dX10_runScript_18 : decode cX10_runScript 18 = .ok (.lconst 0, 1) := by decide +kernel
theorem dX10_runScript_19 : decode cX10_runScript 19 = .ok (.iload 4, 2) := by decide +kernel
theorem dX10_runScript_21 : decode cX10_runScript 21 = .ok (.ifCond .eq 9, 3) := by decide +kernel
theorem dX10_runScript_24 : decode cX10_runScript 24 = .ok (.iconst 5, 1) := by decide +kernel
theorem dX10_runScript_25 : decode cX10_runScript 25 = .ok (.iload_n 1, 1) := by decide +kernel
theorem dX10_runScript_26 : decode cX10_runScript 26 = .ok (.imul, 1) := by decide +kernel
theorem dX10_runScript_27 : decode cX10_runScript 27 = .ok (.goto 4, 3) := by decide +kernel
theorem dX10_runScript_30 : decode cX10_runScript 30 = .ok (.iconst 0, 1) := by decide +kernel
theorem dX10_runScript_31 : decode cX10_runScript 31 = .ok (.invokestatic 296, 3) := by decide +kernel
theorem dX10_runScript_34 : decode cX10_runScript 34 = .ok (.lconst 1, 1) := by decide +kernel
theorem dX10_runScript_35 : decode cX10_runScript 35 = .ok (.lsub, 1) := by decide +kernel
theorem dX10_runScript_36 : decode cX10_runScript 36 = .ok (.invokestatic 62, 3) := by decide +kernel
theorem dX10_runScript_39 : decode cX10_runScript 39 = .ok (.ifCond .eq 7, 3) := by decide +kernel
theorem dX10_runScript_42 : decode cX10_runScript 42 = .ok (.iconst 0, 1) := by decide +kernel
theorem dX10_runScript_43 : decode cX10_runScript 43 = .ok (.goto 4, 3) := by decide +kernel
theorem dX10_runScript_46 : decode cX10_runScript 46 = .ok (.iconst 1, 1) := by decide +kernel
theorem dX10_runScript_47 : decode cX10_runScript 47 = .ok (.invokevirtual 127, 3) := by decide +kernel
theorem dX10_runScript_50 : decode cX10_runScript 50 = .ok (.ifCond .eq 5, 3) := by decide +kernel
theorem dX10_runScript_53 : decode cX10_runScript 53 = .ok (.iconst 0, 1) := by decide +kernel
theorem dX10_runScript_54 : decode cX10_runScript 54 = .ok (.ireturn, 1) := by decide +kernel
theorem dX10_runScript_55 : decode cX10_runScript 55 = .ok (.aload_n 0, 1) := by decide +kernel
theorem dX10_runScript_56 : decode cX10_runScript 56 = .ok (.invokevirtual 206, 3) := by decide +kernel
theorem dX10_runScript_59 : decode cX10_runScript 59 = .ok (.iconst 0, 1) := by decide +kernel
theorem dX10_runScript_60 : decode cX10_runScript 60 = .ok (.istore 5, 2) := by decide +kernel
theorem dX10_runScript_62 : decode cX10_runScript 62 = .ok (.iload 5, 2) := by decide +kernel
theorem dX10_runScript_64 : decode cX10_runScript 64 = .ok (.iload_n 1, 1) := by decide +kernel
theorem dX10_runScript_65 : decode cX10_runScript 65 = .ok (.if_icmp .ge 37, 3) := by decide +kernel
theorem dX10_runScript_68 : decode cX10_runScript 68 = .ok (.aload_n 0, 1) := by decide +kernel
theorem dX10_runScript_69 : decode cX10_runScript 69 = .ok (.lload_n 2, 1) := by decide +kernel
theorem dX10_runScript_70 : decode cX10_runScript 70 = .ok (.iconst 5, 1) := by decide +kernel
theorem dX10_runScript_71 : decode cX10_runScript 71 = .ok (.iload_n 1, 1) := by decide +kernel
theorem dX10_runScript_72 : decode cX10_runScript 72 = .ok (.iconst 1, 1) := by decide +kernel
theorem dX10_runScript_73 : decode cX10_runScript 73 = .ok (.isub, 1) := by decide +kernel
theorem dX10_runScript_74 : decode cX10_runScript 74 = .ok (.iload 5, 2) := by decide +kernel
theorem dX10_runScript_76 : decode cX10_runScript 76 = .ok (.isub, 1) := by decide +kernel
theorem dX10_runScript_77 : decode cX10_runScript 77 = .ok (.imul, 1) := by decide +kernel
theorem dX10_runScript_78 : decode cX10_runScript 78 = .ok (.invokestatic 296, 3) := by decide +kernel
theorem dX10_runScript_81 : decode cX10_runScript 81 = .ok (.ldiv, 1) := by decide +kernel
theorem dX10_runScript_82 : decode cX10_runScript 82 = .ok (.ldc2_w 300, 3) := by decide +kernel
theorem dX10_runScript_85 : decode cX10_runScript 85 = .ok (.lrem, 1) := by decide +kernel
theorem dX10_runScript_86 : decode cX10_runScript 86 = .ok (.l2i, 1) := by decide +kernel
theorem dX10_runScript_87 : decode cX10_runScript 87 = .ok (.invokevirtual 302, 3) := by decide +kernel
theorem dX10_runScript_90 : decode cX10_runScript 90 = .ok (.ifCond .ne 6, 3) := by decide +kernel
theorem dX10_runScript_93 : decode cX10_runScript 93 = .ok (.iload 5, 2) := by decide +kernel
theorem dX10_runScript_95 : decode cX10_runScript 95 = .ok (.ireturn, 1) := by decide +kernel
theorem dX10_runScript_96 : decode cX10_runScript 96 = .ok (.iinc 5 1, 3) := by decide +kernel
theorem dX10_runScript_99 : decode cX10_runScript 99 = .ok (.goto (-37), 3) := by decide +kernel
theorem dX10_runScript_102 : decode cX10_runScript 102 = .ok (.iconst (-1), 1) := by decide +kernel
theorem dX10_runScript_103 : decode cX10_runScript 103 = .ok (.ireturn, 1) := by decide +kernel
def bX10_runScript_0 (w : ab_W) (s_X10_in : ab_S) (s_X10_tenTo : ab_S) (s_X10_refused : ab_S) (s_X10_tryIt : ab_S) (s_X10_does : ab_S) (M : Nat → ab_P) (Kn : Option Value → ab_H → Prop) : ab_P := ab_ild 1 (ab_i2l (ab_cl (lN 1) (ab_cl (3) (ab_cN w 3 s_X10_in (ab_ist 4 (ab_ald 0 (ab_ild 4 (ab_if1 (fun x => x = 0) (M 46) (ab_lld 2 (ab_cl (lN 0) (ab_ild 4 (ab_if1 (fun x => x = 0) (ab_ci (nI 0) (M 31)) (ab_ci (nI 5) (ab_ild 1 (ab_b2 (fun x y => x * y) (M 31))))))))))))))))
def bX10_runScript_31 (w : ab_W) (s_X10_in : ab_S) (s_X10_tenTo : ab_S) (s_X10_refused : ab_S) (s_X10_tryIt : ab_S) (s_X10_does : ab_S) (M : Nat → ab_P) (Kn : Option Value → ab_H → Prop) : ab_P := ab_cN w 1 s_X10_tenTo (ab_cl (lN 1) (ab_l2 (fun x y => x - y) (ab_cN w 3 s_X10_in (ab_if1 (fun x => x = 0) (M 46) (ab_ci (nI 0) (M 47))))))
def bX10_runScript_46 (w : ab_W) (s_X10_in : ab_S) (s_X10_tenTo : ab_S) (s_X10_refused : ab_S) (s_X10_tryIt : ab_S) (s_X10_does : ab_S) (M : Nat → ab_P) (Kn : Option Value → ab_H → Prop) : ab_P := ab_ci (nI 1) (M 47)
def bX10_runScript_47 (w : ab_W) (s_X10_in : ab_S) (s_X10_tenTo : ab_S) (s_X10_refused : ab_S) (s_X10_tryIt : ab_S) (s_X10_does : ab_S) (M : Nat → ab_P) (Kn : Option Value → ab_H → Prop) : ab_P := ab_cV w 2 10 s_X10_refused (ab_if1 (fun x => x = 0) (ab_ald 0 (ab_cV w 1 10 s_X10_tryIt (ab_ci (nI 0) (ab_ist 5 (M 62))))) (ab_ci (nI 0) (ab_ir Kn)))
def bX10_runScript_62 (w : ab_W) (s_X10_in : ab_S) (s_X10_tenTo : ab_S) (s_X10_refused : ab_S) (s_X10_tryIt : ab_S) (s_X10_does : ab_S) (M : Nat → ab_P) (Kn : Option Value → ab_H → Prop) : ab_P := ab_ild 5 (ab_ild 1 (ab_if2 (fun x y => y ≤ x) (ab_ci (-1) (ab_ir Kn)) (ab_ald 0 (ab_lld 2 (ab_ci (nI 5) (ab_ild 1 (ab_ci (nI 1) (ab_b2 (fun x y => x - y) (ab_ild 5 (ab_b2 (fun x y => x - y) (ab_b2 (fun x y => x * y) (ab_cN w 1 s_X10_tenTo (ab_ld2 (fun x y => x / y) (ab_cl (100000) (ab_ld2 (fun x y => x - x / y * y) (ab_l2i (ab_cV w 2 10 s_X10_does (ab_if1 (fun x => ¬ x = 0) (ab_inc 5 (nI 1) (M 62)) (ab_ild 5 (ab_ir Kn))))))))))))))))))))
set_option maxRecDepth 20000 in
set_option maxHeartbeats 2000000 in
theorem vc_X10_runScript {l : Launch} (hl : l.stackTraces = false) {w : ab_W} (hI : ab_Inj w) {mc : Nat} {σ : ab_H} {As : List Value} {Kn : Option Value → ab_H → Prop} {Kx : String → ab_H → Prop} {s_X10_in : ab_S} (ok_X10_in : ab_OkN l yX10_in (Cond.code yX10_in cX10_in 6 (some .boolean)) 1 s_X10_in) {s_X10_tenTo : ab_S} (ok_X10_tenTo : ab_OkN l yX10_tenTo (Cond.code yX10_tenTo cX10_tenTo 4 (some .long)) 1 s_X10_tenTo) {s_X10_refused : ab_S} (ok_X10_refused : ab_OkN l yX10_refused (Cond.code yX10_refused cX10_refused 2 (some .boolean)) 1 s_X10_refused) {s_X10_tryIt : ab_S} (ok_X10_tryIt : ab_OkN l yX10_tryIt (Cond.code yX10_tryIt cX10_tryIt 1 none) 2 s_X10_tryIt) {s_X10_does : ab_S} (ok_X10_does : ab_OkN l yX10_does (Cond.code yX10_does cX10_does 7 (some .boolean)) 7 s_X10_does) (hlen : (ab_xl As).length ≤ 6) (h : ∀ M : Nat → ab_P, (∀ L st σ, bX10_runScript_0 w s_X10_in s_X10_tenTo s_X10_refused s_X10_tryIt s_X10_does M Kn L st σ → M 0 L st σ) → (∀ L st σ, bX10_runScript_31 w s_X10_in s_X10_tenTo s_X10_refused s_X10_tryIt s_X10_does M Kn L st σ → M 31 L st σ) → (∀ L st σ, bX10_runScript_46 w s_X10_in s_X10_tenTo s_X10_refused s_X10_tryIt s_X10_does M Kn L st σ → M 46 L st σ) → (∀ L st σ, bX10_runScript_47 w s_X10_in s_X10_tenTo s_X10_refused s_X10_tryIt s_X10_does M Kn L st σ → M 47 L st σ) → (∀ L st σ, bX10_runScript_62 w s_X10_in s_X10_tenTo s_X10_refused s_X10_tryIt s_X10_does M Kn L st σ → M 62 L st σ) → M 0 (ab_pd 6 (ab_xl As)) [] σ) : ab_Met l yX10_runScript (Cond.code yX10_runScript cX10_runScript 6 (some .int)) 8 mc w σ As Kn Kx := by
  refine ab_enter (by decide) hl hI hlen (by decide) ?_
  intro p e R s m args below meth c C hno hr
  exact h _ (sd_iload_n C (i := 1) dX10_runScript_0 rfl (sd_i2l C dX10_runScript_1 (sd_lconst C (x := lN 1) dX10_runScript_2 (by decide +kernel) (sd_ldc2 C (x := 3) dX10_runScript_3 wd_1237 (sd_cS C ok_X10_in ⟨by decide, by decide, wd_1046, wd_11, by decide +kernel⟩ wd_1044 wd_1045 dX10_runScript_6 (sd_istore C dX10_runScript_9 (by decide) (sd_aload_n C (i := 0) dX10_runScript_11 rfl (sd_iload C dX10_runScript_12 (sd_if_eq C dX10_runScript_14 (tgt := 46) (by decide) (fun _ _ _ h => h) (sd_lload_n C (i := 2) dX10_runScript_17 rfl (sd_lconst C (x := lN 0) dX10_runScript_18 (by decide +kernel) (sd_iload C dX10_runScript_19 (sd_if_eq C dX10_runScript_21 (tgt := 30) (by decide) (sd_iconst C (x := nI 0) dX10_runScript_30 (by decide +kernel) (fun _ _ _ h => h)) (sd_iconst C (x := nI 5) dX10_runScript_24 (by decide +kernel) (sd_iload_n C (i := 1) dX10_runScript_25 rfl (sd_imul C dX10_runScript_26 (sd_goto C dX10_runScript_27 (tgt := 31) (by decide) (fun _ _ _ h => h))))))))))))))))))
    (sd_cS C ok_X10_tenTo ⟨by decide, by decide, wd_1347, wd_11, by decide +kernel⟩ wd_1345 wd_1346 dX10_runScript_31 (sd_lconst C (x := lN 1) dX10_runScript_34 (by decide +kernel) (sd_lsub C dX10_runScript_35 (sd_cS C ok_X10_in ⟨by decide, by decide, wd_1046, wd_11, by decide +kernel⟩ wd_1044 wd_1045 dX10_runScript_36 (sd_if_eq C dX10_runScript_39 (tgt := 46) (by decide) (fun _ _ _ h => h) (sd_iconst C (x := nI 0) dX10_runScript_42 (by decide +kernel) (sd_goto C dX10_runScript_43 (tgt := 47) (by decide) (fun _ _ _ h => h))))))))
    (sd_iconst C (x := nI 1) dX10_runScript_46 (by decide +kernel) (fun _ _ _ h => h))
    (sd_cV C ok_X10_refused (ci := 10) (row := (RX10, TX10, 15)) rfl rfl ⟨by decide, by decide, wd_1050, wd_11, by decide +kernel⟩ wd_1047 wd_1049 ws_15 dX10_runScript_47 (sd_if_eq C dX10_runScript_50 (tgt := 55) (by decide) (sd_aload_n C (i := 0) dX10_runScript_55 rfl (sd_cV C ok_X10_tryIt (ci := 10) (row := (RX10, TX10, 15)) rfl rfl ⟨by decide, by decide, wd_1211, wd_11, by decide +kernel⟩ wd_1208 wd_1210 ws_32 dX10_runScript_56 (sd_iconst C (x := nI 0) dX10_runScript_59 (by decide +kernel) (sd_istore C dX10_runScript_60 (by decide) (fun _ _ _ h => h))))) (sd_iconst C (x := nI 0) dX10_runScript_53 (by decide +kernel) (sd_ir C hr dX10_runScript_54))))
    (sd_iload C dX10_runScript_62 (sd_iload_n C (i := 1) dX10_runScript_64 rfl (sd_icmp_ge C dX10_runScript_65 (tgt := 102) (by decide) (sd_iconst C (x := -1) dX10_runScript_102 (by decide +kernel) (sd_ir C hr dX10_runScript_103)) (sd_aload_n C (i := 0) dX10_runScript_68 rfl (sd_lload_n C (i := 2) dX10_runScript_69 rfl (sd_iconst C (x := nI 5) dX10_runScript_70 (by decide +kernel) (sd_iload_n C (i := 1) dX10_runScript_71 rfl (sd_iconst C (x := nI 1) dX10_runScript_72 (by decide +kernel) (sd_isub C dX10_runScript_73 (sd_iload C dX10_runScript_74 (sd_isub C dX10_runScript_76 (sd_imul C dX10_runScript_77 (sd_cS C ok_X10_tenTo ⟨by decide, by decide, wd_1347, wd_11, by decide +kernel⟩ wd_1345 wd_1346 dX10_runScript_78 (sd_ldiv C dX10_runScript_81 (sd_ldc2 C (x := 100000) dX10_runScript_82 wd_1349 (sd_lrem C dX10_runScript_85 (sd_l2i C dX10_runScript_86 (sd_cV C ok_X10_does (ci := 10) (row := (RX10, TX10, 15)) rfl rfl ⟨by decide, by decide, wd_1353, wd_11, by decide +kernel⟩ wd_1350 wd_1352 ws_34 dX10_runScript_87 (sd_if_ne C dX10_runScript_90 (tgt := 96) (by decide) (sd_iinc C (x := nI 1) dX10_runScript_96 (by decide +kernel) (by decide) (sd_goto C dX10_runScript_99 (tgt := 62) (by decide) (fun _ _ _ h => h))) (sd_iload C dX10_runScript_93 (sd_ir C hr dX10_runScript_95)))))))))))))))))))))
theorem dX10_stir_0 : decode cX10_stir 0 = .ok (.iload_n 1, 1) := by decide +kernel
theorem dX10_stir_1 : decode cX10_stir 1 = .ok (.bipush 8, 2) := by decide +kernel
theorem dX10_stir_3 : decode cX10_stir 3 = .ok (.idiv, 1) := by decide +kernel
theorem dX10_stir_4 : decode cX10_stir 4 = .ok (.iconst 5, 1) := by decide +kernel
theorem dX10_stir_5 : decode cX10_stir 5 = .ok (.irem, 1) := by decide +kernel
theorem dX10_stir_6 : decode cX10_stir 6 = .ok (.istore_n 2, 1) := by decide +kernel
theorem dX10_stir_7 : decode cX10_stir 7 = .ok (.iload_n 1, 1) := by decide +kernel
theorem dX10_stir_8 : decode cX10_stir 8 = .ok (.bipush 8, 2) := by decide +kernel
theorem dX10_stir_10 : decode cX10_stir 10 = .ok (.irem, 1) := by decide +kernel
theorem dX10_stir_11 : decode cX10_stir 11 = .ok (.istore_n 3, 1) := by decide +kernel
theorem dX10_stir_12 : decode cX10_stir 12 = .ok (.iload_n 3, 1) := by decide +kernel
theorem dX10_stir_13 : decode cX10_stir 13 = .ok (.ifCond .ne 26, 3) := by decide +kernel
theorem dX10_stir_16 : decode cX10_stir 16 = .ok (.aload_n 0, 1) := by decide +kernel
theorem dX10_stir_17 : decode cX10_stir 17 = .ok (.iload_n 2, 1) := by decide +kernel
theorem dX10_stir_18 : decode cX10_stir 18 = .ok (.iload_n 1, 1) := by decide +kernel
theorem dX10_stir_19 : decode cX10_stir 19 = .ok (.bipush 64, 2) := by decide +kernel
theorem dX10_stir_21 : decode cX10_stir 21 = .ok (.idiv, 1) := by decide +kernel
theorem dX10_stir_22 : decode cX10_stir 22 = .ok (.bipush 40, 2) := by decide +kernel
theorem dX10_stir_24 : decode cX10_stir 24 = .ok (.irem, 1) := by decide +kernel
theorem dX10_stir_25 : decode cX10_stir 25 = .ok (.iload_n 1, 1) := by decide +kernel
theorem dX10_stir_26 : decode cX10_stir 26 = .ok (.sipush 4096, 3) := by decide +kernel
theorem dX10_stir_29 : decode cX10_stir 29 = .ok (.idiv, 1) := by decide +kernel
theorem dX10_stir_30 : decode cX10_stir 30 = .ok (.iconst 5, 1) := by decide +kernel
theorem dX10_stir_31 : decode cX10_stir 31 = .ok (.irem, 1) := by decide +kernel
theorem dX10_stir_32 : decode cX10_stir 32 = .ok (.invokevirtual 277, 3) := by decide +kernel
theorem dX10_stir_35 : decode cX10_stir 35 = .ok (.pop, 1) := by decide +kernel
theorem dX10_stir_36 : decode cX10_stir 36 = .ok (.goto 99, 3) := by decide +kernel
theorem dX10_stir_39 : decode cX10_stir 39 = .ok (.iload_n 3, 1) := by decide +kernel
theorem dX10_stir_40 : decode cX10_stir 40 = .ok (.iconst 1, 1) := by decide +kernel
theorem dX10_stir_41 : decode cX10_stir 41 = .ok (.if_icmp .ne 18, 3) := by decide +kernel
theorem dX10_stir_44 : decode cX10_stir 44 = .ok (.aload_n 0, 1) := by decide +kernel
theorem dX10_stir_45 : decode cX10_stir 45 = .ok (.iload_n 2, 1) := by decide +kernel
theorem dX10_stir_46 : decode cX10_stir 46 = .ok (.iload_n 1, 1) := by decide +kernel
theorem dX10_stir_47 : decode cX10_stir 47 = .ok (.bipush 64, 2) := by decide +kernel
theorem dX10_stir_49 : decode cX10_stir 49 = .ok (.idiv, 1) := by decide +kernel
theorem dX10_stir_50 : decode cX10_stir 50 = .ok (.iconst 5, 1) := by decide +kernel
theorem dX10_stir_51 : decode cX10_stir 51 = .ok (.irem, 1) := by decide +kernel
theorem dX10_stir_52 : decode cX10_stir 52 = .ok (.invokevirtual 281, 3) := by decide +kernel
theorem dX10_stir_55 : decode cX10_stir 55 = .ok (.pop, 1) := by decide +kernel
theorem dX10_stir_56 : decode cX10_stir 56 = .ok (.goto 79, 3) := by decide +kernel
theorem dX10_stir_59 : decode cX10_stir 59 = .ok (.iload_n 3, 1) := by decide +kernel
theorem dX10_stir_60 : decode cX10_stir 60 = .ok (.iconst 2, 1) := by decide +kernel
theorem dX10_stir_61 : decode cX10_stir 61 = .ok (.if_icmp .ne 27, 3) := by decide +kernel
theorem dX10_stir_64 : decode cX10_stir 64 = .ok (.aload_n 0, 1) := by decide +kernel
theorem dX10_stir_65 : decode cX10_stir 65 = .ok (.iload_n 1, 1) := by decide +kernel
theorem dX10_stir_66 : decode cX10_stir 66 = .ok (.bipush 8, 2) := by decide +kernel
theorem dX10_stir_68 : decode cX10_stir 68 = .ok (.idiv, 1) := by decide +kernel
theorem dX10_stir_69 : decode cX10_stir 69 = .ok (.iconst 4, 1) := by decide +kernel
theorem dX10_stir_70 : decode cX10_stir 70 = .ok (.irem, 1) := by decide +kernel
theorem dX10_stir_71 : decode cX10_stir 71 = .ok (.iload_n 1, 1) := by decide +kernel
theorem dX10_stir_72 : decode cX10_stir 72 = .ok (.bipush 64, 2) := by decide +kernel
theorem dX10_stir_74 : decode cX10_stir 74 = .ok (.idiv, 1) := by decide +kernel
theorem dX10_stir_75 : decode cX10_stir 75 = .ok (.bipush 41, 2) := by decide +kernel
theorem dX10_stir_77 : decode cX10_stir 77 = .ok (.irem, 1) := by decide +kernel
theorem dX10_stir_78 : decode cX10_stir 78 = .ok (.bipush 20, 2) := by decide +kernel
theorem dX10_stir_80 : decode cX10_stir 80 = .ok (.isub, 1) := by decide +kernel
theorem dX10_stir_81 : decode cX10_stir 81 = .ok (.invokevirtual 287, 3) := by decide +kernel
theorem dX10_stir_84 : decode cX10_stir 84 = .ok (.pop, 1) := by decide +kernel
theorem dX10_stir_85 : decode cX10_stir 85 = .ok (.goto 50, 3) := by decide +kernel
theorem dX10_stir_88 : decode cX10_stir 88 = .ok (.iload_n 3, 1) := by decide +kernel
theorem dX10_stir_89 : decode cX10_stir 89 = .ok (.iconst 3, 1) := by decide +kernel
theorem dX10_stir_90 : decode cX10_stir 90 = .ok (.if_icmp .ne 28, 3) := by decide +kernel
theorem dX10_stir_93 : decode cX10_stir 93 = .ok (.aload_n 0, 1) := by decide +kernel
theorem dX10_stir_94 : decode cX10_stir 94 = .ok (.iload_n 2, 1) := by decide +kernel
theorem dX10_stir_95 : decode cX10_stir 95 = .ok (.iload_n 1, 1) := by decide +kernel
theorem dX10_stir_96 : decode cX10_stir 96 = .ok (.bipush 64, 2) := by decide +kernel
theorem dX10_stir_98 : decode cX10_stir 98 = .ok (.idiv, 1) := by decide +kernel
theorem dX10_stir_99 : decode cX10_stir 99 = .ok (.bipush 16, 2) := by decide +kernel
theorem dX10_stir_101 : decode cX10_stir 101 = .ok (.irem, 1) := by decide +kernel
theorem dX10_stir_102 : decode cX10_stir 102 = .ok (.iconst 1, 1) := by decide +kernel
theorem dX10_stir_103 : decode cX10_stir 103 = .ok (.iload_n 1, 1) := by decide +kernel
theorem dX10_stir_104 : decode cX10_stir 104 = .ok (.sipush 1024, 3) := by decide +kernel
theorem dX10_stir_107 : decode cX10_stir 107 = .ok (.idiv, 1) := by decide +kernel
theorem dX10_stir_108 : decode cX10_stir 108 = .ok (.iconst 5, 1) := by decide +kernel
theorem dX10_stir_109 : decode cX10_stir 109 = .ok (.irem, 1) := by decide +kernel
theorem dX10_stir_110 : decode cX10_stir 110 = .ok (.iadd, 1) := by decide +kernel
theorem dX10_stir_111 : decode cX10_stir 111 = .ok (.invokevirtual 284, 3) := by decide +kernel
theorem dX10_stir_114 : decode cX10_stir 114 = .ok (.pop, 1) := by decide +kernel
theorem dX10_stir_115 : decode cX10_stir 115 = .ok (.goto 20, 3) := by decide +kernel
theorem dX10_stir_118 : decode cX10_stir 118 = .ok (.aload_n 0, 1) := by decide +kernel
theorem dX10_stir_119 : decode cX10_stir 119 = .ok (.aload_n 0, 1) := by decide +kernel
theorem dX10_stir_120 : decode cX10_stir 120 = .ok (.getfield 19, 3) := by decide +kernel
theorem dX10_stir_123 : decode cX10_stir 123 = .ok (.iconst 1, 1) := by decide +kernel
theorem dX10_stir_124 : decode cX10_stir 124 = .ok (.iload_n 1, 1) := by decide +kernel
theorem dX10_stir_125 : decode cX10_stir 125 = .ok (.bipush 8, 2) := by decide +kernel
theorem dX10_stir_127 : decode cX10_stir 127 = .ok (.idiv, 1) := by decide +kernel
theorem dX10_stir_128 : decode cX10_stir 128 = .ok (.iconst 4, 1) := by decide +kernel
theorem dX10_stir_129 : decode cX10_stir 129 = .ok (.irem, 1) := by decide +kernel
theorem dX10_stir_130 : decode cX10_stir 130 = .ok (.iadd, 1) := by decide +kernel
theorem dX10_stir_131 : decode cX10_stir 131 = .ok (.invokevirtual 175, 3) := by decide +kernel
theorem dX10_stir_134 : decode cX10_stir 134 = .ok (.pop, 1) := by decide +kernel
theorem dX10_stir_135 : decode cX10_stir 135 = .ok (.return_, 1) := by decide +kernel
def bX10_stir_0 (w : ab_W) (s_X10_runIn : ab_S) (s_X10_changes : ab_S) (s_X10_blows : ab_S) (s_X10_moves : ab_S) (s_X10_delivers : ab_S) (M : Nat → ab_P) (Kn : Option Value → ab_H → Prop) : ab_P := ab_ild 1 (ab_ci (nI 8) (ab_d2 (fun x y => x / y) (ab_ci (nI 5) (ab_d2 (fun x y => x - x / y * y) (ab_ist 2 (ab_ild 1 (ab_ci (nI 8) (ab_d2 (fun x y => x - x / y * y) (ab_ist 3 (ab_ild 3 (ab_if1 (fun x => ¬ x = 0) (ab_ild 3 (ab_ci (nI 1) (ab_if2 (fun x y => ¬ x = y) (ab_ild 3 (ab_ci (nI 2) (ab_if2 (fun x y => ¬ x = y) (ab_ild 3 (ab_ci (nI 3) (ab_if2 (fun x y => ¬ x = y) (ab_ald 0 (ab_ald 0 (ab_gr w 10 4 (ab_ci (nI 1) (ab_ild 1 (ab_ci (nI 8) (ab_d2 (fun x y => x / y) (ab_ci (nI 4) (ab_d2 (fun x y => x - x / y * y) (ab_b2 (fun x y => x + y) (ab_cV w 3 10 s_X10_runIn (ab_pop (M 135))))))))))))) (ab_ald 0 (ab_ild 2 (ab_ild 1 (ab_ci (nI 64) (ab_d2 (fun x y => x / y) (ab_ci (nI 16) (ab_d2 (fun x y => x - x / y * y) (ab_ci (nI 1) (ab_ild 1 (ab_ci (nI 1024) (ab_d2 (fun x y => x / y) (ab_ci (nI 5) (ab_d2 (fun x y => x - x / y * y) (ab_b2 (fun x y => x + y) (ab_cV w 4 10 s_X10_changes (ab_pop (M 135)))))))))))))))))))) (ab_ald 0 (ab_ild 1 (ab_ci (nI 8) (ab_d2 (fun x y => x / y) (ab_ci (nI 4) (ab_d2 (fun x y => x - x / y * y) (ab_ild 1 (ab_ci (nI 64) (ab_d2 (fun x y => x / y) (ab_ci (nI 41) (ab_d2 (fun x y => x - x / y * y) (ab_ci (nI 20) (ab_b2 (fun x y => x - y) (ab_cV w 3 10 s_X10_blows (ab_pop (M 135))))))))))))))))))) (ab_ald 0 (ab_ild 2 (ab_ild 1 (ab_ci (nI 64) (ab_d2 (fun x y => x / y) (ab_ci (nI 5) (ab_d2 (fun x y => x - x / y * y) (ab_cV w 3 10 s_X10_moves (ab_pop (M 135))))))))))))) (ab_ald 0 (ab_ild 2 (ab_ild 1 (ab_ci (nI 64) (ab_d2 (fun x y => x / y) (ab_ci (nI 40) (ab_d2 (fun x y => x - x / y * y) (ab_ild 1 (ab_ci (nI 4096) (ab_d2 (fun x y => x / y) (ab_ci (nI 5) (ab_d2 (fun x y => x - x / y * y) (ab_cV w 4 10 s_X10_delivers (ab_pop (M 135))))))))))))))))))))))))))
def bX10_stir_135 (w : ab_W) (s_X10_runIn : ab_S) (s_X10_changes : ab_S) (s_X10_blows : ab_S) (s_X10_moves : ab_S) (s_X10_delivers : ab_S) (M : Nat → ab_P) (Kn : Option Value → ab_H → Prop) : ab_P := ab_vr Kn
set_option maxRecDepth 20000 in
set_option maxHeartbeats 2000000 in
theorem vc_X10_stir {l : Launch} (hl : l.stackTraces = false) {w : ab_W} (hI : ab_Inj w) {mc : Nat} {σ : ab_H} {As : List Value} {Kn : Option Value → ab_H → Prop} {Kx : String → ab_H → Prop} {s_X10_runIn : ab_S} (ok_X10_runIn : ab_OkN l yX10_runIn (Cond.code yX10_runIn cX10_runIn 5 (some .int)) 5 s_X10_runIn) {s_X10_changes : ab_S} (ok_X10_changes : ab_OkN l yX10_changes (Cond.code yX10_changes cX10_changes 4 (some .boolean)) 3 s_X10_changes) {s_X10_blows : ab_S} (ok_X10_blows : ab_OkN l yX10_blows (Cond.code yX10_blows cX10_blows 3 (some .boolean)) 3 s_X10_blows) {s_X10_moves : ab_S} (ok_X10_moves : ab_OkN l yX10_moves (Cond.code yX10_moves cX10_moves 3 (some .boolean)) 4 s_X10_moves) {s_X10_delivers : ab_S} (ok_X10_delivers : ab_OkN l yX10_delivers (Cond.code yX10_delivers cX10_delivers 4 (some .boolean)) 3 s_X10_delivers) (hlen : (ab_xl As).length ≤ 4) (h : ∀ M : Nat → ab_P, (∀ L st σ, bX10_stir_0 w s_X10_runIn s_X10_changes s_X10_blows s_X10_moves s_X10_delivers M Kn L st σ → M 0 L st σ) → (∀ L st σ, bX10_stir_135 w s_X10_runIn s_X10_changes s_X10_blows s_X10_moves s_X10_delivers M Kn L st σ → M 135 L st σ) → M 0 (ab_pd 4 (ab_xl As)) [] σ) : ab_Met l yX10_stir (Cond.code yX10_stir cX10_stir 4 none) 6 mc w σ As Kn Kx := by
  refine ab_enter (by decide) hl hI hlen (by decide) ?_
  intro p e R s m args below meth c C hno hr
  exact h _ (sd_iload_n C (i := 1) dX10_stir_0 rfl (sd_bipush C (x := nI 8) dX10_stir_1 (by decide +kernel) (sd_idiv C dX10_stir_3 (sd_iconst C (x := nI 5) dX10_stir_4 (by decide +kernel) (sd_irem C dX10_stir_5 (sd_istore_n C (i := 2) dX10_stir_6 rfl (by decide) (sd_iload_n C (i := 1) dX10_stir_7 rfl (sd_bipush C (x := nI 8) dX10_stir_8 (by decide +kernel) (sd_irem C dX10_stir_10 (sd_istore_n C (i := 3) dX10_stir_11 rfl (by decide) (sd_iload_n C (i := 3) dX10_stir_12 rfl (sd_if_ne C dX10_stir_13 (tgt := 39) (by decide) (sd_iload_n C (i := 3) dX10_stir_39 rfl (sd_iconst C (x := nI 1) dX10_stir_40 (by decide +kernel) (sd_icmp_ne C dX10_stir_41 (tgt := 59) (by decide) (sd_iload_n C (i := 3) dX10_stir_59 rfl (sd_iconst C (x := nI 2) dX10_stir_60 (by decide +kernel) (sd_icmp_ne C dX10_stir_61 (tgt := 88) (by decide) (sd_iload_n C (i := 3) dX10_stir_88 rfl (sd_iconst C (x := nI 3) dX10_stir_89 (by decide +kernel) (sd_icmp_ne C dX10_stir_90 (tgt := 118) (by decide) (sd_aload_n C (i := 0) dX10_stir_118 rfl (sd_aload_n C (i := 0) dX10_stir_119 rfl (sd_gr C (ci := 10) (k := 8) (r := (RX10, TX10, 15)) rfl (by decide) rfl wd_996 dX10_stir_120 (sd_iconst C (x := nI 1) dX10_stir_123 (by decide +kernel) (sd_iload_n C (i := 1) dX10_stir_124 rfl (sd_bipush C (x := nI 8) dX10_stir_125 (by decide +kernel) (sd_idiv C dX10_stir_127 (sd_iconst C (x := nI 4) dX10_stir_128 (by decide +kernel) (sd_irem C dX10_stir_129 (sd_iadd C dX10_stir_130 (sd_cV C ok_X10_runIn (ci := 10) (row := (RX10, TX10, 15)) rfl rfl ⟨by decide, by decide, wd_1132, wd_11, by decide +kernel⟩ wd_1129 wd_1131 ws_28 dX10_stir_131 (sd_pop C dX10_stir_134 (fun _ _ _ h => h))))))))))))) (sd_aload_n C (i := 0) dX10_stir_93 rfl (sd_iload_n C (i := 2) dX10_stir_94 rfl (sd_iload_n C (i := 1) dX10_stir_95 rfl (sd_bipush C (x := nI 64) dX10_stir_96 (by decide +kernel) (sd_idiv C dX10_stir_98 (sd_bipush C (x := nI 16) dX10_stir_99 (by decide +kernel) (sd_irem C dX10_stir_101 (sd_iconst C (x := nI 1) dX10_stir_102 (by decide +kernel) (sd_iload_n C (i := 1) dX10_stir_103 rfl (sd_sipush C (x := nI 1024) dX10_stir_104 (by decide +kernel) (sd_idiv C dX10_stir_107 (sd_iconst C (x := nI 5) dX10_stir_108 (by decide +kernel) (sd_irem C dX10_stir_109 (sd_iadd C dX10_stir_110 (sd_cV C ok_X10_changes (ci := 10) (row := (RX10, TX10, 15)) rfl rfl ⟨by decide, by decide, wd_1369, wd_11, by decide +kernel⟩ wd_1366 wd_1368 ws_38 dX10_stir_111 (sd_pop C dX10_stir_114 (sd_goto C dX10_stir_115 (tgt := 135) (by decide) (fun _ _ _ h => h))))))))))))))))))))) (sd_aload_n C (i := 0) dX10_stir_64 rfl (sd_iload_n C (i := 1) dX10_stir_65 rfl (sd_bipush C (x := nI 8) dX10_stir_66 (by decide +kernel) (sd_idiv C dX10_stir_68 (sd_iconst C (x := nI 4) dX10_stir_69 (by decide +kernel) (sd_irem C dX10_stir_70 (sd_iload_n C (i := 1) dX10_stir_71 rfl (sd_bipush C (x := nI 64) dX10_stir_72 (by decide +kernel) (sd_idiv C dX10_stir_74 (sd_bipush C (x := nI 41) dX10_stir_75 (by decide +kernel) (sd_irem C dX10_stir_77 (sd_bipush C (x := nI 20) dX10_stir_78 (by decide +kernel) (sd_isub C dX10_stir_80 (sd_cV C ok_X10_blows (ci := 10) (row := (RX10, TX10, 15)) rfl rfl ⟨by decide, by decide, wd_1373, wd_11, by decide +kernel⟩ wd_1370 wd_1372 ws_39 dX10_stir_81 (sd_pop C dX10_stir_84 (sd_goto C dX10_stir_85 (tgt := 135) (by decide) (fun _ _ _ h => h)))))))))))))))))))) (sd_aload_n C (i := 0) dX10_stir_44 rfl (sd_iload_n C (i := 2) dX10_stir_45 rfl (sd_iload_n C (i := 1) dX10_stir_46 rfl (sd_bipush C (x := nI 64) dX10_stir_47 (by decide +kernel) (sd_idiv C dX10_stir_49 (sd_iconst C (x := nI 5) dX10_stir_50 (by decide +kernel) (sd_irem C dX10_stir_51 (sd_cV C ok_X10_moves (ci := 10) (row := (RX10, TX10, 15)) rfl rfl ⟨by decide, by decide, wd_1365, wd_11, by decide +kernel⟩ wd_1362 wd_1364 ws_37 dX10_stir_52 (sd_pop C dX10_stir_55 (sd_goto C dX10_stir_56 (tgt := 135) (by decide) (fun _ _ _ h => h)))))))))))))) (sd_aload_n C (i := 0) dX10_stir_16 rfl (sd_iload_n C (i := 2) dX10_stir_17 rfl (sd_iload_n C (i := 1) dX10_stir_18 rfl (sd_bipush C (x := nI 64) dX10_stir_19 (by decide +kernel) (sd_idiv C dX10_stir_21 (sd_bipush C (x := nI 40) dX10_stir_22 (by decide +kernel) (sd_irem C dX10_stir_24 (sd_iload_n C (i := 1) dX10_stir_25 rfl (sd_sipush C (x := nI 4096) dX10_stir_26 (by decide +kernel) (sd_idiv C dX10_stir_29 (sd_iconst C (x := nI 5) dX10_stir_30 (by decide +kernel) (sd_irem C dX10_stir_31 (sd_cV C ok_X10_delivers (ci := 10) (row := (RX10, TX10, 15)) rfl rfl ⟨by decide, by decide, wd_1357, wd_11, by decide +kernel⟩ wd_1354 wd_1356 ws_35 dX10_stir_32 (sd_pop C dX10_stir_35 (sd_goto C dX10_stir_36 (tgt := 135) (by decide) (fun _ _ _ h => h))))))))))))))))))))))))))))
    (sd_vr C hr dX10_stir_135)
theorem dX10_simulate_0 : decode cX10_simulate 0 = .ok (.aload_n 0, 1) := by decide +kernel
theorem dX10_simulate_1 : decode cX10_simulate 1 = .ok (.iload_n 3, 1) := by decide +kernel
theorem dX10_simulate_2 : decode cX10_simulate 2 = .ok (.i2l, 1) := by decide +kernel
theorem dX10_simulate_3 : decode cX10_simulate 3 = .ok (.lconst 1, 1) := by decide +kernel
theorem dX10_simulate_4 : decode cX10_simulate 4 = .ok (.ldc2_w 261, 3) := by decide +kernel
theorem dX10_simulate_7 : decode cX10_simulate 7 = .ok (.invokestatic 62, 3) := by decide +kernel
theorem dX10_simulate_10 : decode cX10_simulate 10 = .ok (.ifCond .eq 7, 3) := by decide +kernel
theorem dX10_simulate_13 : decode cX10_simulate 13 = .ok (.iconst 0, 1) := by decide +kernel
theorem dX10_simulate_14 : decode cX10_simulate 14 = .ok (.goto 4, 3) := by decide +kernel
theorem dX10_simulate_17 : decode cX10_simulate 17 = .ok (.iconst 1, 1) := by decide +kernel
theorem dX10_simulate_18 : decode cX10_simulate 18 = .ok (.invokevirtual 127, 3) := by decide +kernel
theorem dX10_simulate_21 : decode cX10_simulate 21 = .ok (.ifCond .eq 5, 3) := by decide +kernel
theorem dX10_simulate_24 : decode cX10_simulate 24 = .ok (.iconst 0, 1) := by decide +kernel
theorem dX10_simulate_25 : decode cX10_simulate 25 = .ok (.ireturn, 1) := by decide +kernel
theorem dX10_simulate_26 : decode cX10_simulate 26 = .ok (.aload_n 0, 1) := by decide +kernel
theorem dX10_simulate_27 : decode cX10_simulate 27 = .ok (.invokevirtual 206, 3) := by decide +kernel
theorem dX10_simulate_30 : decode cX10_simulate 30 = .ok (.lload_n 1, 1) := by decide +kernel
theorem dX10_simulate_31 : decode cX10_simulate 31 = .ok (.lstore 4, 2) := by decide +kernel
theorem dX10_simulate_33 : decode cX10_simulate 33 = .ok (.iconst 0, 1) := by decide +kernel
theorem dX10_simulate_34 : decode cX10_simulate 34 = .ok (.istore 6, 2) := by decide +kernel
theorem dX10_simulate_36 : decode cX10_simulate 36 = .ok (.iload 6, 2) := by decide +kernel
theorem dX10_simulate_38 : decode cX10_simulate 38 = .ok (.iload_n 3, 1) := by decide +kernel
theorem dX10_simulate_39 : decode cX10_simulate 39 = .ok (.if_icmp .ge 31, 3) := by decide +kernel
theorem dX10_simulate_42 : decode cX10_simulate 42 = .ok (.lload 4, 2) := by decide +kernel
theorem dX10_simulate_44 : decode cX10_simulate 44 = .ok (.ldc2_w 305, 3) := by decide +kernel
theorem dX10_simulate_47 : decode cX10_simulate 47 = .ok (.lmul, 1) := by decide +kernel
theorem dX10_simulate_48 : decode cX10_simulate 48 = .ok (.ldc2_w 307, 3) := by decide +kernel
theorem dX10_simulate_51 : decode cX10_simulate 51 = .ok (.ladd, 1) := by decide +kernel
theorem dX10_simulate_52 : decode cX10_simulate 52 = .ok (.lstore 4, 2) := by decide +kernel
theorem dX10_simulate_54 : decode cX10_simulate 54 = .ok (.aload_n 0, 1) := by decide +kernel
theorem dX10_simulate_55 : decode cX10_simulate 55 = .ok (.lload 4, 2) := by decide +kernel
theorem dX10_simulate_57 : decode cX10_simulate 57 = .ok (.bipush 33, 2) := by decide +kernel
theorem dX10_simulate_59 : decode cX10_simulate 59 = .ok (.lushr, 1) := by decide +kernel
theorem dX10_simulate_60 : decode cX10_simulate 60 = .ok (.l2i, 1) := by decide +kernel
theorem dX10_simulate_61 : decode cX10_simulate 61 = .ok (.invokevirtual 309, 3) := by decide +kernel
theorem dX10_simulate_64 : decode cX10_simulate 64 = .ok (.iinc 6 1, 3) := by decide +kernel
theorem dX10_simulate_67 : decode cX10_simulate 67 = .ok (.goto (-31), 3) := by decide +kernel
theorem dX10_simulate_70 : decode cX10_simulate 70 = .ok (.sipush 1000, 3) := by decide +kernel
theorem dX10_simulate_73 : decode cX10_simulate 73 = .ok (.aload_n 0, 1) := by decide +kernel
theorem dX10_simulate_74 : decode cX10_simulate 74 = .ok (.getfield 19, 3) := by decide +kernel
theorem dX10_simulate_77 : decode cX10_simulate 77 = .ok (.iconst 4, 1) := by decide +kernel
theorem dX10_simulate_78 : decode cX10_simulate 78 = .ok (.iaload, 1) := by decide +kernel
theorem dX10_simulate_79 : decode cX10_simulate 79 = .ok (.aload_n 0, 1) := by decide +kernel
theorem dX10_simulate_80 : decode cX10_simulate 80 = .ok (.getfield 16, 3) := by decide +kernel
theorem dX10_simulate_83 : decode cX10_simulate 83 = .ok (.iconst 4, 1) := by decide +kernel
theorem dX10_simulate_84 : decode cX10_simulate 84 = .ok (.iaload, 1) := by decide +kernel
theorem dX10_simulate_85 : decode cX10_simulate 85 = .ok (.isub, 1) := by decide +kernel
theorem dX10_simulate_86 : decode cX10_simulate 86 = .ok (.imul, 1) := by decide +kernel
theorem dX10_simulate_87 : decode cX10_simulate 87 = .ok (.aload_n 0, 1) := by decide +kernel
theorem dX10_simulate_88 : decode cX10_simulate 88 = .ok (.getfield 19, 3) := by decide +kernel
theorem dX10_simulate_91 : decode cX10_simulate 91 = .ok (.iconst 5, 1) := by decide +kernel
theorem dX10_simulate_92 : decode cX10_simulate 92 = .ok (.iaload, 1) := by decide +kernel
theorem dX10_simulate_93 : decode cX10_simulate 93 = .ok (.iadd, 1) := by decide +kernel
theorem dX10_simulate_94 : decode cX10_simulate 94 = .ok (.aload_n 0, 1) := by decide +kernel
theorem dX10_simulate_95 : decode cX10_simulate 95 = .ok (.getfield 16, 3) := by decide +kernel
theorem dX10_simulate_98 : decode cX10_simulate 98 = .ok (.iconst 5, 1) := by decide +kernel
theorem dX10_simulate_99 : decode cX10_simulate 99 = .ok (.iaload, 1) := by decide +kernel
theorem dX10_simulate_100 : decode cX10_simulate 100 = .ok (.isub, 1) := by decide +kernel
theorem dX10_simulate_101 : decode cX10_simulate 101 = .ok (.ireturn, 1) := by decide +kernel
def bX10_simulate_0 (w : ab_W) (s_X10_in : ab_S) (s_X10_refused : ab_S) (s_X10_tryIt : ab_S) (s_X10_stir : ab_S) (M : Nat → ab_P) (Kn : Option Value → ab_H → Prop) : ab_P := ab_ald 0 (ab_ild 3 (ab_i2l (ab_cl (lN 1) (ab_cl (40) (ab_cN w 3 s_X10_in (ab_if1 (fun x => x = 0) (ab_ci (nI 1) (M 18)) (ab_ci (nI 0) (M 18))))))))
def bX10_simulate_18 (w : ab_W) (s_X10_in : ab_S) (s_X10_refused : ab_S) (s_X10_tryIt : ab_S) (s_X10_stir : ab_S) (M : Nat → ab_P) (Kn : Option Value → ab_H → Prop) : ab_P := ab_cV w 2 10 s_X10_refused (ab_if1 (fun x => x = 0) (ab_ald 0 (ab_cV w 1 10 s_X10_tryIt (ab_lld 1 (ab_lst 4 (ab_ci (nI 0) (ab_ist 6 (M 36))))))) (ab_ci (nI 0) (ab_ir Kn)))
def bX10_simulate_36 (w : ab_W) (s_X10_in : ab_S) (s_X10_refused : ab_S) (s_X10_tryIt : ab_S) (s_X10_stir : ab_S) (M : Nat → ab_P) (Kn : Option Value → ab_H → Prop) : ab_P := ab_ild 6 (ab_ild 3 (ab_if2 (fun x y => y ≤ x) (ab_ci (nI 1000) (ab_ald 0 (ab_gr w 10 4 (ab_ci (nI 4) (ab_ia w 11 (ab_ald 0 (ab_gr w 10 3 (ab_ci (nI 4) (ab_ia w 11 (ab_b2 (fun x y => x - y) (ab_b2 (fun x y => x * y) (ab_ald 0 (ab_gr w 10 4 (ab_ci (nI 5) (ab_ia w 11 (ab_b2 (fun x y => x + y) (ab_ald 0 (ab_gr w 10 3 (ab_ci (nI 5) (ab_ia w 11 (ab_b2 (fun x y => x - y) (ab_ir Kn)))))))))))))))))))))) (ab_lld 4 (ab_cl (6364136223846793005) (ab_l2 (fun x y => x * y) (ab_cl (1442695040888963407) (ab_l2 (fun x y => x + y) (ab_lst 4 (ab_ald 0 (ab_lld 4 (ab_ci (nI 33) (ab_lsh (fun x y => (x.toUInt64 >>> (y.toInt64.toUInt64 &&& Int64.toUInt64 63)).toInt64) (ab_l2i (ab_cV w 2 10 s_X10_stir (ab_inc 6 (nI 1) (M 36))))))))))))))))
set_option maxRecDepth 20000 in
set_option maxHeartbeats 2000000 in
theorem vc_X10_simulate {l : Launch} (hl : l.stackTraces = false) {w : ab_W} (hI : ab_Inj w) {mc : Nat} {σ : ab_H} {As : List Value} {Kn : Option Value → ab_H → Prop} {Kx : String → ab_H → Prop} {s_X10_in : ab_S} (ok_X10_in : ab_OkN l yX10_in (Cond.code yX10_in cX10_in 6 (some .boolean)) 1 s_X10_in) {s_X10_refused : ab_S} (ok_X10_refused : ab_OkN l yX10_refused (Cond.code yX10_refused cX10_refused 2 (some .boolean)) 1 s_X10_refused) {s_X10_tryIt : ab_S} (ok_X10_tryIt : ab_OkN l yX10_tryIt (Cond.code yX10_tryIt cX10_tryIt 1 none) 2 s_X10_tryIt) {s_X10_stir : ab_S} (ok_X10_stir : ab_OkN l yX10_stir (Cond.code yX10_stir cX10_stir 4 none) 6 s_X10_stir) (hlen : (ab_xl As).length ≤ 7) (h : ∀ M : Nat → ab_P, (∀ L st σ, bX10_simulate_0 w s_X10_in s_X10_refused s_X10_tryIt s_X10_stir M Kn L st σ → M 0 L st σ) → (∀ L st σ, bX10_simulate_18 w s_X10_in s_X10_refused s_X10_tryIt s_X10_stir M Kn L st σ → M 18 L st σ) → (∀ L st σ, bX10_simulate_36 w s_X10_in s_X10_refused s_X10_tryIt s_X10_stir M Kn L st σ → M 36 L st σ) → M 0 (ab_pd 7 (ab_xl As)) [] σ) : ab_Met l yX10_simulate (Cond.code yX10_simulate cX10_simulate 7 (some .int)) 7 mc w σ As Kn Kx := by
  refine ab_enter (by decide) hl hI hlen (by decide) ?_
  intro p e R s m args below meth c C hno hr
  exact h _ (sd_aload_n C (i := 0) dX10_simulate_0 rfl (sd_iload_n C (i := 3) dX10_simulate_1 rfl (sd_i2l C dX10_simulate_2 (sd_lconst C (x := lN 1) dX10_simulate_3 (by decide +kernel) (sd_ldc2 C (x := 40) dX10_simulate_4 wd_1301 (sd_cS C ok_X10_in ⟨by decide, by decide, wd_1046, wd_11, by decide +kernel⟩ wd_1044 wd_1045 dX10_simulate_7 (sd_if_eq C dX10_simulate_10 (tgt := 17) (by decide) (sd_iconst C (x := nI 1) dX10_simulate_17 (by decide +kernel) (fun _ _ _ h => h)) (sd_iconst C (x := nI 0) dX10_simulate_13 (by decide +kernel) (sd_goto C dX10_simulate_14 (tgt := 18) (by decide) (fun _ _ _ h => h))))))))))
    (sd_cV C ok_X10_refused (ci := 10) (row := (RX10, TX10, 15)) rfl rfl ⟨by decide, by decide, wd_1050, wd_11, by decide +kernel⟩ wd_1047 wd_1049 ws_15 dX10_simulate_18 (sd_if_eq C dX10_simulate_21 (tgt := 26) (by decide) (sd_aload_n C (i := 0) dX10_simulate_26 rfl (sd_cV C ok_X10_tryIt (ci := 10) (row := (RX10, TX10, 15)) rfl rfl ⟨by decide, by decide, wd_1211, wd_11, by decide +kernel⟩ wd_1208 wd_1210 ws_32 dX10_simulate_27 (sd_lload_n C (i := 1) dX10_simulate_30 rfl (sd_lstore C dX10_simulate_31 (by decide) (sd_iconst C (x := nI 0) dX10_simulate_33 (by decide +kernel) (sd_istore C dX10_simulate_34 (by decide) (fun _ _ _ h => h))))))) (sd_iconst C (x := nI 0) dX10_simulate_24 (by decide +kernel) (sd_ir C hr dX10_simulate_25))))
    (sd_iload C dX10_simulate_36 (sd_iload_n C (i := 3) dX10_simulate_38 rfl (sd_icmp_ge C dX10_simulate_39 (tgt := 70) (by decide) (sd_sipush C (x := nI 1000) dX10_simulate_70 (by decide +kernel) (sd_aload_n C (i := 0) dX10_simulate_73 rfl (sd_gr C (ci := 10) (k := 8) (r := (RX10, TX10, 15)) rfl (by decide) rfl wd_996 dX10_simulate_74 (sd_iconst C (x := nI 4) dX10_simulate_77 (by decide +kernel) (sd_ia C dX10_simulate_78 (sd_aload_n C (i := 0) dX10_simulate_79 rfl (sd_gr C (ci := 10) (k := 7) (r := (RX10, TX10, 15)) rfl (by decide) rfl wd_995 dX10_simulate_80 (sd_iconst C (x := nI 4) dX10_simulate_83 (by decide +kernel) (sd_ia C dX10_simulate_84 (sd_isub C dX10_simulate_85 (sd_imul C dX10_simulate_86 (sd_aload_n C (i := 0) dX10_simulate_87 rfl (sd_gr C (ci := 10) (k := 8) (r := (RX10, TX10, 15)) rfl (by decide) rfl wd_996 dX10_simulate_88 (sd_iconst C (x := nI 5) dX10_simulate_91 (by decide +kernel) (sd_ia C dX10_simulate_92 (sd_iadd C dX10_simulate_93 (sd_aload_n C (i := 0) dX10_simulate_94 rfl (sd_gr C (ci := 10) (k := 7) (r := (RX10, TX10, 15)) rfl (by decide) rfl wd_995 dX10_simulate_95 (sd_iconst C (x := nI 5) dX10_simulate_98 (by decide +kernel) (sd_ia C dX10_simulate_99 (sd_isub C dX10_simulate_100 (sd_ir C hr dX10_simulate_101)))))))))))))))))))))) (sd_lload C dX10_simulate_42 (sd_ldc2 C (x := 6364136223846793005) dX10_simulate_44 wd_1386 (sd_lmul C dX10_simulate_47 (sd_ldc2 C (x := 1442695040888963407) dX10_simulate_48 wd_1387 (sd_ladd C dX10_simulate_51 (sd_lstore C dX10_simulate_52 (by decide) (sd_aload_n C (i := 0) dX10_simulate_54 rfl (sd_lload C dX10_simulate_55 (sd_bipush C (x := nI 33) dX10_simulate_57 (by decide +kernel) (sd_lushr C dX10_simulate_59 (sd_l2i C dX10_simulate_60 (sd_cV C ok_X10_stir (ci := 10) (row := (RX10, TX10, 15)) rfl rfl ⟨by decide, by decide, wd_1391, wd_11, by decide +kernel⟩ wd_1388 wd_1390 ws_42 dX10_simulate_61 (sd_iinc C (x := nI 1) dX10_simulate_64 (by decide +kernel) (by decide) (sd_goto C dX10_simulate_67 (tgt := 36) (by decide) (fun _ _ _ h => h))))))))))))))))))
theorem dX10_save_0 : decode cX10_save 0 = .ok (.aload_n 0, 1) := by decide +kernel
theorem dX10_save_1 : decode cX10_save 1 = .ok (.iload_n 1, 1) := by decide +kernel
theorem dX10_save_2 : decode cX10_save 2 = .ok (.i2l, 1) := by decide +kernel
theorem dX10_save_3 : decode cX10_save 3 = .ok (.lconst 0, 1) := by decide +kernel
theorem dX10_save_4 : decode cX10_save 4 = .ok (.lconst 1, 1) := by decide +kernel
theorem dX10_save_5 : decode cX10_save 5 = .ok (.invokestatic 62, 3) := by decide +kernel
theorem dX10_save_8 : decode cX10_save 8 = .ok (.ifCond .eq 7, 3) := by decide +kernel
theorem dX10_save_11 : decode cX10_save 11 = .ok (.iconst 0, 1) := by decide +kernel
theorem dX10_save_12 : decode cX10_save 12 = .ok (.goto 4, 3) := by decide +kernel
theorem dX10_save_15 : decode cX10_save 15 = .ok (.iconst 1, 1) := by decide +kernel
theorem dX10_save_16 : decode cX10_save 16 = .ok (.invokevirtual 127, 3) := by decide +kernel
theorem dX10_save_19 : decode cX10_save 19 = .ok (.ifCond .eq 5, 3) := by decide +kernel
theorem dX10_save_22 : decode cX10_save 22 = .ok (.iconst 0, 1) := by decide +kernel
theorem dX10_save_23 : decode cX10_save 23 = .ok (.ireturn, 1) := by decide +kernel
theorem dX10_save_24 : decode cX10_save 24 = .ok (.aload_n 0, 1) := by decide +kernel
theorem dX10_save_25 : decode cX10_save 25 = .ok (.getfield 16, 3) := by decide +kernel
theorem dX10_save_28 : decode cX10_save 28 = .ok (.iconst 0, 1) := by decide +kernel
theorem dX10_save_29 : decode cX10_save 29 = .ok (.aload_n 0, 1) := by decide +kernel
theorem dX10_save_30 : decode cX10_save 30 = .ok (.getfield 25, 3) := by decide +kernel
theorem dX10_save_33 : decode cX10_save 33 = .ok (.sipush 304, 3) := by decide +kernel
theorem dX10_save_36 : decode cX10_save 36 = .ok (.iload_n 1, 1) := by decide +kernel
theorem dX10_save_37 : decode cX10_save 37 = .ok (.imul, 1) := by decide +kernel
theorem dX10_save_38 : decode cX10_save 38 = .ok (.sipush 304, 3) := by decide +kernel
theorem dX10_save_41 : decode cX10_save 41 = .ok (.invokestatic 45, 3) := by decide +kernel
theorem dX10_save_44 : decode cX10_save 44 = .ok (.aload_n 0, 1) := by decide +kernel
theorem dX10_save_45 : decode cX10_save 45 = .ok (.getfield 28, 3) := by decide +kernel
theorem dX10_save_48 : decode cX10_save 48 = .ok (.iload_n 1, 1) := by decide +kernel
theorem dX10_save_49 : decode cX10_save 49 = .ok (.iconst 1, 1) := by decide +kernel
theorem dX10_save_50 : decode cX10_save 50 = .ok (.bastore, 1) := by decide +kernel
theorem dX10_save_51 : decode cX10_save 51 = .ok (.aload_n 0, 1) := by decide +kernel
theorem dX10_save_52 : decode cX10_save 52 = .ok (.getfield 16, 3) := by decide +kernel
theorem dX10_save_55 : decode cX10_save 55 = .ok (.iconst 0, 1) := by decide +kernel
theorem dX10_save_56 : decode cX10_save 56 = .ok (.iaload, 1) := by decide +kernel
theorem dX10_save_57 : decode cX10_save 57 = .ok (.ireturn, 1) := by decide +kernel
def bX10_save_0 (w : ab_W) (s_X10_in : ab_S) (s_X10_refused : ab_S) (s_X10_copy : ab_S) (M : Nat → ab_P) (Kn : Option Value → ab_H → Prop) : ab_P := ab_ald 0 (ab_ild 1 (ab_i2l (ab_cl (lN 0) (ab_cl (lN 1) (ab_cN w 3 s_X10_in (ab_if1 (fun x => x = 0) (ab_ci (nI 1) (M 16)) (ab_ci (nI 0) (M 16))))))))
def bX10_save_16 (w : ab_W) (s_X10_in : ab_S) (s_X10_refused : ab_S) (s_X10_copy : ab_S) (M : Nat → ab_P) (Kn : Option Value → ab_H → Prop) : ab_P := ab_cV w 2 10 s_X10_refused (ab_if1 (fun x => x = 0) (ab_ald 0 (ab_gr w 10 3 (ab_ci (nI 0) (ab_ald 0 (ab_gr w 10 6 (ab_ci (nI 304) (ab_ild 1 (ab_b2 (fun x y => x * y) (ab_ci (nI 304) (ab_cN w 5 s_X10_copy (ab_ald 0 (ab_gr w 10 7 (ab_ild 1 (ab_ci (nI 1) (ab_zs w (ab_ald 0 (ab_gr w 10 3 (ab_ci (nI 0) (ab_ia w 11 (ab_ir Kn)))))))))))))))))))) (ab_ci (nI 0) (ab_ir Kn)))
set_option maxRecDepth 20000 in
set_option maxHeartbeats 2000000 in
theorem vc_X10_save {l : Launch} (hl : l.stackTraces = false) {w : ab_W} (hI : ab_Inj w) {mc : Nat} {σ : ab_H} {As : List Value} {Kn : Option Value → ab_H → Prop} {Kx : String → ab_H → Prop} {s_X10_in : ab_S} (ok_X10_in : ab_OkN l yX10_in (Cond.code yX10_in cX10_in 6 (some .boolean)) 1 s_X10_in) {s_X10_refused : ab_S} (ok_X10_refused : ab_OkN l yX10_refused (Cond.code yX10_refused cX10_refused 2 (some .boolean)) 1 s_X10_refused) {s_X10_copy : ab_S} (ok_X10_copy : ab_OkN l yX10_copy (Cond.code yX10_copy cX10_copy 6 none) 1 s_X10_copy) (hlen : (ab_xl As).length ≤ 2) (h : ∀ M : Nat → ab_P, (∀ L st σ, bX10_save_0 w s_X10_in s_X10_refused s_X10_copy M Kn L st σ → M 0 L st σ) → (∀ L st σ, bX10_save_16 w s_X10_in s_X10_refused s_X10_copy M Kn L st σ → M 16 L st σ) → M 0 (ab_pd 2 (ab_xl As)) [] σ) : ab_Met l yX10_save (Cond.code yX10_save cX10_save 2 (some .int)) 2 mc w σ As Kn Kx := by
  refine ab_enter (by decide) hl hI hlen (by decide) ?_
  intro p e R s m args below meth c C hno hr
  exact h _ (sd_aload_n C (i := 0) dX10_save_0 rfl (sd_iload_n C (i := 1) dX10_save_1 rfl (sd_i2l C dX10_save_2 (sd_lconst C (x := lN 0) dX10_save_3 (by decide +kernel) (sd_lconst C (x := lN 1) dX10_save_4 (by decide +kernel) (sd_cS C ok_X10_in ⟨by decide, by decide, wd_1046, wd_11, by decide +kernel⟩ wd_1044 wd_1045 dX10_save_5 (sd_if_eq C dX10_save_8 (tgt := 15) (by decide) (sd_iconst C (x := nI 1) dX10_save_15 (by decide +kernel) (fun _ _ _ h => h)) (sd_iconst C (x := nI 0) dX10_save_11 (by decide +kernel) (sd_goto C dX10_save_12 (tgt := 16) (by decide) (fun _ _ _ h => h))))))))))
    (sd_cV C ok_X10_refused (ci := 10) (row := (RX10, TX10, 15)) rfl rfl ⟨by decide, by decide, wd_1050, wd_11, by decide +kernel⟩ wd_1047 wd_1049 ws_15 dX10_save_16 (sd_if_eq C dX10_save_19 (tgt := 24) (by decide) (sd_aload_n C (i := 0) dX10_save_24 rfl (sd_gr C (ci := 10) (k := 7) (r := (RX10, TX10, 15)) rfl (by decide) rfl wd_995 dX10_save_25 (sd_iconst C (x := nI 0) dX10_save_28 (by decide +kernel) (sd_aload_n C (i := 0) dX10_save_29 rfl (sd_gr C (ci := 10) (k := 11) (r := (RX10, TX10, 15)) rfl (by decide) rfl wd_999 dX10_save_30 (sd_sipush C (x := nI 304) dX10_save_33 (by decide +kernel) (sd_iload_n C (i := 1) dX10_save_36 rfl (sd_imul C dX10_save_37 (sd_sipush C (x := nI 304) dX10_save_38 (by decide +kernel) (sd_cS C ok_X10_copy ⟨by decide, by decide, wd_1145, wd_11, by decide +kernel⟩ wd_1143 wd_1144 dX10_save_41 (sd_aload_n C (i := 0) dX10_save_44 rfl (sd_gr C (ci := 10) (k := 12) (r := (RX10, TX10, 15)) rfl (by decide) rfl wd_1000 dX10_save_45 (sd_iload_n C (i := 1) dX10_save_48 rfl (sd_iconst C (x := nI 1) dX10_save_49 (by decide +kernel) (sd_zs C dX10_save_50 (sd_aload_n C (i := 0) dX10_save_51 rfl (sd_gr C (ci := 10) (k := 7) (r := (RX10, TX10, 15)) rfl (by decide) rfl wd_995 dX10_save_52 (sd_iconst C (x := nI 0) dX10_save_55 (by decide +kernel) (sd_ia C dX10_save_56 (sd_ir C hr dX10_save_57)))))))))))))))))))) (sd_iconst C (x := nI 0) dX10_save_22 (by decide +kernel) (sd_ir C hr dX10_save_23))))
theorem dX10_restore_0 : decode cX10_restore 0 = .ok (.aload_n 0, 1) := by decide +kernel
theorem dX10_restore_1 : decode cX10_restore 1 = .ok (.iload_n 1, 1) := by decide +kernel
theorem dX10_restore_2 : decode cX10_restore 2 = .ok (.i2l, 1) := by decide +kernel
theorem dX10_restore_3 : decode cX10_restore 3 = .ok (.lconst 0, 1) := by decide +kernel
theorem dX10_restore_4 : decode cX10_restore 4 = .ok (.lconst 1, 1) := by decide +kernel
theorem dX10_restore_5 : decode cX10_restore 5 = .ok (.invokestatic 62, 3) := by decide +kernel
theorem dX10_restore_8 : decode cX10_restore 8 = .ok (.ifCond .ne 7, 3) := by decide +kernel
theorem dX10_restore_11 : decode cX10_restore 11 = .ok (.iconst 1, 1) := by decide +kernel
theorem dX10_restore_12 : decode cX10_restore 12 = .ok (.goto 17, 3) := by decide +kernel
theorem dX10_restore_15 : decode cX10_restore 15 = .ok (.aload_n 0, 1) := by decide +kernel
theorem dX10_restore_16 : decode cX10_restore 16 = .ok (.getfield 28, 3) := by decide +kernel
theorem dX10_restore_19 : decode cX10_restore 19 = .ok (.iload_n 1, 1) := by decide +kernel
theorem dX10_restore_20 : decode cX10_restore 20 = .ok (.baload, 1) := by decide +kernel
theorem dX10_restore_21 : decode cX10_restore 21 = .ok (.ifCond .eq 7, 3) := by decide +kernel
theorem dX10_restore_24 : decode cX10_restore 24 = .ok (.iconst 0, 1) := by decide +kernel
theorem dX10_restore_25 : decode cX10_restore 25 = .ok (.goto 4, 3) := by decide +kernel
theorem dX10_restore_28 : decode cX10_restore 28 = .ok (.iconst 2, 1) := by decide +kernel
theorem dX10_restore_29 : decode cX10_restore 29 = .ok (.invokevirtual 127, 3) := by decide +kernel
theorem dX10_restore_32 : decode cX10_restore 32 = .ok (.ifCond .eq 5, 3) := by decide +kernel
theorem dX10_restore_35 : decode cX10_restore 35 = .ok (.iconst 0, 1) := by decide +kernel
theorem dX10_restore_36 : decode cX10_restore 36 = .ok (.ireturn, 1) := by decide +kernel
theorem dX10_restore_37 : decode cX10_restore 37 = .ok (.aload_n 0, 1) := by decide +kernel
theorem dX10_restore_38 : decode cX10_restore 38 = .ok (.getfield 25, 3) := by decide +kernel
theorem dX10_restore_41 : decode cX10_restore 41 = .ok (.sipush 304, 3) := by decide +kernel
theorem dX10_restore_44 : decode cX10_restore 44 = .ok (.iload_n 1, 1) := by decide +kernel
theorem dX10_restore_45 : decode cX10_restore 45 = .ok (.imul, 1) := by decide +kernel
theorem dX10_restore_46 : decode cX10_restore 46 = .ok (.aload_n 0, 1) := by decide +kernel
theorem dX10_restore_47 : decode cX10_restore 47 = .ok (.getfield 16, 3) := by decide +kernel
theorem dX10_restore_50 : decode cX10_restore 50 = .ok (.iconst 0, 1) := by decide +kernel
theorem dX10_restore_51 : decode cX10_restore 51 = .ok (.sipush 304, 3) := by decide +kernel
theorem dX10_restore_54 : decode cX10_restore 54 = .ok (.invokestatic 45, 3) := by decide +kernel
theorem dX10_restore_57 : decode cX10_restore 57 = .ok (.aload_n 0, 1) := by decide +kernel
theorem dX10_restore_58 : decode cX10_restore 58 = .ok (.iconst 0, 1) := by decide +kernel
theorem dX10_restore_59 : decode cX10_restore 59 = .ok (.putfield 42, 3) := by decide +kernel
theorem dX10_restore_62 : decode cX10_restore 62 = .ok (.aload_n 0, 1) := by decide +kernel
theorem dX10_restore_63 : decode cX10_restore 63 = .ok (.getfield 16, 3) := by decide +kernel
theorem dX10_restore_66 : decode cX10_restore 66 = .ok (.iconst 0, 1) := by decide +kernel
theorem dX10_restore_67 : decode cX10_restore 67 = .ok (.iaload, 1) := by decide +kernel
theorem dX10_restore_68 : decode cX10_restore 68 = .ok (.ireturn, 1) := by decide +kernel
def bX10_restore_0 (w : ab_W) (s_X10_in : ab_S) (s_X10_refused : ab_S) (s_X10_copy : ab_S) (M : Nat → ab_P) (Kn : Option Value → ab_H → Prop) : ab_P := ab_ald 0 (ab_ild 1 (ab_i2l (ab_cl (lN 0) (ab_cl (lN 1) (ab_cN w 3 s_X10_in (ab_if1 (fun x => ¬ x = 0) (ab_ald 0 (ab_gr w 10 7 (ab_ild 1 (ab_ia w 13 (ab_if1 (fun x => x = 0) (ab_ci (nI 2) (M 29)) (ab_ci (nI 0) (M 29))))))) (ab_ci (nI 1) (M 29))))))))
def bX10_restore_29 (w : ab_W) (s_X10_in : ab_S) (s_X10_refused : ab_S) (s_X10_copy : ab_S) (M : Nat → ab_P) (Kn : Option Value → ab_H → Prop) : ab_P := ab_cV w 2 10 s_X10_refused (ab_if1 (fun x => x = 0) (ab_ald 0 (ab_gr w 10 6 (ab_ci (nI 304) (ab_ild 1 (ab_b2 (fun x y => x * y) (ab_ald 0 (ab_gr w 10 3 (ab_ci (nI 0) (ab_ci (nI 304) (ab_cN w 5 s_X10_copy (ab_ald 0 (ab_ci (nI 0) (ab_pf w 10 10 (ab_ald 0 (ab_gr w 10 3 (ab_ci (nI 0) (ab_ia w 11 (ab_ir Kn)))))))))))))))))) (ab_ci (nI 0) (ab_ir Kn)))
set_option maxRecDepth 20000 in
set_option maxHeartbeats 2000000 in
theorem vc_X10_restore {l : Launch} (hl : l.stackTraces = false) {w : ab_W} (hI : ab_Inj w) {mc : Nat} {σ : ab_H} {As : List Value} {Kn : Option Value → ab_H → Prop} {Kx : String → ab_H → Prop} {s_X10_in : ab_S} (ok_X10_in : ab_OkN l yX10_in (Cond.code yX10_in cX10_in 6 (some .boolean)) 1 s_X10_in) {s_X10_refused : ab_S} (ok_X10_refused : ab_OkN l yX10_refused (Cond.code yX10_refused cX10_refused 2 (some .boolean)) 1 s_X10_refused) {s_X10_copy : ab_S} (ok_X10_copy : ab_OkN l yX10_copy (Cond.code yX10_copy cX10_copy 6 none) 1 s_X10_copy) (hlen : (ab_xl As).length ≤ 2) (h : ∀ M : Nat → ab_P, (∀ L st σ, bX10_restore_0 w s_X10_in s_X10_refused s_X10_copy M Kn L st σ → M 0 L st σ) → (∀ L st σ, bX10_restore_29 w s_X10_in s_X10_refused s_X10_copy M Kn L st σ → M 29 L st σ) → M 0 (ab_pd 2 (ab_xl As)) [] σ) : ab_Met l yX10_restore (Cond.code yX10_restore cX10_restore 2 (some .int)) 2 mc w σ As Kn Kx := by
  refine ab_enter (by decide) hl hI hlen (by decide) ?_
  intro p e R s m args below meth c C hno hr
  exact h _ (sd_aload_n C (i := 0) dX10_restore_0 rfl (sd_iload_n C (i := 1) dX10_restore_1 rfl (sd_i2l C dX10_restore_2 (sd_lconst C (x := lN 0) dX10_restore_3 (by decide +kernel) (sd_lconst C (x := lN 1) dX10_restore_4 (by decide +kernel) (sd_cS C ok_X10_in ⟨by decide, by decide, wd_1046, wd_11, by decide +kernel⟩ wd_1044 wd_1045 dX10_restore_5 (sd_if_ne C dX10_restore_8 (tgt := 15) (by decide) (sd_aload_n C (i := 0) dX10_restore_15 rfl (sd_gr C (ci := 10) (k := 12) (r := (RX10, TX10, 15)) rfl (by decide) rfl wd_1000 dX10_restore_16 (sd_iload_n C (i := 1) dX10_restore_19 rfl (sd_za C dX10_restore_20 (sd_if_eq C dX10_restore_21 (tgt := 28) (by decide) (sd_iconst C (x := nI 2) dX10_restore_28 (by decide +kernel) (fun _ _ _ h => h)) (sd_iconst C (x := nI 0) dX10_restore_24 (by decide +kernel) (sd_goto C dX10_restore_25 (tgt := 29) (by decide) (fun _ _ _ h => h)))))))) (sd_iconst C (x := nI 1) dX10_restore_11 (by decide +kernel) (sd_goto C dX10_restore_12 (tgt := 29) (by decide) (fun _ _ _ h => h))))))))))
    (sd_cV C ok_X10_refused (ci := 10) (row := (RX10, TX10, 15)) rfl rfl ⟨by decide, by decide, wd_1050, wd_11, by decide +kernel⟩ wd_1047 wd_1049 ws_15 dX10_restore_29 (sd_if_eq C dX10_restore_32 (tgt := 37) (by decide) (sd_aload_n C (i := 0) dX10_restore_37 rfl (sd_gr C (ci := 10) (k := 11) (r := (RX10, TX10, 15)) rfl (by decide) rfl wd_999 dX10_restore_38 (sd_sipush C (x := nI 304) dX10_restore_41 (by decide +kernel) (sd_iload_n C (i := 1) dX10_restore_44 rfl (sd_imul C dX10_restore_45 (sd_aload_n C (i := 0) dX10_restore_46 rfl (sd_gr C (ci := 10) (k := 7) (r := (RX10, TX10, 15)) rfl (by decide) rfl wd_995 dX10_restore_47 (sd_iconst C (x := nI 0) dX10_restore_50 (by decide +kernel) (sd_sipush C (x := nI 304) dX10_restore_51 (by decide +kernel) (sd_cS C ok_X10_copy ⟨by decide, by decide, wd_1145, wd_11, by decide +kernel⟩ wd_1143 wd_1144 dX10_restore_54 (sd_aload_n C (i := 0) dX10_restore_57 rfl (sd_iconst C (x := nI 0) dX10_restore_58 (by decide +kernel) (sd_pf C (ci := 10) (k := 10) (r := (RX10, TX10, 15)) rfl (by decide) rfl rfl (by decide +kernel) wd_998 dX10_restore_59 (sd_aload_n C (i := 0) dX10_restore_62 rfl (sd_gr C (ci := 10) (k := 7) (r := (RX10, TX10, 15)) rfl (by decide) rfl wd_995 dX10_restore_63 (sd_iconst C (x := nI 0) dX10_restore_66 (by decide +kernel) (sd_ia C dX10_restore_67 (sd_ir C hr dX10_restore_68)))))))))))))))))) (sd_iconst C (x := nI 0) dX10_restore_35 (by decide +kernel) (sd_ir C hr dX10_restore_36))))
