theorem dX8_add_0 : decode cX8_add 0 = .ok (.aload_n 0, 1) := by decide +kernel
theorem dX8_add_1 : decode cX8_add 1 = .ok (.getfield 19, 3) := by decide +kernel
theorem dX8_add_4 : decode cX8_add 4 = .ok (.aload_n 0, 1) := by decide +kernel
theorem dX8_add_5 : decode cX8_add 5 = .ok (.getfield 9, 3) := by decide +kernel
theorem dX8_add_8 : decode cX8_add 8 = .ok (.arraylength, 1) := by decide +kernel
theorem dX8_add_9 : decode cX8_add 9 = .ok (.if_icmp .ge 23, 3) := by decide +kernel
theorem dX8_add_12 : decode cX8_add 12 = .ok (.aload_n 0, 1) := by decide +kernel
theorem dX8_add_13 : decode cX8_add 13 = .ok (.getfield 9, 3) := by decide +kernel
theorem dX8_add_16 : decode cX8_add 16 = .ok (.aload_n 0, 1) := by decide +kernel
theorem dX8_add_17 : decode cX8_add 17 = .ok (.getfield 19, 3) := by decide +kernel
theorem dX8_add_20 : decode cX8_add 20 = .ok (.iload_n 1, 1) := by decide +kernel
theorem dX8_add_21 : decode cX8_add 21 = .ok (.castore, 1) := by decide +kernel
theorem dX8_add_22 : decode cX8_add 22 = .ok (.aload_n 0, 1) := by decide +kernel
theorem dX8_add_23 : decode cX8_add 23 = .ok (.dup, 1) := by decide +kernel
theorem dX8_add_24 : decode cX8_add 24 = .ok (.getfield 19, 3) := by decide +kernel
theorem dX8_add_27 : decode cX8_add 27 = .ok (.iconst 1, 1) := by decide +kernel
theorem dX8_add_28 : decode cX8_add 28 = .ok (.iadd, 1) := by decide +kernel
theorem dX8_add_29 : decode cX8_add 29 = .ok (.putfield 19, 3) := by decide +kernel
theorem dX8_add_32 : decode cX8_add 32 = .ok (.return_, 1) := by decide +kernel
def bX8_add_0 (w : ab_W) (M : Nat → ab_P) (Kn : Option Value → ab_H → Prop) : ab_P := ab_ald 0 (ab_gf w 8 1 (ab_ald 0 (ab_gr w 8 1 (ab_al w 12 (ab_if2 (fun x y => y ≤ x) (M 32) (ab_ald 0 (ab_gr w 8 1 (ab_ald 0 (ab_gf w 8 1 (ab_ild 1 (ab_cs w (ab_ald 0 (ab_dup (ab_gf w 8 1 (ab_ci (nI 1) (ab_b2 (fun x y => x + y) (ab_pf w 8 1 (M 32))))))))))))))))))
def bX8_add_32 (w : ab_W) (M : Nat → ab_P) (Kn : Option Value → ab_H → Prop) : ab_P := ab_vr Kn
set_option maxRecDepth 20000 in
set_option maxHeartbeats 2000000 in
theorem vc_X8_add {l : Launch} (hl : l.stackTraces = false) {w : ab_W} (hI : ab_Inj w) {mc : Nat} {σ : ab_H} {As : List Value} {Kn : Option Value → ab_H → Prop} {Kx : String → ab_H → Prop} (hlen : (ab_xl As).length ≤ 2) (h : ∀ M : Nat → ab_P, (∀ L st σ, bX8_add_0 w M Kn L st σ → M 0 L st σ) → (∀ L st σ, bX8_add_32 w M Kn L st σ → M 32 L st σ) → M 0 (ab_pd 2 (ab_xl As)) [] σ) : ab_Met l yX8_add (Cond.code yX8_add cX8_add 2 none) 1 mc w σ As Kn Kx := by
  refine ab_enter (by decide) hl hI hlen (by decide) ?_
  intro p e R s m args below meth c C hno hr
  exact h _ (sd_aload_n C (i := 0) dX8_add_0 rfl (sd_gf C (ci := 8) (k := 1) (r := (RX8, TX8, 5)) rfl (by decide) rfl wd_34 dX8_add_1 (sd_aload_n C (i := 0) dX8_add_4 rfl (sd_gr C (ci := 8) (k := 0) (r := (RX8, TX8, 5)) rfl (by decide) rfl wd_33 dX8_add_5 (sd_alw C 12 1 (Or.inr (Or.inl rfl)) .char rfl dX8_add_8 (sd_icmp_ge C dX8_add_9 (tgt := 32) (by decide) (fun _ _ _ h => h) (sd_aload_n C (i := 0) dX8_add_12 rfl (sd_gr C (ci := 8) (k := 0) (r := (RX8, TX8, 5)) rfl (by decide) rfl wd_33 dX8_add_13 (sd_aload_n C (i := 0) dX8_add_16 rfl (sd_gf C (ci := 8) (k := 1) (r := (RX8, TX8, 5)) rfl (by decide) rfl wd_34 dX8_add_17 (sd_iload_n C (i := 1) dX8_add_20 rfl (sd_cs C dX8_add_21 (sd_aload_n C (i := 0) dX8_add_22 rfl (sd_dup C dX8_add_23 (sd_gf C (ci := 8) (k := 1) (r := (RX8, TX8, 5)) rfl (by decide) rfl wd_34 dX8_add_24 (sd_iconst C (x := nI 1) dX8_add_27 (by decide +kernel) (sd_iadd C dX8_add_28 (sd_pf C (ci := 8) (k := 1) (r := (RX8, TX8, 5)) rfl (by decide) rfl rfl (by decide +kernel) wd_34 dX8_add_29 (fun _ _ _ h => h)))))))))))))))))))
    (sd_vr C hr dX8_add_32)
theorem dX8_skip_0 : decode cX8_skip 0 = .ok (.aload_n 0, 1) := by decide +kernel
theorem dX8_skip_1 : decode cX8_skip 1 = .ok (.getfield 27, 3) := by decide +kernel
theorem dX8_skip_4 : decode cX8_skip 4 = .ok (.aload_n 0, 1) := by decide +kernel
theorem dX8_skip_5 : decode cX8_skip 5 = .ok (.getfield 19, 3) := by decide +kernel
theorem dX8_skip_8 : decode cX8_skip 8 = .ok (.if_icmp .ge 16, 3) := by decide +kernel
theorem dX8_skip_11 : decode cX8_skip 11 = .ok (.aload_n 0, 1) := by decide +kernel
theorem dX8_skip_12 : decode cX8_skip 12 = .ok (.getfield 9, 3) := by decide +kernel
theorem dX8_skip_15 : decode cX8_skip 15 = .ok (.aload_n 0, 1) := by decide +kernel
theorem dX8_skip_16 : decode cX8_skip 16 = .ok (.getfield 27, 3) := by decide +kernel
theorem dX8_skip_19 : decode cX8_skip 19 = .ok (.caload, 1) := by decide +kernel
theorem dX8_skip_20 : decode cX8_skip 20 = .ok (.iload_n 1, 1) := by decide +kernel
theorem dX8_skip_21 : decode cX8_skip 21 = .ok (.if_icmp .eq 5, 3) := by decide +kernel
theorem dX8_skip_24 : decode cX8_skip 24 = .ok (.iconst 0, 1) := by decide +kernel
theorem dX8_skip_25 : decode cX8_skip 25 = .ok (.ireturn, 1) := by decide +kernel
theorem dX8_skip_26 : decode cX8_skip 26 = .ok (.aload_n 0, 1) := by decide +kernel
theorem dX8_skip_27 : decode cX8_skip 27 = .ok (.dup, 1) := by decide +kernel
theorem dX8_skip_28 : decode cX8_skip 28 = .ok (.getfield 27, 3) := by decide +kernel
theorem dX8_skip_31 : decode cX8_skip 31 = .ok (.iconst 1, 1) := by decide +kernel
theorem dX8_skip_32 : decode cX8_skip 32 = .ok (.iadd, 1) := by decide +kernel
theorem dX8_skip_33 : decode cX8_skip 33 = .ok (.putfield 27, 3) := by decide +kernel
theorem dX8_skip_36 : decode cX8_skip 36 = .ok (.iconst 1, 1) := by decide +kernel
theorem dX8_skip_37 : decode cX8_skip 37 = .ok (.ireturn, 1) := by decide +kernel
def bX8_skip_0 (w : ab_W) (M : Nat → ab_P) (Kn : Option Value → ab_H → Prop) : ab_P := ab_ald 0 (ab_gf w 8 2 (ab_ald 0 (ab_gf w 8 1 (ab_if2 (fun x y => y ≤ x) (M 24) (ab_ald 0 (ab_gr w 8 1 (ab_ald 0 (ab_gf w 8 2 (ab_ia w 12 (ab_ild 1 (ab_if2 (fun x y => x = y) (ab_ald 0 (ab_dup (ab_gf w 8 2 (ab_ci (nI 1) (ab_b2 (fun x y => x + y) (ab_pf w 8 2 (ab_ci (nI 1) (ab_zr Kn)))))))) (M 24))))))))))))
def bX8_skip_24 (w : ab_W) (M : Nat → ab_P) (Kn : Option Value → ab_H → Prop) : ab_P := ab_ci (nI 0) (ab_zr Kn)
set_option maxRecDepth 20000 in
set_option maxHeartbeats 2000000 in
theorem vc_X8_skip {l : Launch} (hl : l.stackTraces = false) {w : ab_W} (hI : ab_Inj w) {mc : Nat} {σ : ab_H} {As : List Value} {Kn : Option Value → ab_H → Prop} {Kx : String → ab_H → Prop} (hlen : (ab_xl As).length ≤ 2) (h : ∀ M : Nat → ab_P, (∀ L st σ, bX8_skip_0 w M Kn L st σ → M 0 L st σ) → (∀ L st σ, bX8_skip_24 w M Kn L st σ → M 24 L st σ) → M 0 (ab_pd 2 (ab_xl As)) [] σ) : ab_Met l yX8_skip (Cond.code yX8_skip cX8_skip 2 (some .boolean)) 1 mc w σ As Kn Kx := by
  refine ab_enter (by decide) hl hI hlen (by decide) ?_
  intro p e R s m args below meth c C hno hr
  exact h _ (sd_aload_n C (i := 0) dX8_skip_0 rfl (sd_gf C (ci := 8) (k := 2) (r := (RX8, TX8, 5)) rfl (by decide) rfl wd_36 dX8_skip_1 (sd_aload_n C (i := 0) dX8_skip_4 rfl (sd_gf C (ci := 8) (k := 1) (r := (RX8, TX8, 5)) rfl (by decide) rfl wd_34 dX8_skip_5 (sd_icmp_ge C dX8_skip_8 (tgt := 24) (by decide) (fun _ _ _ h => h) (sd_aload_n C (i := 0) dX8_skip_11 rfl (sd_gr C (ci := 8) (k := 0) (r := (RX8, TX8, 5)) rfl (by decide) rfl wd_33 dX8_skip_12 (sd_aload_n C (i := 0) dX8_skip_15 rfl (sd_gf C (ci := 8) (k := 2) (r := (RX8, TX8, 5)) rfl (by decide) rfl wd_36 dX8_skip_16 (sd_ca C dX8_skip_19 (sd_iload_n C (i := 1) dX8_skip_20 rfl (sd_icmp_eq C dX8_skip_21 (tgt := 26) (by decide) (sd_aload_n C (i := 0) dX8_skip_26 rfl (sd_dup C dX8_skip_27 (sd_gf C (ci := 8) (k := 2) (r := (RX8, TX8, 5)) rfl (by decide) rfl wd_36 dX8_skip_28 (sd_iconst C (x := nI 1) dX8_skip_31 (by decide +kernel) (sd_iadd C dX8_skip_32 (sd_pf C (ci := 8) (k := 2) (r := (RX8, TX8, 5)) rfl (by decide) rfl rfl (by decide +kernel) wd_36 dX8_skip_33 (sd_iconst C (x := nI 1) dX8_skip_36 (by decide +kernel) (sd_zr C hr dX8_skip_37)))))))) (fun _ _ _ h => h)))))))))))))
    (sd_iconst C (x := nI 0) dX8_skip_24 (by decide +kernel) (sd_zr C hr dX8_skip_25))
theorem dX8_startReading_0 : decode cX8_startReading 0 = .ok (.aload_n 0, 1) := by decide +kernel
theorem dX8_startReading_1 : decode cX8_startReading 1 = .ok (.iconst 0, 1) := by decide +kernel
theorem dX8_startReading_2 : decode cX8_startReading 2 = .ok (.putfield 27, 3) := by decide +kernel
theorem dX8_startReading_5 : decode cX8_startReading 5 = .ok (.aload_n 0, 1) := by decide +kernel
theorem dX8_startReading_6 : decode cX8_startReading 6 = .ok (.bipush 78, 2) := by decide +kernel
theorem dX8_startReading_8 : decode cX8_startReading 8 = .ok (.invokevirtual 33, 3) := by decide +kernel
theorem dX8_startReading_11 : decode cX8_startReading 11 = .ok (.ireturn, 1) := by decide +kernel
def bX8_startReading_0 (w : ab_W) (s_X8_skip : ab_S) (M : Nat → ab_P) (Kn : Option Value → ab_H → Prop) : ab_P := ab_ald 0 (ab_ci (nI 0) (ab_pf w 8 2 (ab_ald 0 (ab_ci (nI 78) (ab_cV w 2 8 s_X8_skip (ab_zr Kn))))))
set_option maxRecDepth 20000 in
set_option maxHeartbeats 2000000 in
theorem vc_X8_startReading {l : Launch} (hl : l.stackTraces = false) {w : ab_W} (hI : ab_Inj w) {mc : Nat} {σ : ab_H} {As : List Value} {Kn : Option Value → ab_H → Prop} {Kx : String → ab_H → Prop} {s_X8_skip : ab_S} (ok_X8_skip : ab_OkN l yX8_skip (Cond.code yX8_skip cX8_skip 2 (some .boolean)) 1 s_X8_skip) (hlen : (ab_xl As).length ≤ 1) (h : ∀ M : Nat → ab_P, (∀ L st σ, bX8_startReading_0 w s_X8_skip M Kn L st σ → M 0 L st σ) → M 0 (ab_pd 1 (ab_xl As)) [] σ) : ab_Met l yX8_startReading (Cond.code yX8_startReading cX8_startReading 1 (some .boolean)) 2 mc w σ As Kn Kx := by
  refine ab_enter (by decide) hl hI hlen (by decide) ?_
  intro p e R s m args below meth c C hno hr
  exact h _ (sd_aload_n C (i := 0) dX8_startReading_0 rfl (sd_iconst C (x := nI 0) dX8_startReading_1 (by decide +kernel) (sd_pf C (ci := 8) (k := 2) (r := (RX8, TX8, 5)) rfl (by decide) rfl rfl (by decide +kernel) wd_36 dX8_startReading_2 (sd_aload_n C (i := 0) dX8_startReading_5 rfl (sd_bipush C (x := nI 78) dX8_startReading_6 (by decide +kernel) (sd_cV C ok_X8_skip (ci := 8) (row := (RX8, TX8, 5)) rfl rfl ⟨by decide, by decide, wd_338, wd_2, by decide +kernel⟩ wd_335 wd_337 ws_0 dX8_startReading_8 (sd_zr C hr dX8_startReading_11)))))))
theorem dX8_readNumber_0 : decode cX8_readNumber 0 = .ok (.iconst 0, 1) := by decide +kernel
theorem dX8_readNumber_1 : decode cX8_readNumber 1 = .ok (.istore 5, 2) := by decide +kernel
theorem dX8_readNumber_3 : decode cX8_readNumber 3 = .ok (.iconst 0, 1) := by decide +kernel
theorem dX8_readNumber_4 : decode cX8_readNumber 4 = .ok (.istore 6, 2) := by decide +kernel
theorem dX8_readNumber_6 : decode cX8_readNumber 6 = .ok (.iload 6, 2) := by decide +kernel
theorem dX8_readNumber_8 : decode cX8_readNumber 8 = .ok (.iload_n 2, 1) := by decide +kernel
theorem dX8_readNumber_9 : decode cX8_readNumber 9 = .ok (.if_icmp .ge 144, 3) := by decide +kernel
theorem dX8_readNumber_12 : decode cX8_readNumber 12 = .ok (.aload_n 0, 1) := by decide +kernel
theorem dX8_readNumber_13 : decode cX8_readNumber 13 = .ok (.getfield 27, 3) := by decide +kernel
theorem dX8_readNumber_16 : decode cX8_readNumber 16 = .ok (.aload_n 0, 1) := by decide +kernel
theorem dX8_readNumber_17 : decode cX8_readNumber 17 = .ok (.getfield 19, 3) := by decide +kernel
theorem dX8_readNumber_20 : decode cX8_readNumber 20 = .ok (.if_icmp .ge 31, 3) := by decide +kernel
theorem dX8_readNumber_23 : decode cX8_readNumber 23 = .ok (.aload_n 0, 1) := by decide +kernel
theorem dX8_readNumber_24 : decode cX8_readNumber 24 = .ok (.getfield 9, 3) := by decide +kernel
theorem dX8_readNumber_27 : decode cX8_readNumber 27 = .ok (.aload_n 0, 1) := by decide +kernel
theorem dX8_readNumber_28 : decode cX8_readNumber 28 = .ok (.getfield 27, 3) := by decide +kernel
theorem dX8_readNumber_31 : decode cX8_readNumber 31 = .ok (.caload, 1) := by decide +kernel
theorem dX8_readNumber_32 : decode cX8_readNumber 32 = .ok (.bipush 48, 2) := by decide +kernel
theorem dX8_readNumber_34 : decode cX8_readNumber 34 = .ok (.if_icmp .lt 17, 3) := by decide +kernel
theorem dX8_readNumber_37 : decode cX8_readNumber 37 = .ok (.aload_n 0, 1) := by decide +kernel
theorem dX8_readNumber_38 : decode cX8_readNumber 38 = .ok (.getfield 9, 3) := by decide +kernel
theorem dX8_readNumber_41 : decode cX8_readNumber 41 = .ok (.aload_n 0, 1) := by decide +kernel
theorem dX8_readNumber_42 : decode cX8_readNumber 42 = .ok (.getfield 27, 3) := by decide +kernel
theorem dX8_readNumber_45 : decode cX8_readNumber 45 = .ok (.caload, 1) := by decide +kernel
theorem dX8_readNumber_46 : decode cX8_readNumber 46 = .ok (.bipush 57, 2) := by decide +kernel
theorem dX8_readNumber_48 : decode cX8_readNumber 48 = .ok (.if_icmp .le 5, 3) := by decide +kernel
theorem dX8_readNumber_51 : decode cX8_readNumber 51 = .ok (.iconst 0, 1) := by decide +kernel
theorem dX8_readNumber_52 : decode cX8_readNumber 52 = .ok (.ireturn, 1) := by decide +kernel
theorem dX8_readNumber_53 : decode cX8_readNumber 53 = .ok (.iload 5, 2) := by decide +kernel
theorem dX8_readNumber_55 : decode cX8_readNumber 55 = .ok (.bipush 10, 2) := by decide +kernel
theorem dX8_readNumber_57 : decode cX8_readNumber 57 = .ok (.imul, 1) := by decide +kernel
theorem dX8_readNumber_58 : decode cX8_readNumber 58 = .ok (.aload_n 0, 1) := by decide +kernel
theorem dX8_readNumber_59 : decode cX8_readNumber 59 = .ok (.getfield 9, 3) := by decide +kernel
theorem dX8_readNumber_62 : decode cX8_readNumber 62 = .ok (.aload_n 0, 1) := by decide +kernel
theorem dX8_readNumber_63 : decode cX8_readNumber 63 = .ok (.getfield 27, 3) := by decide +kernel
theorem dX8_readNumber_66 : decode cX8_readNumber 66 = .ok (.caload, 1) := by decide +kernel
theorem dX8_readNumber_67 : decode cX8_readNumber 67 = .ok (.iadd, 1) := by decide +kernel
theorem dX8_readNumber_68 : decode cX8_readNumber 68 = .ok (.bipush 48, 2) := by decide +kernel
theorem dX8_readNumber_70 : decode cX8_readNumber 70 = .ok (.isub, 1) := by decide +kernel
theorem dX8_readNumber_71 : decode cX8_readNumber 71 = .ok (.istore 5, 2) := by decide +kernel
theorem dX8_readNumber_73 : decode cX8_readNumber 73 = .ok (.iload 6, 2) := by decide +kernel
theorem dX8_readNumber_75 : decode cX8_readNumber 75 = .ok (.iconst 1, 1) := by decide +kernel
theorem dX8_readNumber_76 : decode cX8_readNumber 76 = .ok (.iadd, 1) := by decide +kernel
theorem dX8_readNumber_77 : decode cX8_readNumber 77 = .ok (.iload_n 2, 1) := by decide +kernel
theorem dX8_readNumber_78 : decode cX8_readNumber 78 = .ok (.if_icmp .ge 7, 3) := by decide +kernel
theorem dX8_readNumber_81 : decode cX8_readNumber 81 = .ok (.iconst 1, 1) := by decide +kernel
theorem dX8_readNumber_82 : decode cX8_readNumber 82 = .ok (.goto 4, 3) := by decide +kernel
theorem dX8_readNumber_85 : decode cX8_readNumber 85 = .ok (.iconst 0, 1) := by decide +kernel
theorem dX8_readNumber_86 : decode cX8_readNumber 86 = .ok (.istore 7, 2) := by decide +kernel
theorem dX8_readNumber_88 : decode cX8_readNumber 88 = .ok (.iload 7, 2) := by decide +kernel
theorem dX8_readNumber_90 : decode cX8_readNumber 90 = .ok (.ifCond .eq 11, 3) := by decide +kernel
theorem dX8_readNumber_93 : decode cX8_readNumber 93 = .ok (.iload 5, 2) := by decide +kernel
theorem dX8_readNumber_95 : decode cX8_readNumber 95 = .ok (.bipush 10, 2) := by decide +kernel
theorem dX8_readNumber_97 : decode cX8_readNumber 97 = .ok (.imul, 1) := by decide +kernel
theorem dX8_readNumber_98 : decode cX8_readNumber 98 = .ok (.goto 5, 3) := by decide +kernel
theorem dX8_readNumber_101 : decode cX8_readNumber 101 = .ok (.iload 5, 2) := by decide +kernel
theorem dX8_readNumber_103 : decode cX8_readNumber 103 = .ok (.istore 8, 2) := by decide +kernel
theorem dX8_readNumber_105 : decode cX8_readNumber 105 = .ok (.iload 7, 2) := by decide +kernel
theorem dX8_readNumber_107 : decode cX8_readNumber 107 = .ok (.ifCond .eq 11, 3) := by decide +kernel
theorem dX8_readNumber_110 : decode cX8_readNumber 110 = .ok (.iload 8, 2) := by decide +kernel
theorem dX8_readNumber_112 : decode cX8_readNumber 112 = .ok (.bipush 9, 2) := by decide +kernel
theorem dX8_readNumber_114 : decode cX8_readNumber 114 = .ok (.iadd, 1) := by decide +kernel
theorem dX8_readNumber_115 : decode cX8_readNumber 115 = .ok (.goto 5, 3) := by decide +kernel
theorem dX8_readNumber_118 : decode cX8_readNumber 118 = .ok (.iload 5, 2) := by decide +kernel
theorem dX8_readNumber_120 : decode cX8_readNumber 120 = .ok (.istore 9, 2) := by decide +kernel
theorem dX8_readNumber_122 : decode cX8_readNumber 122 = .ok (.iload 9, 2) := by decide +kernel
theorem dX8_readNumber_124 : decode cX8_readNumber 124 = .ok (.iload_n 3, 1) := by decide +kernel
theorem dX8_readNumber_125 : decode cX8_readNumber 125 = .ok (.if_icmp .lt 10, 3) := by decide +kernel
theorem dX8_readNumber_128 : decode cX8_readNumber 128 = .ok (.iload 8, 2) := by decide +kernel
theorem dX8_readNumber_130 : decode cX8_readNumber 130 = .ok (.iload 4, 2) := by decide +kernel
theorem dX8_readNumber_132 : decode cX8_readNumber 132 = .ok (.if_icmp .le 5, 3) := by decide +kernel
theorem dX8_readNumber_135 : decode cX8_readNumber 135 = .ok (.iconst 0, 1) := by decide +kernel
theorem dX8_readNumber_136 : decode cX8_readNumber 136 = .ok (.ireturn, 1) := by decide +kernel
theorem dX8_readNumber_137 : decode cX8_readNumber 137 = .ok (.aload_n 0, 1) := by decide +kernel
theorem dX8_readNumber_138 : decode cX8_readNumber 138 = .ok (.dup, 1) := by decide +kernel
theorem dX8_readNumber_139 : decode cX8_readNumber 139 = .ok (.getfield 27, 3) := by decide +kernel
theorem dX8_readNumber_142 : decode cX8_readNumber 142 = .ok (.iconst 1, 1) := by decide +kernel
theorem dX8_readNumber_143 : decode cX8_readNumber 143 = .ok (.iadd, 1) := by decide +kernel
theorem dX8_readNumber_144 : decode cX8_readNumber 144 = .ok (.putfield 27, 3) := by decide +kernel
theorem dX8_readNumber_147 : decode cX8_readNumber 147 = .ok (.iinc 6 1, 3) := by decide +kernel
theorem dX8_readNumber_150 : decode cX8_readNumber 150 = .ok (.goto (-144), 3) := by decide +kernel
theorem dX8_readNumber_153 : decode cX8_readNumber 153 = .ok (.aload_n 0, 1) := by decide +kernel
theorem dX8_readNumber_154 : decode cX8_readNumber 154 = .ok (.getfield 15, 3) := by decide +kernel
theorem dX8_readNumber_157 : decode cX8_readNumber 157 = .ok (.iload_n 1, 1) := by decide +kernel
theorem dX8_readNumber_158 : decode cX8_readNumber 158 = .ok (.iload 5, 2) := by decide +kernel
theorem dX8_readNumber_160 : decode cX8_readNumber 160 = .ok (.iastore, 1) := by decide +kernel
theorem dX8_readNumber_161 : decode cX8_readNumber 161 = .ok (.iconst 1, 1) := by decide +kernel
theorem dX8_readNumber_162 : decode cX8_readNumber 162 = .ok (.ireturn, 1) := by decide +kernel
def bX8_readNumber_0 (w : ab_W) (M : Nat → ab_P) (Kn : Option Value → ab_H → Prop) : ab_P := ab_ci (nI 0) (ab_ist 5 (ab_ci (nI 0) (ab_ist 6 (M 6))))
def bX8_readNumber_6 (w : ab_W) (M : Nat → ab_P) (Kn : Option Value → ab_H → Prop) : ab_P := ab_ild 6 (ab_ild 2 (ab_if2 (fun x y => y ≤ x) (ab_ald 0 (ab_gr w 8 2 (ab_ild 1 (ab_ild 5 (ab_is w (ab_ci (nI 1) (ab_zr Kn))))))) (ab_ald 0 (ab_gf w 8 2 (ab_ald 0 (ab_gf w 8 1 (ab_if2 (fun x y => y ≤ x) (M 51) (ab_ald 0 (ab_gr w 8 1 (ab_ald 0 (ab_gf w 8 2 (ab_ia w 12 (ab_ci (nI 48) (ab_if2 (fun x y => x < y) (M 51) (ab_ald 0 (ab_gr w 8 1 (ab_ald 0 (ab_gf w 8 2 (ab_ia w 12 (ab_ci (nI 57) (ab_if2 (fun x y => x ≤ y) (ab_ild 5 (ab_ci (nI 10) (ab_b2 (fun x y => x * y) (ab_ald 0 (ab_gr w 8 1 (ab_ald 0 (ab_gf w 8 2 (ab_ia w 12 (ab_b2 (fun x y => x + y) (ab_ci (nI 48) (ab_b2 (fun x y => x - y) (ab_ist 5 (ab_ild 6 (ab_ci (nI 1) (ab_b2 (fun x y => x + y) (ab_ild 2 (ab_if2 (fun x y => y ≤ x) (ab_ci (nI 0) (M 86)) (ab_ci (nI 1) (M 86))))))))))))))))))) (M 51))))))))))))))))))))))
def bX8_readNumber_51 (w : ab_W) (M : Nat → ab_P) (Kn : Option Value → ab_H → Prop) : ab_P := ab_ci (nI 0) (ab_zr Kn)
def bX8_readNumber_86 (w : ab_W) (M : Nat → ab_P) (Kn : Option Value → ab_H → Prop) : ab_P := ab_ist 7 (ab_ild 7 (ab_if1 (fun x => x = 0) (ab_ild 5 (M 103)) (ab_ild 5 (ab_ci (nI 10) (ab_b2 (fun x y => x * y) (M 103))))))
def bX8_readNumber_103 (w : ab_W) (M : Nat → ab_P) (Kn : Option Value → ab_H → Prop) : ab_P := ab_ist 8 (ab_ild 7 (ab_if1 (fun x => x = 0) (ab_ild 5 (M 120)) (ab_ild 8 (ab_ci (nI 9) (ab_b2 (fun x y => x + y) (M 120))))))
def bX8_readNumber_120 (w : ab_W) (M : Nat → ab_P) (Kn : Option Value → ab_H → Prop) : ab_P := ab_ist 9 (ab_ild 9 (ab_ild 3 (ab_if2 (fun x y => x < y) (M 135) (ab_ild 8 (ab_ild 4 (ab_if2 (fun x y => x ≤ y) (ab_ald 0 (ab_dup (ab_gf w 8 2 (ab_ci (nI 1) (ab_b2 (fun x y => x + y) (ab_pf w 8 2 (ab_inc 6 (nI 1) (M 6)))))))) (M 135)))))))
def bX8_readNumber_135 (w : ab_W) (M : Nat → ab_P) (Kn : Option Value → ab_H → Prop) : ab_P := ab_ci (nI 0) (ab_zr Kn)
set_option maxRecDepth 20000 in
set_option maxHeartbeats 2000000 in
theorem vc_X8_readNumber {l : Launch} (hl : l.stackTraces = false) {w : ab_W} (hI : ab_Inj w) {mc : Nat} {σ : ab_H} {As : List Value} {Kn : Option Value → ab_H → Prop} {Kx : String → ab_H → Prop} (hlen : (ab_xl As).length ≤ 10) (h : ∀ M : Nat → ab_P, (∀ L st σ, bX8_readNumber_0 w M Kn L st σ → M 0 L st σ) → (∀ L st σ, bX8_readNumber_6 w M Kn L st σ → M 6 L st σ) → (∀ L st σ, bX8_readNumber_51 w M Kn L st σ → M 51 L st σ) → (∀ L st σ, bX8_readNumber_86 w M Kn L st σ → M 86 L st σ) → (∀ L st σ, bX8_readNumber_103 w M Kn L st σ → M 103 L st σ) → (∀ L st σ, bX8_readNumber_120 w M Kn L st σ → M 120 L st σ) → (∀ L st σ, bX8_readNumber_135 w M Kn L st σ → M 135 L st σ) → M 0 (ab_pd 10 (ab_xl As)) [] σ) : ab_Met l yX8_readNumber (Cond.code yX8_readNumber cX8_readNumber 10 (some .boolean)) 1 mc w σ As Kn Kx := by
  refine ab_enter (by decide) hl hI hlen (by decide) ?_
  intro p e R s m args below meth c C hno hr
  exact h _ (sd_iconst C (x := nI 0) dX8_readNumber_0 (by decide +kernel) (sd_istore C dX8_readNumber_1 (by decide) (sd_iconst C (x := nI 0) dX8_readNumber_3 (by decide +kernel) (sd_istore C dX8_readNumber_4 (by decide) (fun _ _ _ h => h)))))
    (sd_iload C dX8_readNumber_6 (sd_iload_n C (i := 2) dX8_readNumber_8 rfl (sd_icmp_ge C dX8_readNumber_9 (tgt := 153) (by decide) (sd_aload_n C (i := 0) dX8_readNumber_153 rfl (sd_gr C (ci := 8) (k := 4) (r := (RX8, TX8, 5)) rfl (by decide) rfl wd_39 dX8_readNumber_154 (sd_iload_n C (i := 1) dX8_readNumber_157 rfl (sd_iload C dX8_readNumber_158 (sd_is C dX8_readNumber_160 (sd_iconst C (x := nI 1) dX8_readNumber_161 (by decide +kernel) (sd_zr C hr dX8_readNumber_162))))))) (sd_aload_n C (i := 0) dX8_readNumber_12 rfl (sd_gf C (ci := 8) (k := 2) (r := (RX8, TX8, 5)) rfl (by decide) rfl wd_36 dX8_readNumber_13 (sd_aload_n C (i := 0) dX8_readNumber_16 rfl (sd_gf C (ci := 8) (k := 1) (r := (RX8, TX8, 5)) rfl (by decide) rfl wd_34 dX8_readNumber_17 (sd_icmp_ge C dX8_readNumber_20 (tgt := 51) (by decide) (fun _ _ _ h => h) (sd_aload_n C (i := 0) dX8_readNumber_23 rfl (sd_gr C (ci := 8) (k := 0) (r := (RX8, TX8, 5)) rfl (by decide) rfl wd_33 dX8_readNumber_24 (sd_aload_n C (i := 0) dX8_readNumber_27 rfl (sd_gf C (ci := 8) (k := 2) (r := (RX8, TX8, 5)) rfl (by decide) rfl wd_36 dX8_readNumber_28 (sd_ca C dX8_readNumber_31 (sd_bipush C (x := nI 48) dX8_readNumber_32 (by decide +kernel) (sd_icmp_lt C dX8_readNumber_34 (tgt := 51) (by decide) (fun _ _ _ h => h) (sd_aload_n C (i := 0) dX8_readNumber_37 rfl (sd_gr C (ci := 8) (k := 0) (r := (RX8, TX8, 5)) rfl (by decide) rfl wd_33 dX8_readNumber_38 (sd_aload_n C (i := 0) dX8_readNumber_41 rfl (sd_gf C (ci := 8) (k := 2) (r := (RX8, TX8, 5)) rfl (by decide) rfl wd_36 dX8_readNumber_42 (sd_ca C dX8_readNumber_45 (sd_bipush C (x := nI 57) dX8_readNumber_46 (by decide +kernel) (sd_icmp_le C dX8_readNumber_48 (tgt := 53) (by decide) (sd_iload C dX8_readNumber_53 (sd_bipush C (x := nI 10) dX8_readNumber_55 (by decide +kernel) (sd_imul C dX8_readNumber_57 (sd_aload_n C (i := 0) dX8_readNumber_58 rfl (sd_gr C (ci := 8) (k := 0) (r := (RX8, TX8, 5)) rfl (by decide) rfl wd_33 dX8_readNumber_59 (sd_aload_n C (i := 0) dX8_readNumber_62 rfl (sd_gf C (ci := 8) (k := 2) (r := (RX8, TX8, 5)) rfl (by decide) rfl wd_36 dX8_readNumber_63 (sd_ca C dX8_readNumber_66 (sd_iadd C dX8_readNumber_67 (sd_bipush C (x := nI 48) dX8_readNumber_68 (by decide +kernel) (sd_isub C dX8_readNumber_70 (sd_istore C dX8_readNumber_71 (by decide) (sd_iload C dX8_readNumber_73 (sd_iconst C (x := nI 1) dX8_readNumber_75 (by decide +kernel) (sd_iadd C dX8_readNumber_76 (sd_iload_n C (i := 2) dX8_readNumber_77 rfl (sd_icmp_ge C dX8_readNumber_78 (tgt := 85) (by decide) (sd_iconst C (x := nI 0) dX8_readNumber_85 (by decide +kernel) (fun _ _ _ h => h)) (sd_iconst C (x := nI 1) dX8_readNumber_81 (by decide +kernel) (sd_goto C dX8_readNumber_82 (tgt := 86) (by decide) (fun _ _ _ h => h)))))))))))))))))))) (fun _ _ _ h => h)))))))))))))))))))))))
    (sd_iconst C (x := nI 0) dX8_readNumber_51 (by decide +kernel) (sd_zr C hr dX8_readNumber_52))
    (sd_istore C dX8_readNumber_86 (by decide) (sd_iload C dX8_readNumber_88 (sd_if_eq C dX8_readNumber_90 (tgt := 101) (by decide) (sd_iload C dX8_readNumber_101 (fun _ _ _ h => h)) (sd_iload C dX8_readNumber_93 (sd_bipush C (x := nI 10) dX8_readNumber_95 (by decide +kernel) (sd_imul C dX8_readNumber_97 (sd_goto C dX8_readNumber_98 (tgt := 103) (by decide) (fun _ _ _ h => h))))))))
    (sd_istore C dX8_readNumber_103 (by decide) (sd_iload C dX8_readNumber_105 (sd_if_eq C dX8_readNumber_107 (tgt := 118) (by decide) (sd_iload C dX8_readNumber_118 (fun _ _ _ h => h)) (sd_iload C dX8_readNumber_110 (sd_bipush C (x := nI 9) dX8_readNumber_112 (by decide +kernel) (sd_iadd C dX8_readNumber_114 (sd_goto C dX8_readNumber_115 (tgt := 120) (by decide) (fun _ _ _ h => h))))))))
    (sd_istore C dX8_readNumber_120 (by decide) (sd_iload C dX8_readNumber_122 (sd_iload_n C (i := 3) dX8_readNumber_124 rfl (sd_icmp_lt C dX8_readNumber_125 (tgt := 135) (by decide) (fun _ _ _ h => h) (sd_iload C dX8_readNumber_128 (sd_iload C dX8_readNumber_130 (sd_icmp_le C dX8_readNumber_132 (tgt := 137) (by decide) (sd_aload_n C (i := 0) dX8_readNumber_137 rfl (sd_dup C dX8_readNumber_138 (sd_gf C (ci := 8) (k := 2) (r := (RX8, TX8, 5)) rfl (by decide) rfl wd_36 dX8_readNumber_139 (sd_iconst C (x := nI 1) dX8_readNumber_142 (by decide +kernel) (sd_iadd C dX8_readNumber_143 (sd_pf C (ci := 8) (k := 2) (r := (RX8, TX8, 5)) rfl (by decide) rfl rfl (by decide +kernel) wd_36 dX8_readNumber_144 (sd_iinc C (x := nI 1) dX8_readNumber_147 (by decide +kernel) (by decide) (sd_goto C dX8_readNumber_150 (tgt := 6) (by decide) (fun _ _ _ h => h))))))))) (fun _ _ _ h => h))))))))
    (sd_iconst C (x := nI 0) dX8_readNumber_135 (by decide +kernel) (sd_zr C hr dX8_readNumber_136))
theorem dX8_readPlusOrMinus_0 : decode cX8_readPlusOrMinus 0 = .ok (.aload_n 0, 1) := by decide +kernel
theorem dX8_readPlusOrMinus_1 : decode cX8_readPlusOrMinus 1 = .ok (.getfield 15, 3) := by decide +kernel
theorem dX8_readPlusOrMinus_4 : decode cX8_readPlusOrMinus 4 = .ok (.iload_n 1, 1) := by decide +kernel
theorem dX8_readPlusOrMinus_5 : decode cX8_readPlusOrMinus 5 = .ok (.aload_n 0, 1) := by decide +kernel
theorem dX8_readPlusOrMinus_6 : decode cX8_readPlusOrMinus 6 = .ok (.getfield 27, 3) := by decide +kernel
theorem dX8_readPlusOrMinus_9 : decode cX8_readPlusOrMinus 9 = .ok (.aload_n 0, 1) := by decide +kernel
theorem dX8_readPlusOrMinus_10 : decode cX8_readPlusOrMinus 10 = .ok (.getfield 19, 3) := by decide +kernel
theorem dX8_readPlusOrMinus_13 : decode cX8_readPlusOrMinus 13 = .ok (.if_icmp .ge 21, 3) := by decide +kernel
theorem dX8_readPlusOrMinus_16 : decode cX8_readPlusOrMinus 16 = .ok (.aload_n 0, 1) := by decide +kernel
theorem dX8_readPlusOrMinus_17 : decode cX8_readPlusOrMinus 17 = .ok (.getfield 9, 3) := by decide +kernel
theorem dX8_readPlusOrMinus_20 : decode cX8_readPlusOrMinus 20 = .ok (.aload_n 0, 1) := by decide +kernel
theorem dX8_readPlusOrMinus_21 : decode cX8_readPlusOrMinus 21 = .ok (.getfield 27, 3) := by decide +kernel
theorem dX8_readPlusOrMinus_24 : decode cX8_readPlusOrMinus 24 = .ok (.caload, 1) := by decide +kernel
theorem dX8_readPlusOrMinus_25 : decode cX8_readPlusOrMinus 25 = .ok (.bipush 45, 2) := by decide +kernel
theorem dX8_readPlusOrMinus_27 : decode cX8_readPlusOrMinus 27 = .ok (.if_icmp .ne 7, 3) := by decide +kernel
theorem dX8_readPlusOrMinus_30 : decode cX8_readPlusOrMinus 30 = .ok (.iconst (-1), 1) := by decide +kernel
theorem dX8_readPlusOrMinus_31 : decode cX8_readPlusOrMinus 31 = .ok (.goto 4, 3) := by decide +kernel
theorem dX8_readPlusOrMinus_34 : decode cX8_readPlusOrMinus 34 = .ok (.iconst 1, 1) := by decide +kernel
theorem dX8_readPlusOrMinus_35 : decode cX8_readPlusOrMinus 35 = .ok (.iastore, 1) := by decide +kernel
theorem dX8_readPlusOrMinus_36 : decode cX8_readPlusOrMinus 36 = .ok (.aload_n 0, 1) := by decide +kernel
theorem dX8_readPlusOrMinus_37 : decode cX8_readPlusOrMinus 37 = .ok (.aload_n 0, 1) := by decide +kernel
theorem dX8_readPlusOrMinus_38 : decode cX8_readPlusOrMinus 38 = .ok (.getfield 15, 3) := by decide +kernel
theorem dX8_readPlusOrMinus_41 : decode cX8_readPlusOrMinus 41 = .ok (.iload_n 1, 1) := by decide +kernel
theorem dX8_readPlusOrMinus_42 : decode cX8_readPlusOrMinus 42 = .ok (.iaload, 1) := by decide +kernel
theorem dX8_readPlusOrMinus_43 : decode cX8_readPlusOrMinus 43 = .ok (.ifCond .ge 8, 3) := by decide +kernel
theorem dX8_readPlusOrMinus_46 : decode cX8_readPlusOrMinus 46 = .ok (.bipush 45, 2) := by decide +kernel
theorem dX8_readPlusOrMinus_48 : decode cX8_readPlusOrMinus 48 = .ok (.goto 5, 3) := by decide +kernel
theorem dX8_readPlusOrMinus_51 : decode cX8_readPlusOrMinus 51 = .ok (.bipush 43, 2) := by decide +kernel
theorem dX8_readPlusOrMinus_53 : decode cX8_readPlusOrMinus 53 = .ok (.invokevirtual 33, 3) := by decide +kernel
theorem dX8_readPlusOrMinus_56 : decode cX8_readPlusOrMinus 56 = .ok (.ireturn, 1) := by decide +kernel
def bX8_readPlusOrMinus_0 (w : ab_W) (s_X8_skip : ab_S) (M : Nat → ab_P) (Kn : Option Value → ab_H → Prop) : ab_P := ab_ald 0 (ab_gr w 8 2 (ab_ild 1 (ab_ald 0 (ab_gf w 8 2 (ab_ald 0 (ab_gf w 8 1 (ab_if2 (fun x y => y ≤ x) (M 34) (ab_ald 0 (ab_gr w 8 1 (ab_ald 0 (ab_gf w 8 2 (ab_ia w 12 (ab_ci (nI 45) (ab_if2 (fun x y => ¬ x = y) (M 34) (ab_ci (-1) (M 35))))))))))))))))
def bX8_readPlusOrMinus_34 (w : ab_W) (s_X8_skip : ab_S) (M : Nat → ab_P) (Kn : Option Value → ab_H → Prop) : ab_P := ab_ci (nI 1) (M 35)
def bX8_readPlusOrMinus_35 (w : ab_W) (s_X8_skip : ab_S) (M : Nat → ab_P) (Kn : Option Value → ab_H → Prop) : ab_P := ab_is w (ab_ald 0 (ab_ald 0 (ab_gr w 8 2 (ab_ild 1 (ab_ia w 11 (ab_if1 (fun x => 0 ≤ x) (ab_ci (nI 43) (M 53)) (ab_ci (nI 45) (M 53))))))))
def bX8_readPlusOrMinus_53 (w : ab_W) (s_X8_skip : ab_S) (M : Nat → ab_P) (Kn : Option Value → ab_H → Prop) : ab_P := ab_cV w 2 8 s_X8_skip (ab_zr Kn)
set_option maxRecDepth 20000 in
set_option maxHeartbeats 2000000 in
theorem vc_X8_readPlusOrMinus {l : Launch} (hl : l.stackTraces = false) {w : ab_W} (hI : ab_Inj w) {mc : Nat} {σ : ab_H} {As : List Value} {Kn : Option Value → ab_H → Prop} {Kx : String → ab_H → Prop} {s_X8_skip : ab_S} (ok_X8_skip : ab_OkN l yX8_skip (Cond.code yX8_skip cX8_skip 2 (some .boolean)) 1 s_X8_skip) (hlen : (ab_xl As).length ≤ 2) (h : ∀ M : Nat → ab_P, (∀ L st σ, bX8_readPlusOrMinus_0 w s_X8_skip M Kn L st σ → M 0 L st σ) → (∀ L st σ, bX8_readPlusOrMinus_34 w s_X8_skip M Kn L st σ → M 34 L st σ) → (∀ L st σ, bX8_readPlusOrMinus_35 w s_X8_skip M Kn L st σ → M 35 L st σ) → (∀ L st σ, bX8_readPlusOrMinus_53 w s_X8_skip M Kn L st σ → M 53 L st σ) → M 0 (ab_pd 2 (ab_xl As)) [] σ) : ab_Met l yX8_readPlusOrMinus (Cond.code yX8_readPlusOrMinus cX8_readPlusOrMinus 2 (some .boolean)) 2 mc w σ As Kn Kx := by
  refine ab_enter (by decide) hl hI hlen (by decide) ?_
  intro p e R s m args below meth c C hno hr
  exact h _ (sd_aload_n C (i := 0) dX8_readPlusOrMinus_0 rfl (sd_gr C (ci := 8) (k := 4) (r := (RX8, TX8, 5)) rfl (by decide) rfl wd_39 dX8_readPlusOrMinus_1 (sd_iload_n C (i := 1) dX8_readPlusOrMinus_4 rfl (sd_aload_n C (i := 0) dX8_readPlusOrMinus_5 rfl (sd_gf C (ci := 8) (k := 2) (r := (RX8, TX8, 5)) rfl (by decide) rfl wd_36 dX8_readPlusOrMinus_6 (sd_aload_n C (i := 0) dX8_readPlusOrMinus_9 rfl (sd_gf C (ci := 8) (k := 1) (r := (RX8, TX8, 5)) rfl (by decide) rfl wd_34 dX8_readPlusOrMinus_10 (sd_icmp_ge C dX8_readPlusOrMinus_13 (tgt := 34) (by decide) (fun _ _ _ h => h) (sd_aload_n C (i := 0) dX8_readPlusOrMinus_16 rfl (sd_gr C (ci := 8) (k := 0) (r := (RX8, TX8, 5)) rfl (by decide) rfl wd_33 dX8_readPlusOrMinus_17 (sd_aload_n C (i := 0) dX8_readPlusOrMinus_20 rfl (sd_gf C (ci := 8) (k := 2) (r := (RX8, TX8, 5)) rfl (by decide) rfl wd_36 dX8_readPlusOrMinus_21 (sd_ca C dX8_readPlusOrMinus_24 (sd_bipush C (x := nI 45) dX8_readPlusOrMinus_25 (by decide +kernel) (sd_icmp_ne C dX8_readPlusOrMinus_27 (tgt := 34) (by decide) (fun _ _ _ h => h) (sd_iconst C (x := -1) dX8_readPlusOrMinus_30 (by decide +kernel) (sd_goto C dX8_readPlusOrMinus_31 (tgt := 35) (by decide) (fun _ _ _ h => h))))))))))))))))))
    (sd_iconst C (x := nI 1) dX8_readPlusOrMinus_34 (by decide +kernel) (fun _ _ _ h => h))
    (sd_is C dX8_readPlusOrMinus_35 (sd_aload_n C (i := 0) dX8_readPlusOrMinus_36 rfl (sd_aload_n C (i := 0) dX8_readPlusOrMinus_37 rfl (sd_gr C (ci := 8) (k := 4) (r := (RX8, TX8, 5)) rfl (by decide) rfl wd_39 dX8_readPlusOrMinus_38 (sd_iload_n C (i := 1) dX8_readPlusOrMinus_41 rfl (sd_ia C dX8_readPlusOrMinus_42 (sd_if_ge C dX8_readPlusOrMinus_43 (tgt := 51) (by decide) (sd_bipush C (x := nI 43) dX8_readPlusOrMinus_51 (by decide +kernel) (fun _ _ _ h => h)) (sd_bipush C (x := nI 45) dX8_readPlusOrMinus_46 (by decide +kernel) (sd_goto C dX8_readPlusOrMinus_48 (tgt := 53) (by decide) (fun _ _ _ h => h))))))))))
    (sd_cV C ok_X8_skip (ci := 8) (row := (RX8, TX8, 5)) rfl rfl ⟨by decide, by decide, wd_338, wd_2, by decide +kernel⟩ wd_335 wd_337 ws_0 dX8_readPlusOrMinus_53 (sd_zr C hr dX8_readPlusOrMinus_56))
theorem dX8_readCommand_0 : decode cX8_readCommand 0 = .ok (.aload_n 0, 1) := by decide +kernel
theorem dX8_readCommand_1 : decode cX8_readCommand 1 = .ok (.getfield 27, 3) := by decide +kernel
theorem dX8_readCommand_4 : decode cX8_readCommand 4 = .ok (.aload_n 0, 1) := by decide +kernel
theorem dX8_readCommand_5 : decode cX8_readCommand 5 = .ok (.getfield 19, 3) := by decide +kernel
theorem dX8_readCommand_8 : decode cX8_readCommand 8 = .ok (.if_icmp .lt 5, 3) := by decide +kernel
theorem dX8_readCommand_11 : decode cX8_readCommand 11 = .ok (.iconst 0, 1) := by decide +kernel
theorem dX8_readCommand_12 : decode cX8_readCommand 12 = .ok (.ireturn, 1) := by decide +kernel
theorem dX8_readCommand_13 : decode cX8_readCommand 13 = .ok (.aload_n 0, 1) := by decide +kernel
theorem dX8_readCommand_14 : decode cX8_readCommand 14 = .ok (.aload_n 0, 1) := by decide +kernel
theorem dX8_readCommand_15 : decode cX8_readCommand 15 = .ok (.getfield 9, 3) := by decide +kernel
theorem dX8_readCommand_18 : decode cX8_readCommand 18 = .ok (.aload_n 0, 1) := by decide +kernel
theorem dX8_readCommand_19 : decode cX8_readCommand 19 = .ok (.getfield 27, 3) := by decide +kernel
theorem dX8_readCommand_22 : decode cX8_readCommand 22 = .ok (.caload, 1) := by decide +kernel
theorem dX8_readCommand_23 : decode cX8_readCommand 23 = .ok (.putfield 37, 3) := by decide +kernel
theorem dX8_readCommand_26 : decode cX8_readCommand 26 = .ok (.aload_n 0, 1) := by decide +kernel
theorem dX8_readCommand_27 : decode cX8_readCommand 27 = .ok (.getfield 37, 3) := by decide +kernel
theorem dX8_readCommand_30 : decode cX8_readCommand 30 = .ok (.lookupswitch 308 #[(100, 227), (102, 126), (114, 279), (115, 50), (119, 179)], 50) := by decide +kernel
theorem dX8_readCommand_80 : decode cX8_readCommand 80 = .ok (.aload_n 0, 1) := by decide +kernel
theorem dX8_readCommand_81 : decode cX8_readCommand 81 = .ok (.aload_n 0, 1) := by decide +kernel
theorem dX8_readCommand_82 : decode cX8_readCommand 82 = .ok (.getfield 37, 3) := by decide +kernel
theorem dX8_readCommand_85 : decode cX8_readCommand 85 = .ok (.invokevirtual 33, 3) := by decide +kernel
theorem dX8_readCommand_88 : decode cX8_readCommand 88 = .ok (.ifCond .eq 66, 3) := by decide +kernel
theorem dX8_readCommand_91 : decode cX8_readCommand 91 = .ok (.aload_n 0, 1) := by decide +kernel
theorem dX8_readCommand_92 : decode cX8_readCommand 92 = .ok (.iconst 0, 1) := by decide +kernel
theorem dX8_readCommand_93 : decode cX8_readCommand 93 = .ok (.iconst 2, 1) := by decide +kernel
theorem dX8_readCommand_94 : decode cX8_readCommand 94 = .ok (.iconst 0, 1) := by decide +kernel
theorem dX8_readCommand_95 : decode cX8_readCommand 95 = .ok (.bipush 99, 2) := by decide +kernel
theorem dX8_readCommand_97 : decode cX8_readCommand 97 = .ok (.invokevirtual 41, 3) := by decide +kernel
theorem dX8_readCommand_100 : decode cX8_readCommand 100 = .ok (.ifCond .eq 54, 3) := by decide +kernel
theorem dX8_readCommand_103 : decode cX8_readCommand 103 = .ok (.aload_n 0, 1) := by decide +kernel
theorem dX8_readCommand_104 : decode cX8_readCommand 104 = .ok (.iconst 1, 1) := by decide +kernel
theorem dX8_readCommand_105 : decode cX8_readCommand 105 = .ok (.iconst 2, 1) := by decide +kernel
theorem dX8_readCommand_106 : decode cX8_readCommand 106 = .ok (.iconst 0, 1) := by decide +kernel
theorem dX8_readCommand_107 : decode cX8_readCommand 107 = .ok (.bipush 15, 2) := by decide +kernel
theorem dX8_readCommand_109 : decode cX8_readCommand 109 = .ok (.invokevirtual 41, 3) := by decide +kernel
theorem dX8_readCommand_112 : decode cX8_readCommand 112 = .ok (.ifCond .eq 42, 3) := by decide +kernel
theorem dX8_readCommand_115 : decode cX8_readCommand 115 = .ok (.aload_n 0, 1) := by decide +kernel
theorem dX8_readCommand_116 : decode cX8_readCommand 116 = .ok (.iconst 2, 1) := by decide +kernel
theorem dX8_readCommand_117 : decode cX8_readCommand 117 = .ok (.iconst 1, 1) := by decide +kernel
theorem dX8_readCommand_118 : decode cX8_readCommand 118 = .ok (.iconst 1, 1) := by decide +kernel
theorem dX8_readCommand_119 : decode cX8_readCommand 119 = .ok (.iconst 5, 1) := by decide +kernel
theorem dX8_readCommand_120 : decode cX8_readCommand 120 = .ok (.invokevirtual 41, 3) := by decide +kernel
theorem dX8_readCommand_123 : decode cX8_readCommand 123 = .ok (.ifCond .eq 31, 3) := by decide +kernel
theorem dX8_readCommand_126 : decode cX8_readCommand 126 = .ok (.aload_n 0, 1) := by decide +kernel
theorem dX8_readCommand_127 : decode cX8_readCommand 127 = .ok (.iconst 3, 1) := by decide +kernel
theorem dX8_readCommand_128 : decode cX8_readCommand 128 = .ok (.iconst 2, 1) := by decide +kernel
theorem dX8_readCommand_129 : decode cX8_readCommand 129 = .ok (.iconst 0, 1) := by decide +kernel
theorem dX8_readCommand_130 : decode cX8_readCommand 130 = .ok (.bipush 99, 2) := by decide +kernel
theorem dX8_readCommand_132 : decode cX8_readCommand 132 = .ok (.invokevirtual 41, 3) := by decide +kernel
theorem dX8_readCommand_135 : decode cX8_readCommand 135 = .ok (.ifCond .eq 19, 3) := by decide +kernel
theorem dX8_readCommand_138 : decode cX8_readCommand 138 = .ok (.aload_n 0, 1) := by decide +kernel
theorem dX8_readCommand_139 : decode cX8_readCommand 139 = .ok (.iconst 4, 1) := by decide +kernel
theorem dX8_readCommand_140 : decode cX8_readCommand 140 = .ok (.iconst 1, 1) := by decide +kernel
theorem dX8_readCommand_141 : decode cX8_readCommand 141 = .ok (.iconst 0, 1) := by decide +kernel
theorem dX8_readCommand_142 : decode cX8_readCommand 142 = .ok (.bipush 9, 2) := by decide +kernel
theorem dX8_readCommand_144 : decode cX8_readCommand 144 = .ok (.invokevirtual 41, 3) := by decide +kernel
theorem dX8_readCommand_147 : decode cX8_readCommand 147 = .ok (.ifCond .eq 7, 3) := by decide +kernel
theorem dX8_readCommand_150 : decode cX8_readCommand 150 = .ok (.iconst 1, 1) := by decide +kernel
theorem dX8_readCommand_151 : decode cX8_readCommand 151 = .ok (.goto 4, 3) := by decide +kernel
theorem dX8_readCommand_154 : decode cX8_readCommand 154 = .ok (.iconst 0, 1) := by decide +kernel
theorem dX8_readCommand_155 : decode cX8_readCommand 155 = .ok (.ireturn, 1) := by decide +kernel
theorem dX8_readCommand_156 : decode cX8_readCommand 156 = .ok (.aload_n 0, 1) := by decide +kernel
theorem dX8_readCommand_157 : decode cX8_readCommand 157 = .ok (.aload_n 0, 1) := by decide +kernel
theorem dX8_readCommand_158 : decode cX8_readCommand 158 = .ok (.getfield 37, 3) := by decide +kernel
theorem dX8_readCommand_161 : decode cX8_readCommand 161 = .ok (.invokevirtual 33, 3) := by decide +kernel
theorem dX8_readCommand_164 : decode cX8_readCommand 164 = .ok (.ifCond .eq 43, 3) := by decide +kernel
theorem dX8_readCommand_167 : decode cX8_readCommand 167 = .ok (.aload_n 0, 1) := by decide +kernel
theorem dX8_readCommand_168 : decode cX8_readCommand 168 = .ok (.iconst 0, 1) := by decide +kernel
theorem dX8_readCommand_169 : decode cX8_readCommand 169 = .ok (.iconst 2, 1) := by decide +kernel
theorem dX8_readCommand_170 : decode cX8_readCommand 170 = .ok (.iconst 0, 1) := by decide +kernel
theorem dX8_readCommand_171 : decode cX8_readCommand 171 = .ok (.bipush 99, 2) := by decide +kernel
theorem dX8_readCommand_173 : decode cX8_readCommand 173 = .ok (.invokevirtual 41, 3) := by decide +kernel
theorem dX8_readCommand_176 : decode cX8_readCommand 176 = .ok (.ifCond .eq 31, 3) := by decide +kernel
theorem dX8_readCommand_179 : decode cX8_readCommand 179 = .ok (.aload_n 0, 1) := by decide +kernel
theorem dX8_readCommand_180 : decode cX8_readCommand 180 = .ok (.iconst 1, 1) := by decide +kernel
theorem dX8_readCommand_181 : decode cX8_readCommand 181 = .ok (.iconst 2, 1) := by decide +kernel
theorem dX8_readCommand_182 : decode cX8_readCommand 182 = .ok (.iconst 0, 1) := by decide +kernel
theorem dX8_readCommand_183 : decode cX8_readCommand 183 = .ok (.bipush 20, 2) := by decide +kernel
theorem dX8_readCommand_185 : decode cX8_readCommand 185 = .ok (.invokevirtual 41, 3) := by decide +kernel
theorem dX8_readCommand_188 : decode cX8_readCommand 188 = .ok (.ifCond .eq 19, 3) := by decide +kernel
theorem dX8_readCommand_191 : decode cX8_readCommand 191 = .ok (.aload_n 0, 1) := by decide +kernel
theorem dX8_readCommand_192 : decode cX8_readCommand 192 = .ok (.iconst 2, 1) := by decide +kernel
theorem dX8_readCommand_193 : decode cX8_readCommand 193 = .ok (.iconst 2, 1) := by decide +kernel
theorem dX8_readCommand_194 : decode cX8_readCommand 194 = .ok (.iconst 1, 1) := by decide +kernel
theorem dX8_readCommand_195 : decode cX8_readCommand 195 = .ok (.bipush 30, 2) := by decide +kernel
theorem dX8_readCommand_197 : decode cX8_readCommand 197 = .ok (.invokevirtual 41, 3) := by decide +kernel
theorem dX8_readCommand_200 : decode cX8_readCommand 200 = .ok (.ifCond .eq 7, 3) := by decide +kernel
theorem dX8_readCommand_203 : decode cX8_readCommand 203 = .ok (.iconst 1, 1) := by decide +kernel
theorem dX8_readCommand_204 : decode cX8_readCommand 204 = .ok (.goto 4, 3) := by decide +kernel
theorem dX8_readCommand_207 : decode cX8_readCommand 207 = .ok (.iconst 0, 1) := by decide +kernel
theorem dX8_readCommand_208 : decode cX8_readCommand 208 = .ok (.ireturn, 1) := by decide +kernel
theorem dX8_readCommand_209 : decode cX8_readCommand 209 = .ok (.aload_n 0, 1) := by decide +kernel
theorem dX8_readCommand_210 : decode cX8_readCommand 210 = .ok (.aload_n 0, 1) := by decide +kernel
theorem dX8_readCommand_211 : decode cX8_readCommand 211 = .ok (.getfield 37, 3) := by decide +kernel
theorem dX8_readCommand_214 : decode cX8_readCommand 214 = .ok (.invokevirtual 33, 3) := by decide +kernel
theorem dX8_readCommand_217 : decode cX8_readCommand 217 = .ok (.ifCond .eq 38, 3) := by decide +kernel
theorem dX8_readCommand_220 : decode cX8_readCommand 220 = .ok (.aload_n 0, 1) := by decide +kernel
theorem dX8_readCommand_221 : decode cX8_readCommand 221 = .ok (.iconst 0, 1) := by decide +kernel
theorem dX8_readCommand_222 : decode cX8_readCommand 222 = .ok (.iconst 1, 1) := by decide +kernel
theorem dX8_readCommand_223 : decode cX8_readCommand 223 = .ok (.iconst 0, 1) := by decide +kernel
theorem dX8_readCommand_224 : decode cX8_readCommand 224 = .ok (.iconst 3, 1) := by decide +kernel
theorem dX8_readCommand_225 : decode cX8_readCommand 225 = .ok (.invokevirtual 41, 3) := by decide +kernel
theorem dX8_readCommand_228 : decode cX8_readCommand 228 = .ok (.ifCond .eq 27, 3) := by decide +kernel
theorem dX8_readCommand_231 : decode cX8_readCommand 231 = .ok (.aload_n 0, 1) := by decide +kernel
theorem dX8_readCommand_232 : decode cX8_readCommand 232 = .ok (.iconst 1, 1) := by decide +kernel
theorem dX8_readCommand_233 : decode cX8_readCommand 233 = .ok (.invokevirtual 45, 3) := by decide +kernel
theorem dX8_readCommand_236 : decode cX8_readCommand 236 = .ok (.ifCond .eq 19, 3) := by decide +kernel
theorem dX8_readCommand_239 : decode cX8_readCommand 239 = .ok (.aload_n 0, 1) := by decide +kernel
theorem dX8_readCommand_240 : decode cX8_readCommand 240 = .ok (.iconst 2, 1) := by decide +kernel
theorem dX8_readCommand_241 : decode cX8_readCommand 241 = .ok (.iconst 2, 1) := by decide +kernel
theorem dX8_readCommand_242 : decode cX8_readCommand 242 = .ok (.iconst 0, 1) := by decide +kernel
theorem dX8_readCommand_243 : decode cX8_readCommand 243 = .ok (.bipush 20, 2) := by decide +kernel
theorem dX8_readCommand_245 : decode cX8_readCommand 245 = .ok (.invokevirtual 41, 3) := by decide +kernel
theorem dX8_readCommand_248 : decode cX8_readCommand 248 = .ok (.ifCond .eq 7, 3) := by decide +kernel
theorem dX8_readCommand_251 : decode cX8_readCommand 251 = .ok (.iconst 1, 1) := by decide +kernel
theorem dX8_readCommand_252 : decode cX8_readCommand 252 = .ok (.goto 4, 3) := by decide +kernel
theorem dX8_readCommand_255 : decode cX8_readCommand 255 = .ok (.iconst 0, 1) := by decide +kernel
theorem dX8_readCommand_256 : decode cX8_readCommand 256 = .ok (.ireturn, 1) := by decide +kernel
theorem dX8_readCommand_257 : decode cX8_readCommand 257 = .ok (.aload_n 0, 1) := by decide +kernel
theorem dX8_readCommand_258 : decode cX8_readCommand 258 = .ok (.aload_n 0, 1) := by decide +kernel
theorem dX8_readCommand_259 : decode cX8_readCommand 259 = .ok (.getfield 37, 3) := by decide +kernel
theorem dX8_readCommand_262 : decode cX8_readCommand 262 = .ok (.invokevirtual 33, 3) := by decide +kernel
theorem dX8_readCommand_265 : decode cX8_readCommand 265 = .ok (.ifCond .eq 42, 3) := by decide +kernel
theorem dX8_readCommand_268 : decode cX8_readCommand 268 = .ok (.aload_n 0, 1) := by decide +kernel
theorem dX8_readCommand_269 : decode cX8_readCommand 269 = .ok (.iconst 0, 1) := by decide +kernel
theorem dX8_readCommand_270 : decode cX8_readCommand 270 = .ok (.iconst 1, 1) := by decide +kernel
theorem dX8_readCommand_271 : decode cX8_readCommand 271 = .ok (.iconst 0, 1) := by decide +kernel
theorem dX8_readCommand_272 : decode cX8_readCommand 272 = .ok (.iconst 4, 1) := by decide +kernel
theorem dX8_readCommand_273 : decode cX8_readCommand 273 = .ok (.invokevirtual 41, 3) := by decide +kernel
theorem dX8_readCommand_276 : decode cX8_readCommand 276 = .ok (.ifCond .eq 31, 3) := by decide +kernel
theorem dX8_readCommand_279 : decode cX8_readCommand 279 = .ok (.aload_n 0, 1) := by decide +kernel
theorem dX8_readCommand_280 : decode cX8_readCommand 280 = .ok (.iconst 1, 1) := by decide +kernel
theorem dX8_readCommand_281 : decode cX8_readCommand 281 = .ok (.iconst 2, 1) := by decide +kernel
theorem dX8_readCommand_282 : decode cX8_readCommand 282 = .ok (.iconst 0, 1) := by decide +kernel
theorem dX8_readCommand_283 : decode cX8_readCommand 283 = .ok (.bipush 99, 2) := by decide +kernel
theorem dX8_readCommand_285 : decode cX8_readCommand 285 = .ok (.invokevirtual 41, 3) := by decide +kernel
theorem dX8_readCommand_288 : decode cX8_readCommand 288 = .ok (.ifCond .eq 19, 3) := by decide +kernel
theorem dX8_readCommand_291 : decode cX8_readCommand 291 = .ok (.aload_n 0, 1) := by decide +kernel
theorem dX8_readCommand_292 : decode cX8_readCommand 292 = .ok (.iconst 2, 1) := by decide +kernel
theorem dX8_readCommand_293 : decode cX8_readCommand 293 = .ok (.iconst 1, 1) := by decide +kernel
theorem dX8_readCommand_294 : decode cX8_readCommand 294 = .ok (.iconst 0, 1) := by decide +kernel
theorem dX8_readCommand_295 : decode cX8_readCommand 295 = .ok (.bipush 9, 2) := by decide +kernel
theorem dX8_readCommand_297 : decode cX8_readCommand 297 = .ok (.invokevirtual 41, 3) := by decide +kernel
theorem dX8_readCommand_300 : decode cX8_readCommand 300 = .ok (.ifCond .eq 7, 3) := by decide +kernel
theorem dX8_readCommand_303 : decode cX8_readCommand 303 = .ok (.iconst 1, 1) := by decide +kernel
theorem dX8_readCommand_304 : decode cX8_readCommand 304 = .ok (.goto 4, 3) := by decide +kernel
theorem dX8_readCommand_307 : decode cX8_readCommand 307 = .ok (.iconst 0, 1) := by decide +kernel
theorem dX8_readCommand_308 : decode cX8_readCommand 308 = .ok (.ireturn, 1) := by decide +kernel
theorem dX8_readCommand_309 : decode cX8_readCommand 309 = .ok (.aload_n 0, 1) := by decide +kernel
theorem dX8_readCommand_310 : decode cX8_readCommand 310 = .ok (.aload_n 0, 1) := by decide +kernel
theorem dX8_readCommand_311 : decode cX8_readCommand 311 = .ok (.getfield 37, 3) := by decide +kernel
theorem dX8_readCommand_314 : decode cX8_readCommand 314 = .ok (.invokevirtual 33, 3) := by decide +kernel
theorem dX8_readCommand_317 : decode cX8_readCommand 317 = .ok (.ifCond .eq 19, 3) := by decide +kernel
theorem dX8_readCommand_320 : decode cX8_readCommand 320 = .ok (.aload_n 0, 1) := by decide +kernel
theorem dX8_readCommand_321 : decode cX8_readCommand 321 = .ok (.iconst 0, 1) := by decide +kernel
theorem dX8_readCommand_322 : decode cX8_readCommand 322 = .ok (.iconst 1, 1) := by decide +kernel
theorem dX8_readCommand_323 : decode cX8_readCommand 323 = .ok (.iconst 1, 1) := by decide +kernel
theorem dX8_readCommand_324 : decode cX8_readCommand 324 = .ok (.bipush 9, 2) := by decide +kernel
theorem dX8_readCommand_326 : decode cX8_readCommand 326 = .ok (.invokevirtual 41, 3) := by decide +kernel
theorem dX8_readCommand_329 : decode cX8_readCommand 329 = .ok (.ifCond .eq 7, 3) := by decide +kernel
theorem dX8_readCommand_332 : decode cX8_readCommand 332 = .ok (.iconst 1, 1) := by decide +kernel
theorem dX8_readCommand_333 : decode cX8_readCommand 333 = .ok (.goto 4, 3) := by decide +kernel
theorem dX8_readCommand_336 : decode cX8_readCommand 336 = .ok (.iconst 0, 1) := by decide +kernel
theorem dX8_readCommand_337 : decode cX8_readCommand 337 = .ok (.ireturn, 1) := by decide +kernel
theorem dX8_readCommand_338 : decode cX8_readCommand 338 = .ok (.iconst 0, 1) := by decide +kernel
theorem dX8_readCommand_339 : decode cX8_readCommand 339 = .ok (.ireturn, 1) := by decide +kernel
def bX8_readCommand_0 (w : ab_W) (s_X8_skip : ab_S) (s_X8_readNumber : ab_S) (s_X8_readPlusOrMinus : ab_S) (M : Nat → ab_P) (Kn : Option Value → ab_H → Prop) : ab_P := ab_ald 0 (ab_gf w 8 2 (ab_ald 0 (ab_gf w 8 1 (ab_if2 (fun x y => x < y) (ab_ald 0 (ab_ald 0 (ab_gr w 8 1 (ab_ald 0 (ab_gf w 8 2 (ab_ia w 12 (ab_pc w 8 3 (ab_ald 0 (ab_gf w 8 3 (ab_sw [(nI 100, ab_ald 0 (ab_ald 0 (ab_gf w 8 3 (ab_cV w 2 8 s_X8_skip (ab_if1 (fun x => x = 0) (M 307) (ab_ald 0 (ab_ci (nI 0) (ab_ci (nI 1) (ab_ci (nI 0) (ab_ci (nI 4) (ab_cV w 5 8 s_X8_readNumber (ab_if1 (fun x => x = 0) (M 307) (ab_ald 0 (ab_ci (nI 1) (ab_ci (nI 2) (ab_ci (nI 0) (ab_ci (nI 99) (ab_cV w 5 8 s_X8_readNumber (ab_if1 (fun x => x = 0) (M 307) (ab_ald 0 (ab_ci (nI 2) (ab_ci (nI 1) (ab_ci (nI 0) (ab_ci (nI 9) (ab_cV w 5 8 s_X8_readNumber (ab_if1 (fun x => x = 0) (M 307) (ab_ci (nI 1) (M 308)))))))))))))))))))))))))))), (nI 102, ab_ald 0 (ab_ald 0 (ab_gf w 8 3 (ab_cV w 2 8 s_X8_skip (ab_if1 (fun x => x = 0) (M 207) (ab_ald 0 (ab_ci (nI 0) (ab_ci (nI 2) (ab_ci (nI 0) (ab_ci (nI 99) (ab_cV w 5 8 s_X8_readNumber (ab_if1 (fun x => x = 0) (M 207) (ab_ald 0 (ab_ci (nI 1) (ab_ci (nI 2) (ab_ci (nI 0) (ab_ci (nI 20) (ab_cV w 5 8 s_X8_readNumber (ab_if1 (fun x => x = 0) (M 207) (ab_ald 0 (ab_ci (nI 2) (ab_ci (nI 2) (ab_ci (nI 1) (ab_ci (nI 30) (ab_cV w 5 8 s_X8_readNumber (ab_if1 (fun x => x = 0) (M 207) (ab_ci (nI 1) (M 208)))))))))))))))))))))))))))), (nI 114, ab_ald 0 (ab_ald 0 (ab_gf w 8 3 (ab_cV w 2 8 s_X8_skip (ab_if1 (fun x => x = 0) (M 336) (ab_ald 0 (ab_ci (nI 0) (ab_ci (nI 1) (ab_ci (nI 1) (ab_ci (nI 9) (ab_cV w 5 8 s_X8_readNumber (ab_if1 (fun x => x = 0) (M 336) (ab_ci (nI 1) (M 337)))))))))))))), (nI 115, ab_ald 0 (ab_ald 0 (ab_gf w 8 3 (ab_cV w 2 8 s_X8_skip (ab_if1 (fun x => x = 0) (M 154) (ab_ald 0 (ab_ci (nI 0) (ab_ci (nI 2) (ab_ci (nI 0) (ab_ci (nI 99) (ab_cV w 5 8 s_X8_readNumber (ab_if1 (fun x => x = 0) (M 154) (ab_ald 0 (ab_ci (nI 1) (ab_ci (nI 2) (ab_ci (nI 0) (ab_ci (nI 15) (ab_cV w 5 8 s_X8_readNumber (ab_if1 (fun x => x = 0) (M 154) (ab_ald 0 (ab_ci (nI 2) (ab_ci (nI 1) (ab_ci (nI 1) (ab_ci (nI 5) (ab_cV w 5 8 s_X8_readNumber (ab_if1 (fun x => x = 0) (M 154) (ab_ald 0 (ab_ci (nI 3) (ab_ci (nI 2) (ab_ci (nI 0) (ab_ci (nI 99) (ab_cV w 5 8 s_X8_readNumber (ab_if1 (fun x => x = 0) (M 154) (ab_ald 0 (ab_ci (nI 4) (ab_ci (nI 1) (ab_ci (nI 0) (ab_ci (nI 9) (ab_cV w 5 8 s_X8_readNumber (ab_if1 (fun x => x = 0) (M 154) (ab_ci (nI 1) (M 155)))))))))))))))))))))))))))))))))))))))))), (nI 119, ab_ald 0 (ab_ald 0 (ab_gf w 8 3 (ab_cV w 2 8 s_X8_skip (ab_if1 (fun x => x = 0) (M 255) (ab_ald 0 (ab_ci (nI 0) (ab_ci (nI 1) (ab_ci (nI 0) (ab_ci (nI 3) (ab_cV w 5 8 s_X8_readNumber (ab_if1 (fun x => x = 0) (M 255) (ab_ald 0 (ab_ci (nI 1) (ab_cV w 2 8 s_X8_readPlusOrMinus (ab_if1 (fun x => x = 0) (M 255) (ab_ald 0 (ab_ci (nI 2) (ab_ci (nI 2) (ab_ci (nI 0) (ab_ci (nI 20) (ab_cV w 5 8 s_X8_readNumber (ab_if1 (fun x => x = 0) (M 255) (ab_ci (nI 1) (M 256)))))))))))))))))))))))))] (ab_ci (nI 0) (ab_zr Kn)))))))))))) (ab_ci (nI 0) (ab_zr Kn))))))
def bX8_readCommand_154 (w : ab_W) (s_X8_skip : ab_S) (s_X8_readNumber : ab_S) (s_X8_readPlusOrMinus : ab_S) (M : Nat → ab_P) (Kn : Option Value → ab_H → Prop) : ab_P := ab_ci (nI 0) (M 155)
def bX8_readCommand_155 (w : ab_W) (s_X8_skip : ab_S) (s_X8_readNumber : ab_S) (s_X8_readPlusOrMinus : ab_S) (M : Nat → ab_P) (Kn : Option Value → ab_H → Prop) : ab_P := ab_zr Kn
def bX8_readCommand_207 (w : ab_W) (s_X8_skip : ab_S) (s_X8_readNumber : ab_S) (s_X8_readPlusOrMinus : ab_S) (M : Nat → ab_P) (Kn : Option Value → ab_H → Prop) : ab_P := ab_ci (nI 0) (M 208)
def bX8_readCommand_208 (w : ab_W) (s_X8_skip : ab_S) (s_X8_readNumber : ab_S) (s_X8_readPlusOrMinus : ab_S) (M : Nat → ab_P) (Kn : Option Value → ab_H → Prop) : ab_P := ab_zr Kn
def bX8_readCommand_255 (w : ab_W) (s_X8_skip : ab_S) (s_X8_readNumber : ab_S) (s_X8_readPlusOrMinus : ab_S) (M : Nat → ab_P) (Kn : Option Value → ab_H → Prop) : ab_P := ab_ci (nI 0) (M 256)
def bX8_readCommand_256 (w : ab_W) (s_X8_skip : ab_S) (s_X8_readNumber : ab_S) (s_X8_readPlusOrMinus : ab_S) (M : Nat → ab_P) (Kn : Option Value → ab_H → Prop) : ab_P := ab_zr Kn
def bX8_readCommand_307 (w : ab_W) (s_X8_skip : ab_S) (s_X8_readNumber : ab_S) (s_X8_readPlusOrMinus : ab_S) (M : Nat → ab_P) (Kn : Option Value → ab_H → Prop) : ab_P := ab_ci (nI 0) (M 308)
def bX8_readCommand_308 (w : ab_W) (s_X8_skip : ab_S) (s_X8_readNumber : ab_S) (s_X8_readPlusOrMinus : ab_S) (M : Nat → ab_P) (Kn : Option Value → ab_H → Prop) : ab_P := ab_zr Kn
def bX8_readCommand_336 (w : ab_W) (s_X8_skip : ab_S) (s_X8_readNumber : ab_S) (s_X8_readPlusOrMinus : ab_S) (M : Nat → ab_P) (Kn : Option Value → ab_H → Prop) : ab_P := ab_ci (nI 0) (M 337)
def bX8_readCommand_337 (w : ab_W) (s_X8_skip : ab_S) (s_X8_readNumber : ab_S) (s_X8_readPlusOrMinus : ab_S) (M : Nat → ab_P) (Kn : Option Value → ab_H → Prop) : ab_P := ab_zr Kn
set_option maxRecDepth 20000 in
set_option maxHeartbeats 2000000 in
theorem vc_X8_readCommand {l : Launch} (hl : l.stackTraces = false) {w : ab_W} (hI : ab_Inj w) {mc : Nat} {σ : ab_H} {As : List Value} {Kn : Option Value → ab_H → Prop} {Kx : String → ab_H → Prop} {s_X8_skip : ab_S} (ok_X8_skip : ab_OkN l yX8_skip (Cond.code yX8_skip cX8_skip 2 (some .boolean)) 1 s_X8_skip) {s_X8_readNumber : ab_S} (ok_X8_readNumber : ab_OkN l yX8_readNumber (Cond.code yX8_readNumber cX8_readNumber 10 (some .boolean)) 1 s_X8_readNumber) {s_X8_readPlusOrMinus : ab_S} (ok_X8_readPlusOrMinus : ab_OkN l yX8_readPlusOrMinus (Cond.code yX8_readPlusOrMinus cX8_readPlusOrMinus 2 (some .boolean)) 2 s_X8_readPlusOrMinus) (hlen : (ab_xl As).length ≤ 1) (h : ∀ M : Nat → ab_P, (∀ L st σ, bX8_readCommand_0 w s_X8_skip s_X8_readNumber s_X8_readPlusOrMinus M Kn L st σ → M 0 L st σ) → (∀ L st σ, bX8_readCommand_154 w s_X8_skip s_X8_readNumber s_X8_readPlusOrMinus M Kn L st σ → M 154 L st σ) → (∀ L st σ, bX8_readCommand_155 w s_X8_skip s_X8_readNumber s_X8_readPlusOrMinus M Kn L st σ → M 155 L st σ) → (∀ L st σ, bX8_readCommand_207 w s_X8_skip s_X8_readNumber s_X8_readPlusOrMinus M Kn L st σ → M 207 L st σ) → (∀ L st σ, bX8_readCommand_208 w s_X8_skip s_X8_readNumber s_X8_readPlusOrMinus M Kn L st σ → M 208 L st σ) → (∀ L st σ, bX8_readCommand_255 w s_X8_skip s_X8_readNumber s_X8_readPlusOrMinus M Kn L st σ → M 255 L st σ) → (∀ L st σ, bX8_readCommand_256 w s_X8_skip s_X8_readNumber s_X8_readPlusOrMinus M Kn L st σ → M 256 L st σ) → (∀ L st σ, bX8_readCommand_307 w s_X8_skip s_X8_readNumber s_X8_readPlusOrMinus M Kn L st σ → M 307 L st σ) → (∀ L st σ, bX8_readCommand_308 w s_X8_skip s_X8_readNumber s_X8_readPlusOrMinus M Kn L st σ → M 308 L st σ) → (∀ L st σ, bX8_readCommand_336 w s_X8_skip s_X8_readNumber s_X8_readPlusOrMinus M Kn L st σ → M 336 L st σ) → (∀ L st σ, bX8_readCommand_337 w s_X8_skip s_X8_readNumber s_X8_readPlusOrMinus M Kn L st σ → M 337 L st σ) → M 0 (ab_pd 1 (ab_xl As)) [] σ) : ab_Met l yX8_readCommand (Cond.code yX8_readCommand cX8_readCommand 1 (some .boolean)) 3 mc w σ As Kn Kx := by
  refine ab_enter (by decide) hl hI hlen (by decide) ?_
  intro p e R s m args below meth c C hno hr
  exact h _ (sd_aload_n C (i := 0) dX8_readCommand_0 rfl (sd_gf C (ci := 8) (k := 2) (r := (RX8, TX8, 5)) rfl (by decide) rfl wd_36 dX8_readCommand_1 (sd_aload_n C (i := 0) dX8_readCommand_4 rfl (sd_gf C (ci := 8) (k := 1) (r := (RX8, TX8, 5)) rfl (by decide) rfl wd_34 dX8_readCommand_5 (sd_icmp_lt C dX8_readCommand_8 (tgt := 13) (by decide) (sd_aload_n C (i := 0) dX8_readCommand_13 rfl (sd_aload_n C (i := 0) dX8_readCommand_14 rfl (sd_gr C (ci := 8) (k := 0) (r := (RX8, TX8, 5)) rfl (by decide) rfl wd_33 dX8_readCommand_15 (sd_aload_n C (i := 0) dX8_readCommand_18 rfl (sd_gf C (ci := 8) (k := 2) (r := (RX8, TX8, 5)) rfl (by decide) rfl wd_36 dX8_readCommand_19 (sd_ca C dX8_readCommand_22 (sd_pc C (ci := 8) (k := 3) (r := (RX8, TX8, 5)) rfl (by decide) rfl rfl (by decide +kernel) wd_37 dX8_readCommand_23 (sd_aload_n C (i := 0) dX8_readCommand_26 rfl (sd_gf C (ci := 8) (k := 3) (r := (RX8, TX8, 5)) rfl (by decide) rfl wd_37 dX8_readCommand_27 (sd_lookup C (td := 338) dX8_readCommand_30 (by decide +kernel) (by decide +kernel : _ = ([nI 100, nI 102, nI 114, nI 115, nI 119] : List Int32).map (fun q => q.toInt)) (List.forall_mem_cons.mpr ⟨⟨227, 257, (by decide +kernel : Op.lookupswitch.offset (#[(100, 227), (102, 126), (114, 279), (115, 50), (119, 179)] : Array (Int × Int)).toList 308 (nI 100 : Int32).toInt = 227), (by decide), (sd_aload_n C (i := 0) dX8_readCommand_257 rfl (sd_aload_n C (i := 0) dX8_readCommand_258 rfl (sd_gf C (ci := 8) (k := 3) (r := (RX8, TX8, 5)) rfl (by decide) rfl wd_37 dX8_readCommand_259 (sd_cV C ok_X8_skip (ci := 8) (row := (RX8, TX8, 5)) rfl rfl ⟨by decide, by decide, wd_338, wd_2, by decide +kernel⟩ wd_335 wd_337 ws_0 dX8_readCommand_262 (sd_if_eq C dX8_readCommand_265 (tgt := 307) (by decide) (fun _ _ _ h => h) (sd_aload_n C (i := 0) dX8_readCommand_268 rfl (sd_iconst C (x := nI 0) dX8_readCommand_269 (by decide +kernel) (sd_iconst C (x := nI 1) dX8_readCommand_270 (by decide +kernel) (sd_iconst C (x := nI 0) dX8_readCommand_271 (by decide +kernel) (sd_iconst C (x := nI 4) dX8_readCommand_272 (by decide +kernel) (sd_cV C ok_X8_readNumber (ci := 8) (row := (RX8, TX8, 5)) rfl rfl ⟨by decide, by decide, wd_346, wd_2, by decide +kernel⟩ wd_343 wd_345 ws_1 dX8_readCommand_273 (sd_if_eq C dX8_readCommand_276 (tgt := 307) (by decide) (fun _ _ _ h => h) (sd_aload_n C (i := 0) dX8_readCommand_279 rfl (sd_iconst C (x := nI 1) dX8_readCommand_280 (by decide +kernel) (sd_iconst C (x := nI 2) dX8_readCommand_281 (by decide +kernel) (sd_iconst C (x := nI 0) dX8_readCommand_282 (by decide +kernel) (sd_bipush C (x := nI 99) dX8_readCommand_283 (by decide +kernel) (sd_cV C ok_X8_readNumber (ci := 8) (row := (RX8, TX8, 5)) rfl rfl ⟨by decide, by decide, wd_346, wd_2, by decide +kernel⟩ wd_343 wd_345 ws_1 dX8_readCommand_285 (sd_if_eq C dX8_readCommand_288 (tgt := 307) (by decide) (fun _ _ _ h => h) (sd_aload_n C (i := 0) dX8_readCommand_291 rfl (sd_iconst C (x := nI 2) dX8_readCommand_292 (by decide +kernel) (sd_iconst C (x := nI 1) dX8_readCommand_293 (by decide +kernel) (sd_iconst C (x := nI 0) dX8_readCommand_294 (by decide +kernel) (sd_bipush C (x := nI 9) dX8_readCommand_295 (by decide +kernel) (sd_cV C ok_X8_readNumber (ci := 8) (row := (RX8, TX8, 5)) rfl rfl ⟨by decide, by decide, wd_346, wd_2, by decide +kernel⟩ wd_343 wd_345 ws_1 dX8_readCommand_297 (sd_if_eq C dX8_readCommand_300 (tgt := 307) (by decide) (fun _ _ _ h => h) (sd_iconst C (x := nI 1) dX8_readCommand_303 (by decide +kernel) (sd_goto C dX8_readCommand_304 (tgt := 308) (by decide) (fun _ _ _ h => h)))))))))))))))))))))))))))))⟩, (List.forall_mem_cons.mpr ⟨⟨126, 156, (by decide +kernel : Op.lookupswitch.offset (#[(100, 227), (102, 126), (114, 279), (115, 50), (119, 179)] : Array (Int × Int)).toList 308 (nI 102 : Int32).toInt = 126), (by decide), (sd_aload_n C (i := 0) dX8_readCommand_156 rfl (sd_aload_n C (i := 0) dX8_readCommand_157 rfl (sd_gf C (ci := 8) (k := 3) (r := (RX8, TX8, 5)) rfl (by decide) rfl wd_37 dX8_readCommand_158 (sd_cV C ok_X8_skip (ci := 8) (row := (RX8, TX8, 5)) rfl rfl ⟨by decide, by decide, wd_338, wd_2, by decide +kernel⟩ wd_335 wd_337 ws_0 dX8_readCommand_161 (sd_if_eq C dX8_readCommand_164 (tgt := 207) (by decide) (fun _ _ _ h => h) (sd_aload_n C (i := 0) dX8_readCommand_167 rfl (sd_iconst C (x := nI 0) dX8_readCommand_168 (by decide +kernel) (sd_iconst C (x := nI 2) dX8_readCommand_169 (by decide +kernel) (sd_iconst C (x := nI 0) dX8_readCommand_170 (by decide +kernel) (sd_bipush C (x := nI 99) dX8_readCommand_171 (by decide +kernel) (sd_cV C ok_X8_readNumber (ci := 8) (row := (RX8, TX8, 5)) rfl rfl ⟨by decide, by decide, wd_346, wd_2, by decide +kernel⟩ wd_343 wd_345 ws_1 dX8_readCommand_173 (sd_if_eq C dX8_readCommand_176 (tgt := 207) (by decide) (fun _ _ _ h => h) (sd_aload_n C (i := 0) dX8_readCommand_179 rfl (sd_iconst C (x := nI 1) dX8_readCommand_180 (by decide +kernel) (sd_iconst C (x := nI 2) dX8_readCommand_181 (by decide +kernel) (sd_iconst C (x := nI 0) dX8_readCommand_182 (by decide +kernel) (sd_bipush C (x := nI 20) dX8_readCommand_183 (by decide +kernel) (sd_cV C ok_X8_readNumber (ci := 8) (row := (RX8, TX8, 5)) rfl rfl ⟨by decide, by decide, wd_346, wd_2, by decide +kernel⟩ wd_343 wd_345 ws_1 dX8_readCommand_185 (sd_if_eq C dX8_readCommand_188 (tgt := 207) (by decide) (fun _ _ _ h => h) (sd_aload_n C (i := 0) dX8_readCommand_191 rfl (sd_iconst C (x := nI 2) dX8_readCommand_192 (by decide +kernel) (sd_iconst C (x := nI 2) dX8_readCommand_193 (by decide +kernel) (sd_iconst C (x := nI 1) dX8_readCommand_194 (by decide +kernel) (sd_bipush C (x := nI 30) dX8_readCommand_195 (by decide +kernel) (sd_cV C ok_X8_readNumber (ci := 8) (row := (RX8, TX8, 5)) rfl rfl ⟨by decide, by decide, wd_346, wd_2, by decide +kernel⟩ wd_343 wd_345 ws_1 dX8_readCommand_197 (sd_if_eq C dX8_readCommand_200 (tgt := 207) (by decide) (fun _ _ _ h => h) (sd_iconst C (x := nI 1) dX8_readCommand_203 (by decide +kernel) (sd_goto C dX8_readCommand_204 (tgt := 208) (by decide) (fun _ _ _ h => h)))))))))))))))))))))))))))))⟩, (List.forall_mem_cons.mpr ⟨⟨279, 309, (by decide +kernel : Op.lookupswitch.offset (#[(100, 227), (102, 126), (114, 279), (115, 50), (119, 179)] : Array (Int × Int)).toList 308 (nI 114 : Int32).toInt = 279), (by decide), (sd_aload_n C (i := 0) dX8_readCommand_309 rfl (sd_aload_n C (i := 0) dX8_readCommand_310 rfl (sd_gf C (ci := 8) (k := 3) (r := (RX8, TX8, 5)) rfl (by decide) rfl wd_37 dX8_readCommand_311 (sd_cV C ok_X8_skip (ci := 8) (row := (RX8, TX8, 5)) rfl rfl ⟨by decide, by decide, wd_338, wd_2, by decide +kernel⟩ wd_335 wd_337 ws_0 dX8_readCommand_314 (sd_if_eq C dX8_readCommand_317 (tgt := 336) (by decide) (fun _ _ _ h => h) (sd_aload_n C (i := 0) dX8_readCommand_320 rfl (sd_iconst C (x := nI 0) dX8_readCommand_321 (by decide +kernel) (sd_iconst C (x := nI 1) dX8_readCommand_322 (by decide +kernel) (sd_iconst C (x := nI 1) dX8_readCommand_323 (by decide +kernel) (sd_bipush C (x := nI 9) dX8_readCommand_324 (by decide +kernel) (sd_cV C ok_X8_readNumber (ci := 8) (row := (RX8, TX8, 5)) rfl rfl ⟨by decide, by decide, wd_346, wd_2, by decide +kernel⟩ wd_343 wd_345 ws_1 dX8_readCommand_326 (sd_if_eq C dX8_readCommand_329 (tgt := 336) (by decide) (fun _ _ _ h => h) (sd_iconst C (x := nI 1) dX8_readCommand_332 (by decide +kernel) (sd_goto C dX8_readCommand_333 (tgt := 337) (by decide) (fun _ _ _ h => h)))))))))))))))⟩, (List.forall_mem_cons.mpr ⟨⟨50, 80, (by decide +kernel : Op.lookupswitch.offset (#[(100, 227), (102, 126), (114, 279), (115, 50), (119, 179)] : Array (Int × Int)).toList 308 (nI 115 : Int32).toInt = 50), (by decide), (sd_aload_n C (i := 0) dX8_readCommand_80 rfl (sd_aload_n C (i := 0) dX8_readCommand_81 rfl (sd_gf C (ci := 8) (k := 3) (r := (RX8, TX8, 5)) rfl (by decide) rfl wd_37 dX8_readCommand_82 (sd_cV C ok_X8_skip (ci := 8) (row := (RX8, TX8, 5)) rfl rfl ⟨by decide, by decide, wd_338, wd_2, by decide +kernel⟩ wd_335 wd_337 ws_0 dX8_readCommand_85 (sd_if_eq C dX8_readCommand_88 (tgt := 154) (by decide) (fun _ _ _ h => h) (sd_aload_n C (i := 0) dX8_readCommand_91 rfl (sd_iconst C (x := nI 0) dX8_readCommand_92 (by decide +kernel) (sd_iconst C (x := nI 2) dX8_readCommand_93 (by decide +kernel) (sd_iconst C (x := nI 0) dX8_readCommand_94 (by decide +kernel) (sd_bipush C (x := nI 99) dX8_readCommand_95 (by decide +kernel) (sd_cV C ok_X8_readNumber (ci := 8) (row := (RX8, TX8, 5)) rfl rfl ⟨by decide, by decide, wd_346, wd_2, by decide +kernel⟩ wd_343 wd_345 ws_1 dX8_readCommand_97 (sd_if_eq C dX8_readCommand_100 (tgt := 154) (by decide) (fun _ _ _ h => h) (sd_aload_n C (i := 0) dX8_readCommand_103 rfl (sd_iconst C (x := nI 1) dX8_readCommand_104 (by decide +kernel) (sd_iconst C (x := nI 2) dX8_readCommand_105 (by decide +kernel) (sd_iconst C (x := nI 0) dX8_readCommand_106 (by decide +kernel) (sd_bipush C (x := nI 15) dX8_readCommand_107 (by decide +kernel) (sd_cV C ok_X8_readNumber (ci := 8) (row := (RX8, TX8, 5)) rfl rfl ⟨by decide, by decide, wd_346, wd_2, by decide +kernel⟩ wd_343 wd_345 ws_1 dX8_readCommand_109 (sd_if_eq C dX8_readCommand_112 (tgt := 154) (by decide) (fun _ _ _ h => h) (sd_aload_n C (i := 0) dX8_readCommand_115 rfl (sd_iconst C (x := nI 2) dX8_readCommand_116 (by decide +kernel) (sd_iconst C (x := nI 1) dX8_readCommand_117 (by decide +kernel) (sd_iconst C (x := nI 1) dX8_readCommand_118 (by decide +kernel) (sd_iconst C (x := nI 5) dX8_readCommand_119 (by decide +kernel) (sd_cV C ok_X8_readNumber (ci := 8) (row := (RX8, TX8, 5)) rfl rfl ⟨by decide, by decide, wd_346, wd_2, by decide +kernel⟩ wd_343 wd_345 ws_1 dX8_readCommand_120 (sd_if_eq C dX8_readCommand_123 (tgt := 154) (by decide) (fun _ _ _ h => h) (sd_aload_n C (i := 0) dX8_readCommand_126 rfl (sd_iconst C (x := nI 3) dX8_readCommand_127 (by decide +kernel) (sd_iconst C (x := nI 2) dX8_readCommand_128 (by decide +kernel) (sd_iconst C (x := nI 0) dX8_readCommand_129 (by decide +kernel) (sd_bipush C (x := nI 99) dX8_readCommand_130 (by decide +kernel) (sd_cV C ok_X8_readNumber (ci := 8) (row := (RX8, TX8, 5)) rfl rfl ⟨by decide, by decide, wd_346, wd_2, by decide +kernel⟩ wd_343 wd_345 ws_1 dX8_readCommand_132 (sd_if_eq C dX8_readCommand_135 (tgt := 154) (by decide) (fun _ _ _ h => h) (sd_aload_n C (i := 0) dX8_readCommand_138 rfl (sd_iconst C (x := nI 4) dX8_readCommand_139 (by decide +kernel) (sd_iconst C (x := nI 1) dX8_readCommand_140 (by decide +kernel) (sd_iconst C (x := nI 0) dX8_readCommand_141 (by decide +kernel) (sd_bipush C (x := nI 9) dX8_readCommand_142 (by decide +kernel) (sd_cV C ok_X8_readNumber (ci := 8) (row := (RX8, TX8, 5)) rfl rfl ⟨by decide, by decide, wd_346, wd_2, by decide +kernel⟩ wd_343 wd_345 ws_1 dX8_readCommand_144 (sd_if_eq C dX8_readCommand_147 (tgt := 154) (by decide) (fun _ _ _ h => h) (sd_iconst C (x := nI 1) dX8_readCommand_150 (by decide +kernel) (sd_goto C dX8_readCommand_151 (tgt := 155) (by decide) (fun _ _ _ h => h)))))))))))))))))))))))))))))))))))))))))))⟩, (List.forall_mem_cons.mpr ⟨⟨179, 209, (by decide +kernel : Op.lookupswitch.offset (#[(100, 227), (102, 126), (114, 279), (115, 50), (119, 179)] : Array (Int × Int)).toList 308 (nI 119 : Int32).toInt = 179), (by decide), (sd_aload_n C (i := 0) dX8_readCommand_209 rfl (sd_aload_n C (i := 0) dX8_readCommand_210 rfl (sd_gf C (ci := 8) (k := 3) (r := (RX8, TX8, 5)) rfl (by decide) rfl wd_37 dX8_readCommand_211 (sd_cV C ok_X8_skip (ci := 8) (row := (RX8, TX8, 5)) rfl rfl ⟨by decide, by decide, wd_338, wd_2, by decide +kernel⟩ wd_335 wd_337 ws_0 dX8_readCommand_214 (sd_if_eq C dX8_readCommand_217 (tgt := 255) (by decide) (fun _ _ _ h => h) (sd_aload_n C (i := 0) dX8_readCommand_220 rfl (sd_iconst C (x := nI 0) dX8_readCommand_221 (by decide +kernel) (sd_iconst C (x := nI 1) dX8_readCommand_222 (by decide +kernel) (sd_iconst C (x := nI 0) dX8_readCommand_223 (by decide +kernel) (sd_iconst C (x := nI 3) dX8_readCommand_224 (by decide +kernel) (sd_cV C ok_X8_readNumber (ci := 8) (row := (RX8, TX8, 5)) rfl rfl ⟨by decide, by decide, wd_346, wd_2, by decide +kernel⟩ wd_343 wd_345 ws_1 dX8_readCommand_225 (sd_if_eq C dX8_readCommand_228 (tgt := 255) (by decide) (fun _ _ _ h => h) (sd_aload_n C (i := 0) dX8_readCommand_231 rfl (sd_iconst C (x := nI 1) dX8_readCommand_232 (by decide +kernel) (sd_cV C ok_X8_readPlusOrMinus (ci := 8) (row := (RX8, TX8, 5)) rfl rfl ⟨by decide, by decide, wd_350, wd_2, by decide +kernel⟩ wd_347 wd_349 ws_2 dX8_readCommand_233 (sd_if_eq C dX8_readCommand_236 (tgt := 255) (by decide) (fun _ _ _ h => h) (sd_aload_n C (i := 0) dX8_readCommand_239 rfl (sd_iconst C (x := nI 2) dX8_readCommand_240 (by decide +kernel) (sd_iconst C (x := nI 2) dX8_readCommand_241 (by decide +kernel) (sd_iconst C (x := nI 0) dX8_readCommand_242 (by decide +kernel) (sd_bipush C (x := nI 20) dX8_readCommand_243 (by decide +kernel) (sd_cV C ok_X8_readNumber (ci := 8) (row := (RX8, TX8, 5)) rfl rfl ⟨by decide, by decide, wd_346, wd_2, by decide +kernel⟩ wd_343 wd_345 ws_1 dX8_readCommand_245 (sd_if_eq C dX8_readCommand_248 (tgt := 255) (by decide) (fun _ _ _ h => h) (sd_iconst C (x := nI 1) dX8_readCommand_251 (by decide +kernel) (sd_goto C dX8_readCommand_252 (tgt := 256) (by decide) (fun _ _ _ h => h))))))))))))))))))))))))))⟩, (fun _ h => absurd h List.not_mem_nil)⟩)⟩)⟩)⟩)⟩) (by decide) (sd_iconst C (x := nI 0) dX8_readCommand_338 (by decide +kernel) (sd_zr C hr dX8_readCommand_339)))))))))))) (sd_iconst C (x := nI 0) dX8_readCommand_11 (by decide +kernel) (sd_zr C hr dX8_readCommand_12)))))))
    (sd_iconst C (x := nI 0) dX8_readCommand_154 (by decide +kernel) (fun _ _ _ h => h))
    (sd_zr C hr dX8_readCommand_155)
    (sd_iconst C (x := nI 0) dX8_readCommand_207 (by decide +kernel) (fun _ _ _ h => h))
    (sd_zr C hr dX8_readCommand_208)
    (sd_iconst C (x := nI 0) dX8_readCommand_255 (by decide +kernel) (fun _ _ _ h => h))
    (sd_zr C hr dX8_readCommand_256)
    (sd_iconst C (x := nI 0) dX8_readCommand_307 (by decide +kernel) (fun _ _ _ h => h))
    (sd_zr C hr dX8_readCommand_308)
    (sd_iconst C (x := nI 0) dX8_readCommand_336 (by decide +kernel) (fun _ _ _ h => h))
    (sd_zr C hr dX8_readCommand_337)
theorem dX8_firstError_0 : decode cX8_firstError 0 = .ok (.aload_n 0, 1) := by decide +kernel
theorem dX8_firstError_1 : decode cX8_firstError 1 = .ok (.invokevirtual 23, 3) := by decide +kernel
theorem dX8_firstError_4 : decode cX8_firstError 4 = .ok (.istore_n 1, 1) := by decide +kernel
theorem dX8_firstError_5 : decode cX8_firstError 5 = .ok (.iconst 0, 1) := by decide +kernel
theorem dX8_firstError_6 : decode cX8_firstError 6 = .ok (.istore_n 2, 1) := by decide +kernel
theorem dX8_firstError_7 : decode cX8_firstError 7 = .ok (.iload_n 2, 1) := by decide +kernel
theorem dX8_firstError_8 : decode cX8_firstError 8 = .ok (.bipush 120, 2) := by decide +kernel
theorem dX8_firstError_10 : decode cX8_firstError 10 = .ok (.if_icmp .ge 29, 3) := by decide +kernel
theorem dX8_firstError_13 : decode cX8_firstError 13 = .ok (.iload_n 1, 1) := by decide +kernel
theorem dX8_firstError_14 : decode cX8_firstError 14 = .ok (.ifCond .eq 25, 3) := by decide +kernel
theorem dX8_firstError_17 : decode cX8_firstError 17 = .ok (.aload_n 0, 1) := by decide +kernel
theorem dX8_firstError_18 : decode cX8_firstError 18 = .ok (.getfield 27, 3) := by decide +kernel
theorem dX8_firstError_21 : decode cX8_firstError 21 = .ok (.aload_n 0, 1) := by decide +kernel
theorem dX8_firstError_22 : decode cX8_firstError 22 = .ok (.getfield 19, 3) := by decide +kernel
theorem dX8_firstError_25 : decode cX8_firstError 25 = .ok (.if_icmp .ge 14, 3) := by decide +kernel
theorem dX8_firstError_28 : decode cX8_firstError 28 = .ok (.aload_n 0, 1) := by decide +kernel
theorem dX8_firstError_29 : decode cX8_firstError 29 = .ok (.invokevirtual 30, 3) := by decide +kernel
theorem dX8_firstError_32 : decode cX8_firstError 32 = .ok (.istore_n 1, 1) := by decide +kernel
theorem dX8_firstError_33 : decode cX8_firstError 33 = .ok (.iinc 2 1, 3) := by decide +kernel
theorem dX8_firstError_36 : decode cX8_firstError 36 = .ok (.goto (-29), 3) := by decide +kernel
theorem dX8_firstError_39 : decode cX8_firstError 39 = .ok (.iload_n 1, 1) := by decide +kernel
theorem dX8_firstError_40 : decode cX8_firstError 40 = .ok (.ifCond .eq 7, 3) := by decide +kernel
theorem dX8_firstError_43 : decode cX8_firstError 43 = .ok (.iconst (-1), 1) := by decide +kernel
theorem dX8_firstError_44 : decode cX8_firstError 44 = .ok (.goto 7, 3) := by decide +kernel
theorem dX8_firstError_47 : decode cX8_firstError 47 = .ok (.aload_n 0, 1) := by decide +kernel
theorem dX8_firstError_48 : decode cX8_firstError 48 = .ok (.getfield 27, 3) := by decide +kernel
theorem dX8_firstError_51 : decode cX8_firstError 51 = .ok (.ireturn, 1) := by decide +kernel
def bX8_firstError_0 (w : ab_W) (s_X8_startReading : ab_S) (s_X8_readCommand : ab_S) (M : Nat → ab_P) (Kn : Option Value → ab_H → Prop) : ab_P := ab_ald 0 (ab_cV w 1 8 s_X8_startReading (ab_ist 1 (ab_ci (nI 0) (ab_ist 2 (M 7)))))
def bX8_firstError_7 (w : ab_W) (s_X8_startReading : ab_S) (s_X8_readCommand : ab_S) (M : Nat → ab_P) (Kn : Option Value → ab_H → Prop) : ab_P := ab_ild 2 (ab_ci (nI 120) (ab_if2 (fun x y => y ≤ x) (M 39) (ab_ild 1 (ab_if1 (fun x => x = 0) (M 39) (ab_ald 0 (ab_gf w 8 2 (ab_ald 0 (ab_gf w 8 1 (ab_if2 (fun x y => y ≤ x) (M 39) (ab_ald 0 (ab_cV w 1 8 s_X8_readCommand (ab_ist 1 (ab_inc 2 (nI 1) (M 7))))))))))))))
def bX8_firstError_39 (w : ab_W) (s_X8_startReading : ab_S) (s_X8_readCommand : ab_S) (M : Nat → ab_P) (Kn : Option Value → ab_H → Prop) : ab_P := ab_ild 1 (ab_if1 (fun x => x = 0) (ab_ald 0 (ab_gf w 8 2 (M 51))) (ab_ci (-1) (M 51)))
def bX8_firstError_51 (w : ab_W) (s_X8_startReading : ab_S) (s_X8_readCommand : ab_S) (M : Nat → ab_P) (Kn : Option Value → ab_H → Prop) : ab_P := ab_ir Kn
set_option maxRecDepth 20000 in
set_option maxHeartbeats 2000000 in
theorem vc_X8_firstError {l : Launch} (hl : l.stackTraces = false) {w : ab_W} (hI : ab_Inj w) {mc : Nat} {σ : ab_H} {As : List Value} {Kn : Option Value → ab_H → Prop} {Kx : String → ab_H → Prop} {s_X8_startReading : ab_S} (ok_X8_startReading : ab_OkN l yX8_startReading (Cond.code yX8_startReading cX8_startReading 1 (some .boolean)) 2 s_X8_startReading) {s_X8_readCommand : ab_S} (ok_X8_readCommand : ab_OkN l yX8_readCommand (Cond.code yX8_readCommand cX8_readCommand 1 (some .boolean)) 3 s_X8_readCommand) (hlen : (ab_xl As).length ≤ 3) (h : ∀ M : Nat → ab_P, (∀ L st σ, bX8_firstError_0 w s_X8_startReading s_X8_readCommand M Kn L st σ → M 0 L st σ) → (∀ L st σ, bX8_firstError_7 w s_X8_startReading s_X8_readCommand M Kn L st σ → M 7 L st σ) → (∀ L st σ, bX8_firstError_39 w s_X8_startReading s_X8_readCommand M Kn L st σ → M 39 L st σ) → (∀ L st σ, bX8_firstError_51 w s_X8_startReading s_X8_readCommand M Kn L st σ → M 51 L st σ) → M 0 (ab_pd 3 (ab_xl As)) [] σ) : ab_Met l yX8_firstError (Cond.code yX8_firstError cX8_firstError 3 (some .int)) 4 mc w σ As Kn Kx := by
  refine ab_enter (by decide) hl hI hlen (by decide) ?_
  intro p e R s m args below meth c C hno hr
  exact h _ (sd_aload_n C (i := 0) dX8_firstError_0 rfl (sd_cV C ok_X8_startReading (ci := 8) (row := (RX8, TX8, 5)) rfl rfl ⟨by decide, by decide, wd_334, wd_2, by decide +kernel⟩ wd_331 wd_332 wd_333 dX8_firstError_1 (sd_istore_n C (i := 1) dX8_firstError_4 rfl (by decide) (sd_iconst C (x := nI 0) dX8_firstError_5 (by decide +kernel) (sd_istore_n C (i := 2) dX8_firstError_6 rfl (by decide) (fun _ _ _ h => h))))))
    (sd_iload_n C (i := 2) dX8_firstError_7 rfl (sd_bipush C (x := nI 120) dX8_firstError_8 (by decide +kernel) (sd_icmp_ge C dX8_firstError_10 (tgt := 39) (by decide) (fun _ _ _ h => h) (sd_iload_n C (i := 1) dX8_firstError_13 rfl (sd_if_eq C dX8_firstError_14 (tgt := 39) (by decide) (fun _ _ _ h => h) (sd_aload_n C (i := 0) dX8_firstError_17 rfl (sd_gf C (ci := 8) (k := 2) (r := (RX8, TX8, 5)) rfl (by decide) rfl wd_36 dX8_firstError_18 (sd_aload_n C (i := 0) dX8_firstError_21 rfl (sd_gf C (ci := 8) (k := 1) (r := (RX8, TX8, 5)) rfl (by decide) rfl wd_34 dX8_firstError_22 (sd_icmp_ge C dX8_firstError_25 (tgt := 39) (by decide) (fun _ _ _ h => h) (sd_aload_n C (i := 0) dX8_firstError_28 rfl (sd_cV C ok_X8_readCommand (ci := 8) (row := (RX8, TX8, 5)) rfl rfl ⟨by decide, by decide, wd_342, wd_2, by decide +kernel⟩ wd_339 wd_340 wd_341 dX8_firstError_29 (sd_istore_n C (i := 1) dX8_firstError_32 rfl (by decide) (sd_iinc C (x := nI 1) dX8_firstError_33 (by decide +kernel) (by decide) (sd_goto C dX8_firstError_36 (tgt := 7) (by decide) (fun _ _ _ h => h))))))))))))))))
    (sd_iload_n C (i := 1) dX8_firstError_39 rfl (sd_if_eq C dX8_firstError_40 (tgt := 47) (by decide) (sd_aload_n C (i := 0) dX8_firstError_47 rfl (sd_gf C (ci := 8) (k := 2) (r := (RX8, TX8, 5)) rfl (by decide) rfl wd_36 dX8_firstError_48 (fun _ _ _ h => h))) (sd_iconst C (x := -1) dX8_firstError_43 (by decide +kernel) (sd_goto C dX8_firstError_44 (tgt := 51) (by decide) (fun _ _ _ h => h)))))
    (sd_ir C hr dX8_firstError_51)
