theorem dX3_copyFrom_0 : decode cX3_copyFrom 0 = .ok (.aload_n 0, 1) := by decide +kernel
theorem dX3_copyFrom_1 : decode cX3_copyFrom 1 = .ok (.getfield 12, 3) := by decide +kernel
theorem dX3_copyFrom_4 : decode cX3_copyFrom 4 = .ok (.aload_n 1, 1) := by decide +kernel
theorem dX3_copyFrom_5 : decode cX3_copyFrom 5 = .ok (.getfield 12, 3) := by decide +kernel
theorem dX3_copyFrom_8 : decode cX3_copyFrom 8 = .ok (.invokevirtual 53, 3) := by decide +kernel
theorem dX3_copyFrom_11 : decode cX3_copyFrom 11 = .ok (.aload_n 0, 1) := by decide +kernel
theorem dX3_copyFrom_12 : decode cX3_copyFrom 12 = .ok (.getfield 21, 3) := by decide +kernel
theorem dX3_copyFrom_15 : decode cX3_copyFrom 15 = .ok (.aload_n 1, 1) := by decide +kernel
theorem dX3_copyFrom_16 : decode cX3_copyFrom 16 = .ok (.getfield 21, 3) := by decide +kernel
theorem dX3_copyFrom_19 : decode cX3_copyFrom 19 = .ok (.invokevirtual 57, 3) := by decide +kernel
theorem dX3_copyFrom_22 : decode cX3_copyFrom 22 = .ok (.aload_n 0, 1) := by decide +kernel
theorem dX3_copyFrom_23 : decode cX3_copyFrom 23 = .ok (.getfield 28, 3) := by decide +kernel
theorem dX3_copyFrom_26 : decode cX3_copyFrom 26 = .ok (.aload_n 1, 1) := by decide +kernel
theorem dX3_copyFrom_27 : decode cX3_copyFrom 27 = .ok (.getfield 28, 3) := by decide +kernel
theorem dX3_copyFrom_30 : decode cX3_copyFrom 30 = .ok (.invokevirtual 60, 3) := by decide +kernel
theorem dX3_copyFrom_33 : decode cX3_copyFrom 33 = .ok (.aload_n 0, 1) := by decide +kernel
theorem dX3_copyFrom_34 : decode cX3_copyFrom 34 = .ok (.getfield 35, 3) := by decide +kernel
theorem dX3_copyFrom_37 : decode cX3_copyFrom 37 = .ok (.aload_n 1, 1) := by decide +kernel
theorem dX3_copyFrom_38 : decode cX3_copyFrom 38 = .ok (.getfield 35, 3) := by decide +kernel
theorem dX3_copyFrom_41 : decode cX3_copyFrom 41 = .ok (.invokevirtual 63, 3) := by decide +kernel
theorem dX3_copyFrom_44 : decode cX3_copyFrom 44 = .ok (.aload_n 0, 1) := by decide +kernel
theorem dX3_copyFrom_45 : decode cX3_copyFrom 45 = .ok (.getfield 42, 3) := by decide +kernel
theorem dX3_copyFrom_48 : decode cX3_copyFrom 48 = .ok (.aload_n 1, 1) := by decide +kernel
theorem dX3_copyFrom_49 : decode cX3_copyFrom 49 = .ok (.getfield 42, 3) := by decide +kernel
theorem dX3_copyFrom_52 : decode cX3_copyFrom 52 = .ok (.invokevirtual 66, 3) := by decide +kernel
theorem dX3_copyFrom_55 : decode cX3_copyFrom 55 = .ok (.aload_n 1, 1) := by decide +kernel
theorem dX3_copyFrom_56 : decode cX3_copyFrom 56 = .ok (.getfield 46, 3) := by decide +kernel
theorem dX3_copyFrom_59 : decode cX3_copyFrom 59 = .ok (.aload_n 0, 1) := by decide +kernel
theorem dX3_copyFrom_60 : decode cX3_copyFrom 60 = .ok (.getfield 46, 3) := by decide +kernel
theorem dX3_copyFrom_63 : decode cX3_copyFrom 63 = .ok (.invokestatic 69, 3) := by decide +kernel
theorem dX3_copyFrom_66 : decode cX3_copyFrom 66 = .ok (.aload_n 1, 1) := by decide +kernel
theorem dX3_copyFrom_67 : decode cX3_copyFrom 67 = .ok (.getfield 50, 3) := by decide +kernel
theorem dX3_copyFrom_70 : decode cX3_copyFrom 70 = .ok (.aload_n 0, 1) := by decide +kernel
theorem dX3_copyFrom_71 : decode cX3_copyFrom 71 = .ok (.getfield 50, 3) := by decide +kernel
theorem dX3_copyFrom_74 : decode cX3_copyFrom 74 = .ok (.invokestatic 69, 3) := by decide +kernel
theorem dX3_copyFrom_77 : decode cX3_copyFrom 77 = .ok (.aload_n 0, 1) := by decide +kernel
theorem dX3_copyFrom_78 : decode cX3_copyFrom 78 = .ok (.aload_n 1, 1) := by decide +kernel
theorem dX3_copyFrom_79 : decode cX3_copyFrom 79 = .ok (.getfield 73, 3) := by decide +kernel
theorem dX3_copyFrom_82 : decode cX3_copyFrom 82 = .ok (.putfield 73, 3) := by decide +kernel
theorem dX3_copyFrom_85 : decode cX3_copyFrom 85 = .ok (.aload_n 0, 1) := by decide +kernel
theorem dX3_copyFrom_86 : decode cX3_copyFrom 86 = .ok (.aload_n 1, 1) := by decide +kernel
theorem dX3_copyFrom_87 : decode cX3_copyFrom 87 = .ok (.getfield 77, 3) := by decide +kernel
theorem dX3_copyFrom_90 : decode cX3_copyFrom 90 = .ok (.putfield 77, 3) := by decide +kernel
theorem dX3_copyFrom_93 : decode cX3_copyFrom 93 = .ok (.aload_n 0, 1) := by decide +kernel
theorem dX3_copyFrom_94 : decode cX3_copyFrom 94 = .ok (.aload_n 1, 1) := by decide +kernel
theorem dX3_copyFrom_95 : decode cX3_copyFrom 95 = .ok (.getfield 80, 3) := by decide +kernel
theorem dX3_copyFrom_98 : decode cX3_copyFrom 98 = .ok (.putfield 80, 3) := by decide +kernel
theorem dX3_copyFrom_101 : decode cX3_copyFrom 101 = .ok (.aload_n 0, 1) := by decide +kernel
theorem dX3_copyFrom_102 : decode cX3_copyFrom 102 = .ok (.aload_n 1, 1) := by decide +kernel
theorem dX3_copyFrom_103 : decode cX3_copyFrom 103 = .ok (.getfield 83, 3) := by decide +kernel
theorem dX3_copyFrom_106 : decode cX3_copyFrom 106 = .ok (.putfield 83, 3) := by decide +kernel
theorem dX3_copyFrom_109 : decode cX3_copyFrom 109 = .ok (.aload_n 0, 1) := by decide +kernel
theorem dX3_copyFrom_110 : decode cX3_copyFrom 110 = .ok (.aload_n 1, 1) := by decide +kernel
theorem dX3_copyFrom_111 : decode cX3_copyFrom 111 = .ok (.getfield 86, 3) := by decide +kernel
theorem dX3_copyFrom_114 : decode cX3_copyFrom 114 = .ok (.putfield 86, 3) := by decide +kernel
theorem dX3_copyFrom_117 : decode cX3_copyFrom 117 = .ok (.aload_n 0, 1) := by decide +kernel
theorem dX3_copyFrom_118 : decode cX3_copyFrom 118 = .ok (.aload_n 1, 1) := by decide +kernel
theorem dX3_copyFrom_119 : decode cX3_copyFrom 119 = .ok (.getfield 89, 3) := by decide +kernel
theorem dX3_copyFrom_122 : decode cX3_copyFrom 122 = .ok (.putfield 89, 3) := by decide +kernel
theorem dX3_copyFrom_125 : decode cX3_copyFrom 125 = .ok (.return_, 1) := by decide +kernel
def bX3_copyFrom_0 (w : ab_W) (s_X7_copyFrom : ab_S) (s_X0_copyFrom : ab_S) (s_X4_copyFrom : ab_S) (s_X5_copyFrom : ab_S) (s_X1_copyFrom : ab_S) (s_X9_copyRow : ab_S) (M : Nat → ab_P) (Kn : Option Value → ab_H → Prop) : ab_P := ab_ald 0 (ab_gr w 3 1 (ab_ald 1 (ab_gr w 3 1 (ab_cV w 2 7 s_X7_copyFrom (ab_ald 0 (ab_gr w 3 9 (ab_ald 1 (ab_gr w 3 9 (ab_cV w 2 0 s_X0_copyFrom (ab_ald 0 (ab_gr w 3 14 (ab_ald 1 (ab_gr w 3 14 (ab_cV w 2 4 s_X4_copyFrom (ab_ald 0 (ab_gr w 3 19 (ab_ald 1 (ab_gr w 3 19 (ab_cV w 2 5 s_X5_copyFrom (ab_ald 0 (ab_gr w 3 23 (ab_ald 1 (ab_gr w 3 23 (ab_cV w 2 1 s_X1_copyFrom (ab_ald 1 (ab_gr w 3 27 (ab_ald 0 (ab_gr w 3 27 (ab_cN w 2 s_X9_copyRow (ab_ald 1 (ab_gr w 3 28 (ab_ald 0 (ab_gr w 3 28 (ab_cN w 2 s_X9_copyRow (ab_ald 0 (ab_ald 1 (ab_gf w 3 7 (ab_pf w 3 7 (ab_ald 0 (ab_ald 1 (ab_gf w 3 8 (ab_pf w 3 8 (ab_ald 0 (ab_ald 1 (ab_gf w 3 9 (ab_pf w 3 9 (ab_ald 0 (ab_ald 1 (ab_gf w 3 10 (ab_pf w 3 10 (ab_ald 0 (ab_ald 1 (ab_gf w 3 11 (ab_pf w 3 11 (ab_ald 0 (ab_ald 1 (ab_gf w 3 12 (ab_pf w 3 12 (ab_vr Kn)))))))))))))))))))))))))))))))))))))))))))))))))))))))))))
set_option maxRecDepth 20000 in
set_option maxHeartbeats 2000000 in
theorem vc_X3_copyFrom {l : Launch} (hl : l.stackTraces = false) {w : ab_W} (hI : ab_Inj w) {mc : Nat} {σ : ab_H} {As : List Value} {Kn : Option Value → ab_H → Prop} {Kx : String → ab_H → Prop} {s_X7_copyFrom : ab_S} (ok_X7_copyFrom : ab_OkN l yX7_copyFrom (Cond.code yX7_copyFrom cX7_copyFrom 2 none) 3 s_X7_copyFrom) {s_X0_copyFrom : ab_S} (ok_X0_copyFrom : ab_OkN l yX0_copyFrom (Cond.code yX0_copyFrom cX0_copyFrom 2 none) 3 s_X0_copyFrom) {s_X4_copyFrom : ab_S} (ok_X4_copyFrom : ab_OkN l yX4_copyFrom (Cond.code yX4_copyFrom cX4_copyFrom 2 none) 3 s_X4_copyFrom) {s_X5_copyFrom : ab_S} (ok_X5_copyFrom : ab_OkN l yX5_copyFrom (Cond.code yX5_copyFrom cX5_copyFrom 2 none) 3 s_X5_copyFrom) {s_X1_copyFrom : ab_S} (ok_X1_copyFrom : ab_OkN l yX1_copyFrom (Cond.code yX1_copyFrom cX1_copyFrom 2 none) 3 s_X1_copyFrom) {s_X9_copyRow : ab_S} (ok_X9_copyRow : ab_OkN l yX9_copyRow (Cond.code yX9_copyRow cX9_copyRow 2 none) 2 s_X9_copyRow) (hlen : (ab_xl As).length ≤ 2) (h : ∀ M : Nat → ab_P, (∀ L st σ, bX3_copyFrom_0 w s_X7_copyFrom s_X0_copyFrom s_X4_copyFrom s_X5_copyFrom s_X1_copyFrom s_X9_copyRow M Kn L st σ → M 0 L st σ) → M 0 (ab_pd 2 (ab_xl As)) [] σ) : ab_Met l yX3_copyFrom (Cond.code yX3_copyFrom cX3_copyFrom 2 none) 4 mc w σ As Kn Kx := by
  refine ab_enter (by decide) hl hI hlen (by decide) ?_
  intro p e R s m args below meth c C hno hr
  exact h _ (sd_aload_n C (i := 0) dX3_copyFrom_0 rfl (sd_gr C (ci := 3) (k := 0) (r := (RX3, TX3, 13)) rfl (by decide) rfl wd_203 dX3_copyFrom_1 (sd_aload_n C (i := 1) dX3_copyFrom_4 rfl (sd_gr C (ci := 3) (k := 0) (r := (RX3, TX3, 13)) rfl (by decide) rfl wd_203 dX3_copyFrom_5 (sd_cV C ok_X7_copyFrom (ci := 7) (row := (RX7, TX7, 8)) rfl rfl ⟨by decide, by decide, wd_426, wd_4, by decide +kernel⟩ wd_423 wd_424 wd_425 dX3_copyFrom_8 (sd_aload_n C (i := 0) dX3_copyFrom_11 rfl (sd_gr C (ci := 3) (k := 1) (r := (RX3, TX3, 13)) rfl (by decide) rfl wd_205 dX3_copyFrom_12 (sd_aload_n C (i := 1) dX3_copyFrom_15 rfl (sd_gr C (ci := 3) (k := 1) (r := (RX3, TX3, 13)) rfl (by decide) rfl wd_205 dX3_copyFrom_16 (sd_cV C ok_X0_copyFrom (ci := 0) (row := (RX0, TX0, 5)) rfl rfl ⟨by decide, by decide, wd_439, wd_5, by decide +kernel⟩ wd_436 wd_437 wd_438 dX3_copyFrom_19 (sd_aload_n C (i := 0) dX3_copyFrom_22 rfl (sd_gr C (ci := 3) (k := 2) (r := (RX3, TX3, 13)) rfl (by decide) rfl wd_207 dX3_copyFrom_23 (sd_aload_n C (i := 1) dX3_copyFrom_26 rfl (sd_gr C (ci := 3) (k := 2) (r := (RX3, TX3, 13)) rfl (by decide) rfl wd_207 dX3_copyFrom_27 (sd_cV C ok_X4_copyFrom (ci := 4) (row := (RX4, TX4, 5)) rfl rfl ⟨by decide, by decide, wd_444, wd_6, by decide +kernel⟩ wd_441 wd_442 wd_443 dX3_copyFrom_30 (sd_aload_n C (i := 0) dX3_copyFrom_33 rfl (sd_gr C (ci := 3) (k := 3) (r := (RX3, TX3, 13)) rfl (by decide) rfl wd_209 dX3_copyFrom_34 (sd_aload_n C (i := 1) dX3_copyFrom_37 rfl (sd_gr C (ci := 3) (k := 3) (r := (RX3, TX3, 13)) rfl (by decide) rfl wd_209 dX3_copyFrom_38 (sd_cV C ok_X5_copyFrom (ci := 5) (row := (RX5, TX5, 4)) rfl rfl ⟨by decide, by decide, wd_449, wd_7, by decide +kernel⟩ wd_446 wd_447 wd_448 dX3_copyFrom_41 (sd_aload_n C (i := 0) dX3_copyFrom_44 rfl (sd_gr C (ci := 3) (k := 4) (r := (RX3, TX3, 13)) rfl (by decide) rfl wd_211 dX3_copyFrom_45 (sd_aload_n C (i := 1) dX3_copyFrom_48 rfl (sd_gr C (ci := 3) (k := 4) (r := (RX3, TX3, 13)) rfl (by decide) rfl wd_211 dX3_copyFrom_49 (sd_cV C ok_X1_copyFrom (ci := 1) (row := (RX1, TX1, 5)) rfl rfl ⟨by decide, by decide, wd_454, wd_8, by decide +kernel⟩ wd_451 wd_452 wd_453 dX3_copyFrom_52 (sd_aload_n C (i := 1) dX3_copyFrom_55 rfl (sd_gr C (ci := 3) (k := 5) (r := (RX3, TX3, 13)) rfl (by decide) rfl wd_213 dX3_copyFrom_56 (sd_aload_n C (i := 0) dX3_copyFrom_59 rfl (sd_gr C (ci := 3) (k := 5) (r := (RX3, TX3, 13)) rfl (by decide) rfl wd_213 dX3_copyFrom_60 (sd_cSN C ok_X9_copyRow ⟨by decide, by decide, wd_429, wd_1, by decide +kernel⟩ wn_456 wd_428 dX3_copyFrom_63 (sd_aload_n C (i := 1) dX3_copyFrom_66 rfl (sd_gr C (ci := 3) (k := 6) (r := (RX3, TX3, 13)) rfl (by decide) rfl wd_215 dX3_copyFrom_67 (sd_aload_n C (i := 0) dX3_copyFrom_70 rfl (sd_gr C (ci := 3) (k := 6) (r := (RX3, TX3, 13)) rfl (by decide) rfl wd_215 dX3_copyFrom_71 (sd_cSN C ok_X9_copyRow ⟨by decide, by decide, wd_429, wd_1, by decide +kernel⟩ wn_456 wd_428 dX3_copyFrom_74 (sd_aload_n C (i := 0) dX3_copyFrom_77 rfl (sd_aload_n C (i := 1) dX3_copyFrom_78 rfl (sd_gf C (ci := 3) (k := 7) (r := (RX3, TX3, 13)) rfl (by decide) rfl wd_217 dX3_copyFrom_79 (sd_pf C (ci := 3) (k := 7) (r := (RX3, TX3, 13)) rfl (by decide) rfl rfl (by decide +kernel) wd_217 dX3_copyFrom_82 (sd_aload_n C (i := 0) dX3_copyFrom_85 rfl (sd_aload_n C (i := 1) dX3_copyFrom_86 rfl (sd_gf C (ci := 3) (k := 8) (r := (RX3, TX3, 13)) rfl (by decide) rfl wd_219 dX3_copyFrom_87 (sd_pf C (ci := 3) (k := 8) (r := (RX3, TX3, 13)) rfl (by decide) rfl rfl (by decide +kernel) wd_219 dX3_copyFrom_90 (sd_aload_n C (i := 0) dX3_copyFrom_93 rfl (sd_aload_n C (i := 1) dX3_copyFrom_94 rfl (sd_gf C (ci := 3) (k := 9) (r := (RX3, TX3, 13)) rfl (by decide) rfl wd_221 dX3_copyFrom_95 (sd_pf C (ci := 3) (k := 9) (r := (RX3, TX3, 13)) rfl (by decide) rfl rfl (by decide +kernel) wd_221 dX3_copyFrom_98 (sd_aload_n C (i := 0) dX3_copyFrom_101 rfl (sd_aload_n C (i := 1) dX3_copyFrom_102 rfl (sd_gf C (ci := 3) (k := 10) (r := (RX3, TX3, 13)) rfl (by decide) rfl wd_223 dX3_copyFrom_103 (sd_pf C (ci := 3) (k := 10) (r := (RX3, TX3, 13)) rfl (by decide) rfl rfl (by decide +kernel) wd_223 dX3_copyFrom_106 (sd_aload_n C (i := 0) dX3_copyFrom_109 rfl (sd_aload_n C (i := 1) dX3_copyFrom_110 rfl (sd_gf C (ci := 3) (k := 11) (r := (RX3, TX3, 13)) rfl (by decide) rfl wd_225 dX3_copyFrom_111 (sd_pf C (ci := 3) (k := 11) (r := (RX3, TX3, 13)) rfl (by decide) rfl rfl (by decide +kernel) wd_225 dX3_copyFrom_114 (sd_aload_n C (i := 0) dX3_copyFrom_117 rfl (sd_aload_n C (i := 1) dX3_copyFrom_118 rfl (sd_gf C (ci := 3) (k := 12) (r := (RX3, TX3, 13)) rfl (by decide) rfl wd_227 dX3_copyFrom_119 (sd_pf C (ci := 3) (k := 12) (r := (RX3, TX3, 13)) rfl (by decide) rfl rfl (by decide +kernel) wd_227 dX3_copyFrom_122 (sd_vr C hr dX3_copyFrom_125))))))))))))))))))))))))))))))))))))))))))))))))))))))))))))
theorem dX3_stationRefusal_0 : decode cX3_stationRefusal 0 = .ok (.iload_n 1, 1) := by decide +kernel
theorem dX3_stationRefusal_1 : decode cX3_stationRefusal 1 = .ok (.iconst 0, 1) := by decide +kernel
theorem dX3_stationRefusal_2 : decode cX3_stationRefusal 2 = .ok (.bipush 99, 2) := by decide +kernel
theorem dX3_stationRefusal_4 : decode cX3_stationRefusal 4 = .ok (.invokestatic 92, 3) := by decide +kernel
theorem dX3_stationRefusal_7 : decode cX3_stationRefusal 7 = .ok (.ifCond .eq 45, 3) := by decide +kernel
theorem dX3_stationRefusal_10 : decode cX3_stationRefusal 10 = .ok (.iload_n 2, 1) := by decide +kernel
theorem dX3_stationRefusal_11 : decode cX3_stationRefusal 11 = .ok (.iconst 0, 1) := by decide +kernel
theorem dX3_stationRefusal_12 : decode cX3_stationRefusal 12 = .ok (.bipush 15, 2) := by decide +kernel
theorem dX3_stationRefusal_14 : decode cX3_stationRefusal 14 = .ok (.invokestatic 92, 3) := by decide +kernel
theorem dX3_stationRefusal_17 : decode cX3_stationRefusal 17 = .ok (.ifCond .eq 35, 3) := by decide +kernel
theorem dX3_stationRefusal_20 : decode cX3_stationRefusal 20 = .ok (.iload_n 3, 1) := by decide +kernel
theorem dX3_stationRefusal_21 : decode cX3_stationRefusal 21 = .ok (.iconst 1, 1) := by decide +kernel
theorem dX3_stationRefusal_22 : decode cX3_stationRefusal 22 = .ok (.iconst 5, 1) := by decide +kernel
theorem dX3_stationRefusal_23 : decode cX3_stationRefusal 23 = .ok (.invokestatic 92, 3) := by decide +kernel
theorem dX3_stationRefusal_26 : decode cX3_stationRefusal 26 = .ok (.ifCond .eq 26, 3) := by decide +kernel
theorem dX3_stationRefusal_29 : decode cX3_stationRefusal 29 = .ok (.iload 4, 2) := by decide +kernel
theorem dX3_stationRefusal_31 : decode cX3_stationRefusal 31 = .ok (.iconst 0, 1) := by decide +kernel
theorem dX3_stationRefusal_32 : decode cX3_stationRefusal 32 = .ok (.sipush 999, 3) := by decide +kernel
theorem dX3_stationRefusal_35 : decode cX3_stationRefusal 35 = .ok (.invokestatic 92, 3) := by decide +kernel
theorem dX3_stationRefusal_38 : decode cX3_stationRefusal 38 = .ok (.ifCond .eq 14, 3) := by decide +kernel
theorem dX3_stationRefusal_41 : decode cX3_stationRefusal 41 = .ok (.iload 5, 2) := by decide +kernel
theorem dX3_stationRefusal_43 : decode cX3_stationRefusal 43 = .ok (.iconst 0, 1) := by decide +kernel
theorem dX3_stationRefusal_44 : decode cX3_stationRefusal 44 = .ok (.bipush 99, 2) := by decide +kernel
theorem dX3_stationRefusal_46 : decode cX3_stationRefusal 46 = .ok (.invokestatic 92, 3) := by decide +kernel
theorem dX3_stationRefusal_49 : decode cX3_stationRefusal 49 = .ok (.ifCond .ne 5, 3) := by decide +kernel
theorem dX3_stationRefusal_52 : decode cX3_stationRefusal 52 = .ok (.iconst 2, 1) := by decide +kernel
theorem dX3_stationRefusal_53 : decode cX3_stationRefusal 53 = .ok (.ireturn, 1) := by decide +kernel
theorem dX3_stationRefusal_54 : decode cX3_stationRefusal 54 = .ok (.aload_n 0, 1) := by decide +kernel
theorem dX3_stationRefusal_55 : decode cX3_stationRefusal 55 = .ok (.getfield 12, 3) := by decide +kernel
theorem dX3_stationRefusal_58 : decode cX3_stationRefusal 58 = .ok (.getfield 96, 3) := by decide +kernel
theorem dX3_stationRefusal_61 : decode cX3_stationRefusal 61 = .ok (.iconst 5, 1) := by decide +kernel
theorem dX3_stationRefusal_62 : decode cX3_stationRefusal 62 = .ok (.if_icmp .ge 7, 3) := by decide +kernel
theorem dX3_stationRefusal_65 : decode cX3_stationRefusal 65 = .ok (.iconst 0, 1) := by decide +kernel
theorem dX3_stationRefusal_66 : decode cX3_stationRefusal 66 = .ok (.goto 4, 3) := by decide +kernel
theorem dX3_stationRefusal_69 : decode cX3_stationRefusal 69 = .ok (.iconst 3, 1) := by decide +kernel
theorem dX3_stationRefusal_70 : decode cX3_stationRefusal 70 = .ok (.ireturn, 1) := by decide +kernel
def bX3_stationRefusal_0 (w : ab_W) (s_X9_within : ab_S) (M : Nat → ab_P) (Kn : Option Value → ab_H → Prop) : ab_P := ab_ild 1 (ab_ci (nI 0) (ab_ci (nI 99) (ab_cN w 3 s_X9_within (ab_if1 (fun x => x = 0) (M 52) (ab_ild 2 (ab_ci (nI 0) (ab_ci (nI 15) (ab_cN w 3 s_X9_within (ab_if1 (fun x => x = 0) (M 52) (ab_ild 3 (ab_ci (nI 1) (ab_ci (nI 5) (ab_cN w 3 s_X9_within (ab_if1 (fun x => x = 0) (M 52) (ab_ild 4 (ab_ci (nI 0) (ab_ci (nI 999) (ab_cN w 3 s_X9_within (ab_if1 (fun x => x = 0) (M 52) (ab_ild 5 (ab_ci (nI 0) (ab_ci (nI 99) (ab_cN w 3 s_X9_within (ab_if1 (fun x => ¬ x = 0) (ab_ald 0 (ab_gr w 3 1 (ab_gf w 7 0 (ab_ci (nI 5) (ab_if2 (fun x y => y ≤ x) (ab_ci (nI 3) (M 70)) (ab_ci (nI 0) (M 70))))))) (M 52)))))))))))))))))))))))))
def bX3_stationRefusal_52 (w : ab_W) (s_X9_within : ab_S) (M : Nat → ab_P) (Kn : Option Value → ab_H → Prop) : ab_P := ab_ci (nI 2) (ab_ir Kn)
def bX3_stationRefusal_70 (w : ab_W) (s_X9_within : ab_S) (M : Nat → ab_P) (Kn : Option Value → ab_H → Prop) : ab_P := ab_ir Kn
set_option maxRecDepth 20000 in
set_option maxHeartbeats 2000000 in
theorem vc_X3_stationRefusal {l : Launch} (hl : l.stackTraces = false) {w : ab_W} (hI : ab_Inj w) {mc : Nat} {σ : ab_H} {As : List Value} {Kn : Option Value → ab_H → Prop} {Kx : String → ab_H → Prop} {s_X9_within : ab_S} (ok_X9_within : ab_OkN l yX9_within (Cond.code yX9_within cX9_within 3 (some .boolean)) 1 s_X9_within) (hlen : (ab_xl As).length ≤ 6) (h : ∀ M : Nat → ab_P, (∀ L st σ, bX3_stationRefusal_0 w s_X9_within M Kn L st σ → M 0 L st σ) → (∀ L st σ, bX3_stationRefusal_52 w s_X9_within M Kn L st σ → M 52 L st σ) → (∀ L st σ, bX3_stationRefusal_70 w s_X9_within M Kn L st σ → M 70 L st σ) → M 0 (ab_pd 6 (ab_xl As)) [] σ) : ab_Met l yX3_stationRefusal (Cond.code yX3_stationRefusal cX3_stationRefusal 6 (some .int)) 2 mc w σ As Kn Kx := by
  refine ab_enter (by decide) hl hI hlen (by decide) ?_
  intro p e R s m args below meth c C hno hr
  exact h _ (sd_iload_n C (i := 1) dX3_stationRefusal_0 rfl (sd_iconst C (x := nI 0) dX3_stationRefusal_1 (by decide +kernel) (sd_bipush C (x := nI 99) dX3_stationRefusal_2 (by decide +kernel) (sd_cSN C ok_X9_within ⟨by decide, by decide, wd_477, wd_1, by decide +kernel⟩ wn_475 wd_476 dX3_stationRefusal_4 (sd_if_eq C dX3_stationRefusal_7 (tgt := 52) (by decide) (fun _ _ _ h => h) (sd_iload_n C (i := 2) dX3_stationRefusal_10 rfl (sd_iconst C (x := nI 0) dX3_stationRefusal_11 (by decide +kernel) (sd_bipush C (x := nI 15) dX3_stationRefusal_12 (by decide +kernel) (sd_cSN C ok_X9_within ⟨by decide, by decide, wd_477, wd_1, by decide +kernel⟩ wn_475 wd_476 dX3_stationRefusal_14 (sd_if_eq C dX3_stationRefusal_17 (tgt := 52) (by decide) (fun _ _ _ h => h) (sd_iload_n C (i := 3) dX3_stationRefusal_20 rfl (sd_iconst C (x := nI 1) dX3_stationRefusal_21 (by decide +kernel) (sd_iconst C (x := nI 5) dX3_stationRefusal_22 (by decide +kernel) (sd_cSN C ok_X9_within ⟨by decide, by decide, wd_477, wd_1, by decide +kernel⟩ wn_475 wd_476 dX3_stationRefusal_23 (sd_if_eq C dX3_stationRefusal_26 (tgt := 52) (by decide) (fun _ _ _ h => h) (sd_iload C dX3_stationRefusal_29 (sd_iconst C (x := nI 0) dX3_stationRefusal_31 (by decide +kernel) (sd_sipush C (x := nI 999) dX3_stationRefusal_32 (by decide +kernel) (sd_cSN C ok_X9_within ⟨by decide, by decide, wd_477, wd_1, by decide +kernel⟩ wn_475 wd_476 dX3_stationRefusal_35 (sd_if_eq C dX3_stationRefusal_38 (tgt := 52) (by decide) (fun _ _ _ h => h) (sd_iload C dX3_stationRefusal_41 (sd_iconst C (x := nI 0) dX3_stationRefusal_43 (by decide +kernel) (sd_bipush C (x := nI 99) dX3_stationRefusal_44 (by decide +kernel) (sd_cSN C ok_X9_within ⟨by decide, by decide, wd_477, wd_1, by decide +kernel⟩ wn_475 wd_476 dX3_stationRefusal_46 (sd_if_ne C dX3_stationRefusal_49 (tgt := 54) (by decide) (sd_aload_n C (i := 0) dX3_stationRefusal_54 rfl (sd_gr C (ci := 3) (k := 0) (r := (RX3, TX3, 13)) rfl (by decide) rfl wd_203 dX3_stationRefusal_55 (sd_gf C (ci := 7) (k := 0) (r := (RX7, TX7, 8)) rfl (by decide) rfl wd_67 dX3_stationRefusal_58 (sd_iconst C (x := nI 5) dX3_stationRefusal_61 (by decide +kernel) (sd_icmp_ge C dX3_stationRefusal_62 (tgt := 69) (by decide) (sd_iconst C (x := nI 3) dX3_stationRefusal_69 (by decide +kernel) (fun _ _ _ h => h)) (sd_iconst C (x := nI 0) dX3_stationRefusal_65 (by decide +kernel) (sd_goto C dX3_stationRefusal_66 (tgt := 70) (by decide) (fun _ _ _ h => h)))))))) (fun _ _ _ h => h))))))))))))))))))))))))))
    (sd_iconst C (x := nI 2) dX3_stationRefusal_52 (by decide +kernel) (sd_ir C hr dX3_stationRefusal_53))
    (sd_ir C hr dX3_stationRefusal_70)
theorem dX3_tryStation_0 : decode cX3_tryStation 0 = .ok (.aload_n 0, 1) := by decide +kernel
theorem dX3_tryStation_1 : decode cX3_tryStation 1 = .ok (.iload_n 1, 1) := by decide +kernel
theorem dX3_tryStation_2 : decode cX3_tryStation 2 = .ok (.iload_n 2, 1) := by decide +kernel
theorem dX3_tryStation_3 : decode cX3_tryStation 3 = .ok (.iload_n 3, 1) := by decide +kernel
theorem dX3_tryStation_4 : decode cX3_tryStation 4 = .ok (.iload 4, 2) := by decide +kernel
theorem dX3_tryStation_6 : decode cX3_tryStation 6 = .ok (.iload 5, 2) := by decide +kernel
theorem dX3_tryStation_8 : decode cX3_tryStation 8 = .ok (.invokevirtual 99, 3) := by decide +kernel
theorem dX3_tryStation_11 : decode cX3_tryStation 11 = .ok (.ifCond .eq 5, 3) := by decide +kernel
theorem dX3_tryStation_14 : decode cX3_tryStation 14 = .ok (.iconst 0, 1) := by decide +kernel
theorem dX3_tryStation_15 : decode cX3_tryStation 15 = .ok (.ireturn, 1) := by decide +kernel
theorem dX3_tryStation_16 : decode cX3_tryStation 16 = .ok (.aload_n 0, 1) := by decide +kernel
theorem dX3_tryStation_17 : decode cX3_tryStation 17 = .ok (.getfield 12, 3) := by decide +kernel
theorem dX3_tryStation_20 : decode cX3_tryStation 20 = .ok (.iload_n 1, 1) := by decide +kernel
theorem dX3_tryStation_21 : decode cX3_tryStation 21 = .ok (.iload_n 2, 1) := by decide +kernel
theorem dX3_tryStation_22 : decode cX3_tryStation 22 = .ok (.iload_n 3, 1) := by decide +kernel
theorem dX3_tryStation_23 : decode cX3_tryStation 23 = .ok (.invokevirtual 103, 3) := by decide +kernel
theorem dX3_tryStation_26 : decode cX3_tryStation 26 = .ok (.aload_n 0, 1) := by decide +kernel
theorem dX3_tryStation_27 : decode cX3_tryStation 27 = .ok (.getfield 12, 3) := by decide +kernel
theorem dX3_tryStation_30 : decode cX3_tryStation 30 = .ok (.aload_n 0, 1) := by decide +kernel
theorem dX3_tryStation_31 : decode cX3_tryStation 31 = .ok (.getfield 12, 3) := by decide +kernel
theorem dX3_tryStation_34 : decode cX3_tryStation 34 = .ok (.getfield 96, 3) := by decide +kernel
theorem dX3_tryStation_37 : decode cX3_tryStation 37 = .ok (.iconst 1, 1) := by decide +kernel
theorem dX3_tryStation_38 : decode cX3_tryStation 38 = .ok (.isub, 1) := by decide +kernel
theorem dX3_tryStation_39 : decode cX3_tryStation 39 = .ok (.iload 4, 2) := by decide +kernel
theorem dX3_tryStation_41 : decode cX3_tryStation 41 = .ok (.iload 5, 2) := by decide +kernel
theorem dX3_tryStation_43 : decode cX3_tryStation 43 = .ok (.invokevirtual 107, 3) := by decide +kernel
theorem dX3_tryStation_46 : decode cX3_tryStation 46 = .ok (.iconst 1, 1) := by decide +kernel
theorem dX3_tryStation_47 : decode cX3_tryStation 47 = .ok (.ireturn, 1) := by decide +kernel
def bX3_tryStation_0 (w : ab_W) (s_X3_stationRefusal : ab_S) (s_X7_add : ab_S) (s_X7_receive : ab_S) (M : Nat → ab_P) (Kn : Option Value → ab_H → Prop) : ab_P := ab_ald 0 (ab_ild 1 (ab_ild 2 (ab_ild 3 (ab_ild 4 (ab_ild 5 (ab_cV w 6 3 s_X3_stationRefusal (ab_if1 (fun x => x = 0) (ab_ald 0 (ab_gr w 3 1 (ab_ild 1 (ab_ild 2 (ab_ild 3 (ab_cV w 4 7 s_X7_add (ab_ald 0 (ab_gr w 3 1 (ab_ald 0 (ab_gr w 3 1 (ab_gf w 7 0 (ab_ci (nI 1) (ab_b2 (fun x y => x - y) (ab_ild 4 (ab_ild 5 (ab_cV w 4 7 s_X7_receive (ab_ci (nI 1) (ab_zr Kn)))))))))))))))))) (ab_ci (nI 0) (ab_zr Kn)))))))))
set_option maxRecDepth 20000 in
set_option maxHeartbeats 2000000 in
theorem vc_X3_tryStation {l : Launch} (hl : l.stackTraces = false) {w : ab_W} (hI : ab_Inj w) {mc : Nat} {σ : ab_H} {As : List Value} {Kn : Option Value → ab_H → Prop} {Kx : String → ab_H → Prop} {s_X3_stationRefusal : ab_S} (ok_X3_stationRefusal : ab_OkN l yX3_stationRefusal (Cond.code yX3_stationRefusal cX3_stationRefusal 6 (some .int)) 2 s_X3_stationRefusal) {s_X7_add : ab_S} (ok_X7_add : ab_OkN l yX7_add (Cond.code yX7_add cX7_add 4 none) 1 s_X7_add) {s_X7_receive : ab_S} (ok_X7_receive : ab_OkN l yX7_receive (Cond.code yX7_receive cX7_receive 4 none) 2 s_X7_receive) (hlen : (ab_xl As).length ≤ 6) (h : ∀ M : Nat → ab_P, (∀ L st σ, bX3_tryStation_0 w s_X3_stationRefusal s_X7_add s_X7_receive M Kn L st σ → M 0 L st σ) → M 0 (ab_pd 6 (ab_xl As)) [] σ) : ab_Met l yX3_tryStation (Cond.code yX3_tryStation cX3_tryStation 6 (some .boolean)) 3 mc w σ As Kn Kx := by
  refine ab_enter (by decide) hl hI hlen (by decide) ?_
  intro p e R s m args below meth c C hno hr
  exact h _ (sd_aload_n C (i := 0) dX3_tryStation_0 rfl (sd_iload_n C (i := 1) dX3_tryStation_1 rfl (sd_iload_n C (i := 2) dX3_tryStation_2 rfl (sd_iload_n C (i := 3) dX3_tryStation_3 rfl (sd_iload C dX3_tryStation_4 (sd_iload C dX3_tryStation_6 (sd_cV C ok_X3_stationRefusal (ci := 3) (row := (RX3, TX3, 13)) rfl rfl ⟨by decide, by decide, wd_474, wd_3, by decide +kernel⟩ wd_471 wd_472 wd_473 dX3_tryStation_8 (sd_if_eq C dX3_tryStation_11 (tgt := 16) (by decide) (sd_aload_n C (i := 0) dX3_tryStation_16 rfl (sd_gr C (ci := 3) (k := 0) (r := (RX3, TX3, 13)) rfl (by decide) rfl wd_203 dX3_tryStation_17 (sd_iload_n C (i := 1) dX3_tryStation_20 rfl (sd_iload_n C (i := 2) dX3_tryStation_21 rfl (sd_iload_n C (i := 3) dX3_tryStation_22 rfl (sd_cV C ok_X7_add (ci := 7) (row := (RX7, TX7, 8)) rfl rfl ⟨by decide, by decide, wd_481, wd_4, by decide +kernel⟩ wd_478 wd_479 wd_480 dX3_tryStation_23 (sd_aload_n C (i := 0) dX3_tryStation_26 rfl (sd_gr C (ci := 3) (k := 0) (r := (RX3, TX3, 13)) rfl (by decide) rfl wd_203 dX3_tryStation_27 (sd_aload_n C (i := 0) dX3_tryStation_30 rfl (sd_gr C (ci := 3) (k := 0) (r := (RX3, TX3, 13)) rfl (by decide) rfl wd_203 dX3_tryStation_31 (sd_gf C (ci := 7) (k := 0) (r := (RX7, TX7, 8)) rfl (by decide) rfl wd_67 dX3_tryStation_34 (sd_iconst C (x := nI 1) dX3_tryStation_37 (by decide +kernel) (sd_isub C dX3_tryStation_38 (sd_iload C dX3_tryStation_39 (sd_iload C dX3_tryStation_41 (sd_cV C ok_X7_receive (ci := 7) (row := (RX7, TX7, 8)) rfl rfl ⟨by decide, by decide, wd_485, wd_4, by decide +kernel⟩ wd_482 wd_483 wd_484 dX3_tryStation_43 (sd_iconst C (x := nI 1) dX3_tryStation_46 (by decide +kernel) (sd_zr C hr dX3_tryStation_47)))))))))))))))))) (sd_iconst C (x := nI 0) dX3_tryStation_14 (by decide +kernel) (sd_zr C hr dX3_tryStation_15))))))))))
theorem dX3_finderRefusal_0 : decode cX3_finderRefusal 0 = .ok (.iload_n 1, 1) := by decide +kernel
theorem dX3_finderRefusal_1 : decode cX3_finderRefusal 1 = .ok (.iconst 0, 1) := by decide +kernel
theorem dX3_finderRefusal_2 : decode cX3_finderRefusal 2 = .ok (.bipush 99, 2) := by decide +kernel
theorem dX3_finderRefusal_4 : decode cX3_finderRefusal 4 = .ok (.invokestatic 92, 3) := by decide +kernel
theorem dX3_finderRefusal_7 : decode cX3_finderRefusal 7 = .ok (.ifCond .eq 23, 3) := by decide +kernel
theorem dX3_finderRefusal_10 : decode cX3_finderRefusal 10 = .ok (.iload_n 2, 1) := by decide +kernel
theorem dX3_finderRefusal_11 : decode cX3_finderRefusal 11 = .ok (.iconst 0, 1) := by decide +kernel
theorem dX3_finderRefusal_12 : decode cX3_finderRefusal 12 = .ok (.bipush 20, 2) := by decide +kernel
theorem dX3_finderRefusal_14 : decode cX3_finderRefusal 14 = .ok (.invokestatic 92, 3) := by decide +kernel
theorem dX3_finderRefusal_17 : decode cX3_finderRefusal 17 = .ok (.ifCond .eq 13, 3) := by decide +kernel
theorem dX3_finderRefusal_20 : decode cX3_finderRefusal 20 = .ok (.iload_n 3, 1) := by decide +kernel
theorem dX3_finderRefusal_21 : decode cX3_finderRefusal 21 = .ok (.iconst 1, 1) := by decide +kernel
theorem dX3_finderRefusal_22 : decode cX3_finderRefusal 22 = .ok (.bipush 30, 2) := by decide +kernel
theorem dX3_finderRefusal_24 : decode cX3_finderRefusal 24 = .ok (.invokestatic 92, 3) := by decide +kernel
theorem dX3_finderRefusal_27 : decode cX3_finderRefusal 27 = .ok (.ifCond .ne 5, 3) := by decide +kernel
theorem dX3_finderRefusal_30 : decode cX3_finderRefusal 30 = .ok (.iconst 2, 1) := by decide +kernel
theorem dX3_finderRefusal_31 : decode cX3_finderRefusal 31 = .ok (.ireturn, 1) := by decide +kernel
theorem dX3_finderRefusal_32 : decode cX3_finderRefusal 32 = .ok (.aload_n 0, 1) := by decide +kernel
theorem dX3_finderRefusal_33 : decode cX3_finderRefusal 33 = .ok (.getfield 21, 3) := by decide +kernel
theorem dX3_finderRefusal_36 : decode cX3_finderRefusal 36 = .ok (.getfield 110, 3) := by decide +kernel
theorem dX3_finderRefusal_39 : decode cX3_finderRefusal 39 = .ok (.bipush 6, 2) := by decide +kernel
theorem dX3_finderRefusal_41 : decode cX3_finderRefusal 41 = .ok (.if_icmp .ge 7, 3) := by decide +kernel
theorem dX3_finderRefusal_44 : decode cX3_finderRefusal 44 = .ok (.iconst 0, 1) := by decide +kernel
theorem dX3_finderRefusal_45 : decode cX3_finderRefusal 45 = .ok (.goto 4, 3) := by decide +kernel
theorem dX3_finderRefusal_48 : decode cX3_finderRefusal 48 = .ok (.iconst 3, 1) := by decide +kernel
theorem dX3_finderRefusal_49 : decode cX3_finderRefusal 49 = .ok (.ireturn, 1) := by decide +kernel
def bX3_finderRefusal_0 (w : ab_W) (s_X9_within : ab_S) (M : Nat → ab_P) (Kn : Option Value → ab_H → Prop) : ab_P := ab_ild 1 (ab_ci (nI 0) (ab_ci (nI 99) (ab_cN w 3 s_X9_within (ab_if1 (fun x => x = 0) (M 30) (ab_ild 2 (ab_ci (nI 0) (ab_ci (nI 20) (ab_cN w 3 s_X9_within (ab_if1 (fun x => x = 0) (M 30) (ab_ild 3 (ab_ci (nI 1) (ab_ci (nI 30) (ab_cN w 3 s_X9_within (ab_if1 (fun x => ¬ x = 0) (ab_ald 0 (ab_gr w 3 9 (ab_gf w 0 0 (ab_ci (nI 6) (ab_if2 (fun x y => y ≤ x) (ab_ci (nI 3) (M 49)) (ab_ci (nI 0) (M 49))))))) (M 30)))))))))))))))
def bX3_finderRefusal_30 (w : ab_W) (s_X9_within : ab_S) (M : Nat → ab_P) (Kn : Option Value → ab_H → Prop) : ab_P := ab_ci (nI 2) (ab_ir Kn)
def bX3_finderRefusal_49 (w : ab_W) (s_X9_within : ab_S) (M : Nat → ab_P) (Kn : Option Value → ab_H → Prop) : ab_P := ab_ir Kn
set_option maxRecDepth 20000 in
set_option maxHeartbeats 2000000 in
theorem vc_X3_finderRefusal {l : Launch} (hl : l.stackTraces = false) {w : ab_W} (hI : ab_Inj w) {mc : Nat} {σ : ab_H} {As : List Value} {Kn : Option Value → ab_H → Prop} {Kx : String → ab_H → Prop} {s_X9_within : ab_S} (ok_X9_within : ab_OkN l yX9_within (Cond.code yX9_within cX9_within 3 (some .boolean)) 1 s_X9_within) (hlen : (ab_xl As).length ≤ 4) (h : ∀ M : Nat → ab_P, (∀ L st σ, bX3_finderRefusal_0 w s_X9_within M Kn L st σ → M 0 L st σ) → (∀ L st σ, bX3_finderRefusal_30 w s_X9_within M Kn L st σ → M 30 L st σ) → (∀ L st σ, bX3_finderRefusal_49 w s_X9_within M Kn L st σ → M 49 L st σ) → M 0 (ab_pd 4 (ab_xl As)) [] σ) : ab_Met l yX3_finderRefusal (Cond.code yX3_finderRefusal cX3_finderRefusal 4 (some .int)) 2 mc w σ As Kn Kx := by
  refine ab_enter (by decide) hl hI hlen (by decide) ?_
  intro p e R s m args below meth c C hno hr
  exact h _ (sd_iload_n C (i := 1) dX3_finderRefusal_0 rfl (sd_iconst C (x := nI 0) dX3_finderRefusal_1 (by decide +kernel) (sd_bipush C (x := nI 99) dX3_finderRefusal_2 (by decide +kernel) (sd_cSN C ok_X9_within ⟨by decide, by decide, wd_477, wd_1, by decide +kernel⟩ wn_475 wd_476 dX3_finderRefusal_4 (sd_if_eq C dX3_finderRefusal_7 (tgt := 30) (by decide) (fun _ _ _ h => h) (sd_iload_n C (i := 2) dX3_finderRefusal_10 rfl (sd_iconst C (x := nI 0) dX3_finderRefusal_11 (by decide +kernel) (sd_bipush C (x := nI 20) dX3_finderRefusal_12 (by decide +kernel) (sd_cSN C ok_X9_within ⟨by decide, by decide, wd_477, wd_1, by decide +kernel⟩ wn_475 wd_476 dX3_finderRefusal_14 (sd_if_eq C dX3_finderRefusal_17 (tgt := 30) (by decide) (fun _ _ _ h => h) (sd_iload_n C (i := 3) dX3_finderRefusal_20 rfl (sd_iconst C (x := nI 1) dX3_finderRefusal_21 (by decide +kernel) (sd_bipush C (x := nI 30) dX3_finderRefusal_22 (by decide +kernel) (sd_cSN C ok_X9_within ⟨by decide, by decide, wd_477, wd_1, by decide +kernel⟩ wn_475 wd_476 dX3_finderRefusal_24 (sd_if_ne C dX3_finderRefusal_27 (tgt := 32) (by decide) (sd_aload_n C (i := 0) dX3_finderRefusal_32 rfl (sd_gr C (ci := 3) (k := 1) (r := (RX3, TX3, 13)) rfl (by decide) rfl wd_205 dX3_finderRefusal_33 (sd_gf C (ci := 0) (k := 0) (r := (RX0, TX0, 5)) rfl (by decide) rfl wd_112 dX3_finderRefusal_36 (sd_bipush C (x := nI 6) dX3_finderRefusal_39 (by decide +kernel) (sd_icmp_ge C dX3_finderRefusal_41 (tgt := 48) (by decide) (sd_iconst C (x := nI 3) dX3_finderRefusal_48 (by decide +kernel) (fun _ _ _ h => h)) (sd_iconst C (x := nI 0) dX3_finderRefusal_44 (by decide +kernel) (sd_goto C dX3_finderRefusal_45 (tgt := 49) (by decide) (fun _ _ _ h => h)))))))) (fun _ _ _ h => h))))))))))))))))
    (sd_iconst C (x := nI 2) dX3_finderRefusal_30 (by decide +kernel) (sd_ir C hr dX3_finderRefusal_31))
    (sd_ir C hr dX3_finderRefusal_49)
theorem dX3_tryFinder_0 : decode cX3_tryFinder 0 = .ok (.aload_n 0, 1) := by decide +kernel
theorem dX3_tryFinder_1 : decode cX3_tryFinder 1 = .ok (.iload_n 1, 1) := by decide +kernel
theorem dX3_tryFinder_2 : decode cX3_tryFinder 2 = .ok (.iload_n 2, 1) := by decide +kernel
theorem dX3_tryFinder_3 : decode cX3_tryFinder 3 = .ok (.iload_n 3, 1) := by decide +kernel
theorem dX3_tryFinder_4 : decode cX3_tryFinder 4 = .ok (.invokevirtual 111, 3) := by decide +kernel
theorem dX3_tryFinder_7 : decode cX3_tryFinder 7 = .ok (.ifCond .eq 5, 3) := by decide +kernel
theorem dX3_tryFinder_10 : decode cX3_tryFinder 10 = .ok (.iconst 0, 1) := by decide +kernel
theorem dX3_tryFinder_11 : decode cX3_tryFinder 11 = .ok (.ireturn, 1) := by decide +kernel
theorem dX3_tryFinder_12 : decode cX3_tryFinder 12 = .ok (.aload_n 0, 1) := by decide +kernel
theorem dX3_tryFinder_13 : decode cX3_tryFinder 13 = .ok (.getfield 21, 3) := by decide +kernel
theorem dX3_tryFinder_16 : decode cX3_tryFinder 16 = .ok (.iload_n 1, 1) := by decide +kernel
theorem dX3_tryFinder_17 : decode cX3_tryFinder 17 = .ok (.iload_n 2, 1) := by decide +kernel
theorem dX3_tryFinder_18 : decode cX3_tryFinder 18 = .ok (.iload_n 3, 1) := by decide +kernel
theorem dX3_tryFinder_19 : decode cX3_tryFinder 19 = .ok (.invokevirtual 115, 3) := by decide +kernel
theorem dX3_tryFinder_22 : decode cX3_tryFinder 22 = .ok (.iconst 1, 1) := by decide +kernel
theorem dX3_tryFinder_23 : decode cX3_tryFinder 23 = .ok (.ireturn, 1) := by decide +kernel
def bX3_tryFinder_0 (w : ab_W) (s_X3_finderRefusal : ab_S) (s_X0_add : ab_S) (M : Nat → ab_P) (Kn : Option Value → ab_H → Prop) : ab_P := ab_ald 0 (ab_ild 1 (ab_ild 2 (ab_ild 3 (ab_cV w 4 3 s_X3_finderRefusal (ab_if1 (fun x => x = 0) (ab_ald 0 (ab_gr w 3 9 (ab_ild 1 (ab_ild 2 (ab_ild 3 (ab_cV w 4 0 s_X0_add (ab_ci (nI 1) (ab_zr Kn)))))))) (ab_ci (nI 0) (ab_zr Kn)))))))
set_option maxRecDepth 20000 in
set_option maxHeartbeats 2000000 in
theorem vc_X3_tryFinder {l : Launch} (hl : l.stackTraces = false) {w : ab_W} (hI : ab_Inj w) {mc : Nat} {σ : ab_H} {As : List Value} {Kn : Option Value → ab_H → Prop} {Kx : String → ab_H → Prop} {s_X3_finderRefusal : ab_S} (ok_X3_finderRefusal : ab_OkN l yX3_finderRefusal (Cond.code yX3_finderRefusal cX3_finderRefusal 4 (some .int)) 2 s_X3_finderRefusal) {s_X0_add : ab_S} (ok_X0_add : ab_OkN l yX0_add (Cond.code yX0_add cX0_add 4 none) 1 s_X0_add) (hlen : (ab_xl As).length ≤ 4) (h : ∀ M : Nat → ab_P, (∀ L st σ, bX3_tryFinder_0 w s_X3_finderRefusal s_X0_add M Kn L st σ → M 0 L st σ) → M 0 (ab_pd 4 (ab_xl As)) [] σ) : ab_Met l yX3_tryFinder (Cond.code yX3_tryFinder cX3_tryFinder 4 (some .boolean)) 3 mc w σ As Kn Kx := by
  refine ab_enter (by decide) hl hI hlen (by decide) ?_
  intro p e R s m args below meth c C hno hr
  exact h _ (sd_aload_n C (i := 0) dX3_tryFinder_0 rfl (sd_iload_n C (i := 1) dX3_tryFinder_1 rfl (sd_iload_n C (i := 2) dX3_tryFinder_2 rfl (sd_iload_n C (i := 3) dX3_tryFinder_3 rfl (sd_cV C ok_X3_finderRefusal (ci := 3) (row := (RX3, TX3, 13)) rfl rfl ⟨by decide, by decide, wd_497, wd_3, by decide +kernel⟩ wd_494 wd_495 wd_496 dX3_tryFinder_4 (sd_if_eq C dX3_tryFinder_7 (tgt := 12) (by decide) (sd_aload_n C (i := 0) dX3_tryFinder_12 rfl (sd_gr C (ci := 3) (k := 1) (r := (RX3, TX3, 13)) rfl (by decide) rfl wd_205 dX3_tryFinder_13 (sd_iload_n C (i := 1) dX3_tryFinder_16 rfl (sd_iload_n C (i := 2) dX3_tryFinder_17 rfl (sd_iload_n C (i := 3) dX3_tryFinder_18 rfl (sd_cV C ok_X0_add (ci := 0) (row := (RX0, TX0, 5)) rfl rfl ⟨by decide, by decide, wd_501, wd_5, by decide +kernel⟩ wd_498 wd_499 wd_500 dX3_tryFinder_19 (sd_iconst C (x := nI 1) dX3_tryFinder_22 (by decide +kernel) (sd_zr C hr dX3_tryFinder_23)))))))) (sd_iconst C (x := nI 0) dX3_tryFinder_10 (by decide +kernel) (sd_zr C hr dX3_tryFinder_11))))))))
theorem dX3_windRefusal_0 : decode cX3_windRefusal 0 = .ok (.iload_n 1, 1) := by decide +kernel
theorem dX3_windRefusal_1 : decode cX3_windRefusal 1 = .ok (.iconst 0, 1) := by decide +kernel
theorem dX3_windRefusal_2 : decode cX3_windRefusal 2 = .ok (.iconst 3, 1) := by decide +kernel
theorem dX3_windRefusal_3 : decode cX3_windRefusal 3 = .ok (.invokestatic 92, 3) := by decide +kernel
theorem dX3_windRefusal_6 : decode cX3_windRefusal 6 = .ok (.ifCond .eq 18, 3) := by decide +kernel
theorem dX3_windRefusal_9 : decode cX3_windRefusal 9 = .ok (.iload_n 2, 1) := by decide +kernel
theorem dX3_windRefusal_10 : decode cX3_windRefusal 10 = .ok (.bipush (-20), 2) := by decide +kernel
theorem dX3_windRefusal_12 : decode cX3_windRefusal 12 = .ok (.bipush 20, 2) := by decide +kernel
theorem dX3_windRefusal_14 : decode cX3_windRefusal 14 = .ok (.invokestatic 92, 3) := by decide +kernel
theorem dX3_windRefusal_17 : decode cX3_windRefusal 17 = .ok (.ifCond .eq 7, 3) := by decide +kernel
theorem dX3_windRefusal_20 : decode cX3_windRefusal 20 = .ok (.iconst 0, 1) := by decide +kernel
theorem dX3_windRefusal_21 : decode cX3_windRefusal 21 = .ok (.goto 4, 3) := by decide +kernel
theorem dX3_windRefusal_24 : decode cX3_windRefusal 24 = .ok (.iconst 2, 1) := by decide +kernel
theorem dX3_windRefusal_25 : decode cX3_windRefusal 25 = .ok (.ireturn, 1) := by decide +kernel
def bX3_windRefusal_0 (w : ab_W) (s_X9_within : ab_S) (M : Nat → ab_P) (Kn : Option Value → ab_H → Prop) : ab_P := ab_ild 1 (ab_ci (nI 0) (ab_ci (nI 3) (ab_cN w 3 s_X9_within (ab_if1 (fun x => x = 0) (M 24) (ab_ild 2 (ab_ci (-20) (ab_ci (nI 20) (ab_cN w 3 s_X9_within (ab_if1 (fun x => x = 0) (M 24) (ab_ci (nI 0) (M 25)))))))))))
def bX3_windRefusal_24 (w : ab_W) (s_X9_within : ab_S) (M : Nat → ab_P) (Kn : Option Value → ab_H → Prop) : ab_P := ab_ci (nI 2) (M 25)
def bX3_windRefusal_25 (w : ab_W) (s_X9_within : ab_S) (M : Nat → ab_P) (Kn : Option Value → ab_H → Prop) : ab_P := ab_ir Kn
set_option maxRecDepth 20000 in
set_option maxHeartbeats 2000000 in
theorem vc_X3_windRefusal {l : Launch} (hl : l.stackTraces = false) {w : ab_W} (hI : ab_Inj w) {mc : Nat} {σ : ab_H} {As : List Value} {Kn : Option Value → ab_H → Prop} {Kx : String → ab_H → Prop} {s_X9_within : ab_S} (ok_X9_within : ab_OkN l yX9_within (Cond.code yX9_within cX9_within 3 (some .boolean)) 1 s_X9_within) (hlen : (ab_xl As).length ≤ 3) (h : ∀ M : Nat → ab_P, (∀ L st σ, bX3_windRefusal_0 w s_X9_within M Kn L st σ → M 0 L st σ) → (∀ L st σ, bX3_windRefusal_24 w s_X9_within M Kn L st σ → M 24 L st σ) → (∀ L st σ, bX3_windRefusal_25 w s_X9_within M Kn L st σ → M 25 L st σ) → M 0 (ab_pd 3 (ab_xl As)) [] σ) : ab_Met l yX3_windRefusal (Cond.code yX3_windRefusal cX3_windRefusal 3 (some .int)) 2 mc w σ As Kn Kx := by
  refine ab_enter (by decide) hl hI hlen (by decide) ?_
  intro p e R s m args below meth c C hno hr
  exact h _ (sd_iload_n C (i := 1) dX3_windRefusal_0 rfl (sd_iconst C (x := nI 0) dX3_windRefusal_1 (by decide +kernel) (sd_iconst C (x := nI 3) dX3_windRefusal_2 (by decide +kernel) (sd_cSN C ok_X9_within ⟨by decide, by decide, wd_477, wd_1, by decide +kernel⟩ wn_475 wd_476 dX3_windRefusal_3 (sd_if_eq C dX3_windRefusal_6 (tgt := 24) (by decide) (fun _ _ _ h => h) (sd_iload_n C (i := 2) dX3_windRefusal_9 rfl (sd_bipush C (x := -20) dX3_windRefusal_10 (by decide +kernel) (sd_bipush C (x := nI 20) dX3_windRefusal_12 (by decide +kernel) (sd_cSN C ok_X9_within ⟨by decide, by decide, wd_477, wd_1, by decide +kernel⟩ wn_475 wd_476 dX3_windRefusal_14 (sd_if_eq C dX3_windRefusal_17 (tgt := 24) (by decide) (fun _ _ _ h => h) (sd_iconst C (x := nI 0) dX3_windRefusal_20 (by decide +kernel) (sd_goto C dX3_windRefusal_21 (tgt := 25) (by decide) (fun _ _ _ h => h)))))))))))))
    (sd_iconst C (x := nI 2) dX3_windRefusal_24 (by decide +kernel) (fun _ _ _ h => h))
    (sd_ir C hr dX3_windRefusal_25)
theorem dX3_tryWind_0 : decode cX3_tryWind 0 = .ok (.aload_n 0, 1) := by decide +kernel
theorem dX3_tryWind_1 : decode cX3_tryWind 1 = .ok (.iload_n 1, 1) := by decide +kernel
theorem dX3_tryWind_2 : decode cX3_tryWind 2 = .ok (.iload_n 2, 1) := by decide +kernel
theorem dX3_tryWind_3 : decode cX3_tryWind 3 = .ok (.invokevirtual 116, 3) := by decide +kernel
theorem dX3_tryWind_6 : decode cX3_tryWind 6 = .ok (.ifCond .eq 5, 3) := by decide +kernel
theorem dX3_tryWind_9 : decode cX3_tryWind 9 = .ok (.iconst 0, 1) := by decide +kernel
theorem dX3_tryWind_10 : decode cX3_tryWind 10 = .ok (.ireturn, 1) := by decide +kernel
theorem dX3_tryWind_11 : decode cX3_tryWind 11 = .ok (.aload_n 0, 1) := by decide +kernel
theorem dX3_tryWind_12 : decode cX3_tryWind 12 = .ok (.getfield 46, 3) := by decide +kernel
theorem dX3_tryWind_15 : decode cX3_tryWind 15 = .ok (.iload_n 1, 1) := by decide +kernel
theorem dX3_tryWind_16 : decode cX3_tryWind 16 = .ok (.iload_n 2, 1) := by decide +kernel
theorem dX3_tryWind_17 : decode cX3_tryWind 17 = .ok (.iastore, 1) := by decide +kernel
theorem dX3_tryWind_18 : decode cX3_tryWind 18 = .ok (.iconst 1, 1) := by decide +kernel
theorem dX3_tryWind_19 : decode cX3_tryWind 19 = .ok (.ireturn, 1) := by decide +kernel
def bX3_tryWind_0 (w : ab_W) (s_X3_windRefusal : ab_S) (M : Nat → ab_P) (Kn : Option Value → ab_H → Prop) : ab_P := ab_ald 0 (ab_ild 1 (ab_ild 2 (ab_cV w 3 3 s_X3_windRefusal (ab_if1 (fun x => x = 0) (ab_ald 0 (ab_gr w 3 27 (ab_ild 1 (ab_ild 2 (ab_is w (ab_ci (nI 1) (ab_zr Kn))))))) (ab_ci (nI 0) (ab_zr Kn))))))
set_option maxRecDepth 20000 in
set_option maxHeartbeats 2000000 in
theorem vc_X3_tryWind {l : Launch} (hl : l.stackTraces = false) {w : ab_W} (hI : ab_Inj w) {mc : Nat} {σ : ab_H} {As : List Value} {Kn : Option Value → ab_H → Prop} {Kx : String → ab_H → Prop} {s_X3_windRefusal : ab_S} (ok_X3_windRefusal : ab_OkN l yX3_windRefusal (Cond.code yX3_windRefusal cX3_windRefusal 3 (some .int)) 2 s_X3_windRefusal) (hlen : (ab_xl As).length ≤ 3) (h : ∀ M : Nat → ab_P, (∀ L st σ, bX3_tryWind_0 w s_X3_windRefusal M Kn L st σ → M 0 L st σ) → M 0 (ab_pd 3 (ab_xl As)) [] σ) : ab_Met l yX3_tryWind (Cond.code yX3_tryWind cX3_tryWind 3 (some .boolean)) 3 mc w σ As Kn Kx := by
  refine ab_enter (by decide) hl hI hlen (by decide) ?_
  intro p e R s m args below meth c C hno hr
  exact h _ (sd_aload_n C (i := 0) dX3_tryWind_0 rfl (sd_iload_n C (i := 1) dX3_tryWind_1 rfl (sd_iload_n C (i := 2) dX3_tryWind_2 rfl (sd_cV C ok_X3_windRefusal (ci := 3) (row := (RX3, TX3, 13)) rfl rfl ⟨by decide, by decide, wd_509, wd_3, by decide +kernel⟩ wd_506 wd_507 wd_508 dX3_tryWind_3 (sd_if_eq C dX3_tryWind_6 (tgt := 11) (by decide) (sd_aload_n C (i := 0) dX3_tryWind_11 rfl (sd_gr C (ci := 3) (k := 5) (r := (RX3, TX3, 13)) rfl (by decide) rfl wd_213 dX3_tryWind_12 (sd_iload_n C (i := 1) dX3_tryWind_15 rfl (sd_iload_n C (i := 2) dX3_tryWind_16 rfl (sd_is C dX3_tryWind_17 (sd_iconst C (x := nI 1) dX3_tryWind_18 (by decide +kernel) (sd_zr C hr dX3_tryWind_19))))))) (sd_iconst C (x := nI 0) dX3_tryWind_9 (by decide +kernel) (sd_zr C hr dX3_tryWind_10)))))))
theorem dX3_changeRefusal_0 : decode cX3_changeRefusal 0 = .ok (.aload_n 0, 1) := by decide +kernel
theorem dX3_changeRefusal_1 : decode cX3_changeRefusal 1 = .ok (.getfield 12, 3) := by decide +kernel
theorem dX3_changeRefusal_4 : decode cX3_changeRefusal 4 = .ok (.iload_n 1, 1) := by decide +kernel
theorem dX3_changeRefusal_5 : decode cX3_changeRefusal 5 = .ok (.invokevirtual 120, 3) := by decide +kernel
theorem dX3_changeRefusal_8 : decode cX3_changeRefusal 8 = .ok (.ifCond .ne 5, 3) := by decide +kernel
theorem dX3_changeRefusal_11 : decode cX3_changeRefusal 11 = .ok (.iconst 1, 1) := by decide +kernel
theorem dX3_changeRefusal_12 : decode cX3_changeRefusal 12 = .ok (.ireturn, 1) := by decide +kernel
theorem dX3_changeRefusal_13 : decode cX3_changeRefusal 13 = .ok (.iload_n 2, 1) := by decide +kernel
theorem dX3_changeRefusal_14 : decode cX3_changeRefusal 14 = .ok (.iconst 0, 1) := by decide +kernel
theorem dX3_changeRefusal_15 : decode cX3_changeRefusal 15 = .ok (.bipush 15, 2) := by decide +kernel
theorem dX3_changeRefusal_17 : decode cX3_changeRefusal 17 = .ok (.invokestatic 92, 3) := by decide +kernel
theorem dX3_changeRefusal_20 : decode cX3_changeRefusal 20 = .ok (.ifCond .eq 16, 3) := by decide +kernel
theorem dX3_changeRefusal_23 : decode cX3_changeRefusal 23 = .ok (.iload_n 3, 1) := by decide +kernel
theorem dX3_changeRefusal_24 : decode cX3_changeRefusal 24 = .ok (.iconst 1, 1) := by decide +kernel
theorem dX3_changeRefusal_25 : decode cX3_changeRefusal 25 = .ok (.iconst 5, 1) := by decide +kernel
theorem dX3_changeRefusal_26 : decode cX3_changeRefusal 26 = .ok (.invokestatic 92, 3) := by decide +kernel
theorem dX3_changeRefusal_29 : decode cX3_changeRefusal 29 = .ok (.ifCond .eq 7, 3) := by decide +kernel
theorem dX3_changeRefusal_32 : decode cX3_changeRefusal 32 = .ok (.iconst 0, 1) := by decide +kernel
theorem dX3_changeRefusal_33 : decode cX3_changeRefusal 33 = .ok (.goto 4, 3) := by decide +kernel
theorem dX3_changeRefusal_36 : decode cX3_changeRefusal 36 = .ok (.iconst 2, 1) := by decide +kernel
theorem dX3_changeRefusal_37 : decode cX3_changeRefusal 37 = .ok (.ireturn, 1) := by decide +kernel
def bX3_changeRefusal_0 (w : ab_W) (s_X7_has : ab_S) (s_X9_within : ab_S) (M : Nat → ab_P) (Kn : Option Value → ab_H → Prop) : ab_P := ab_ald 0 (ab_gr w 3 1 (ab_ild 1 (ab_cV w 2 7 s_X7_has (ab_if1 (fun x => ¬ x = 0) (ab_ild 2 (ab_ci (nI 0) (ab_ci (nI 15) (ab_cN w 3 s_X9_within (ab_if1 (fun x => x = 0) (M 36) (ab_ild 3 (ab_ci (nI 1) (ab_ci (nI 5) (ab_cN w 3 s_X9_within (ab_if1 (fun x => x = 0) (M 36) (ab_ci (nI 0) (M 37)))))))))))) (ab_ci (nI 1) (ab_ir Kn))))))
def bX3_changeRefusal_36 (w : ab_W) (s_X7_has : ab_S) (s_X9_within : ab_S) (M : Nat → ab_P) (Kn : Option Value → ab_H → Prop) : ab_P := ab_ci (nI 2) (M 37)
def bX3_changeRefusal_37 (w : ab_W) (s_X7_has : ab_S) (s_X9_within : ab_S) (M : Nat → ab_P) (Kn : Option Value → ab_H → Prop) : ab_P := ab_ir Kn
set_option maxRecDepth 20000 in
set_option maxHeartbeats 2000000 in
theorem vc_X3_changeRefusal {l : Launch} (hl : l.stackTraces = false) {w : ab_W} (hI : ab_Inj w) {mc : Nat} {σ : ab_H} {As : List Value} {Kn : Option Value → ab_H → Prop} {Kx : String → ab_H → Prop} {s_X7_has : ab_S} (ok_X7_has : ab_OkN l yX7_has (Cond.code yX7_has cX7_has 2 (some .boolean)) 1 s_X7_has) {s_X9_within : ab_S} (ok_X9_within : ab_OkN l yX9_within (Cond.code yX9_within cX9_within 3 (some .boolean)) 1 s_X9_within) (hlen : (ab_xl As).length ≤ 4) (h : ∀ M : Nat → ab_P, (∀ L st σ, bX3_changeRefusal_0 w s_X7_has s_X9_within M Kn L st σ → M 0 L st σ) → (∀ L st σ, bX3_changeRefusal_36 w s_X7_has s_X9_within M Kn L st σ → M 36 L st σ) → (∀ L st σ, bX3_changeRefusal_37 w s_X7_has s_X9_within M Kn L st σ → M 37 L st σ) → M 0 (ab_pd 4 (ab_xl As)) [] σ) : ab_Met l yX3_changeRefusal (Cond.code yX3_changeRefusal cX3_changeRefusal 4 (some .int)) 2 mc w σ As Kn Kx := by
  refine ab_enter (by decide) hl hI hlen (by decide) ?_
  intro p e R s m args below meth c C hno hr
  exact h _ (sd_aload_n C (i := 0) dX3_changeRefusal_0 rfl (sd_gr C (ci := 3) (k := 0) (r := (RX3, TX3, 13)) rfl (by decide) rfl wd_203 dX3_changeRefusal_1 (sd_iload_n C (i := 1) dX3_changeRefusal_4 rfl (sd_cV C ok_X7_has (ci := 7) (row := (RX7, TX7, 8)) rfl rfl ⟨by decide, by decide, wd_489, wd_4, by decide +kernel⟩ wd_518 wd_487 wd_488 dX3_changeRefusal_5 (sd_if_ne C dX3_changeRefusal_8 (tgt := 13) (by decide) (sd_iload_n C (i := 2) dX3_changeRefusal_13 rfl (sd_iconst C (x := nI 0) dX3_changeRefusal_14 (by decide +kernel) (sd_bipush C (x := nI 15) dX3_changeRefusal_15 (by decide +kernel) (sd_cSN C ok_X9_within ⟨by decide, by decide, wd_477, wd_1, by decide +kernel⟩ wn_475 wd_476 dX3_changeRefusal_17 (sd_if_eq C dX3_changeRefusal_20 (tgt := 36) (by decide) (fun _ _ _ h => h) (sd_iload_n C (i := 3) dX3_changeRefusal_23 rfl (sd_iconst C (x := nI 1) dX3_changeRefusal_24 (by decide +kernel) (sd_iconst C (x := nI 5) dX3_changeRefusal_25 (by decide +kernel) (sd_cSN C ok_X9_within ⟨by decide, by decide, wd_477, wd_1, by decide +kernel⟩ wn_475 wd_476 dX3_changeRefusal_26 (sd_if_eq C dX3_changeRefusal_29 (tgt := 36) (by decide) (fun _ _ _ h => h) (sd_iconst C (x := nI 0) dX3_changeRefusal_32 (by decide +kernel) (sd_goto C dX3_changeRefusal_33 (tgt := 37) (by decide) (fun _ _ _ h => h))))))))))))) (sd_iconst C (x := nI 1) dX3_changeRefusal_11 (by decide +kernel) (sd_ir C hr dX3_changeRefusal_12)))))))
    (sd_iconst C (x := nI 2) dX3_changeRefusal_36 (by decide +kernel) (fun _ _ _ h => h))
    (sd_ir C hr dX3_changeRefusal_37)
theorem dX3_tryChange_0 : decode cX3_tryChange 0 = .ok (.aload_n 0, 1) := by decide +kernel
theorem dX3_tryChange_1 : decode cX3_tryChange 1 = .ok (.iload_n 1, 1) := by decide +kernel
theorem dX3_tryChange_2 : decode cX3_tryChange 2 = .ok (.iload_n 2, 1) := by decide +kernel
theorem dX3_tryChange_3 : decode cX3_tryChange 3 = .ok (.iload_n 3, 1) := by decide +kernel
theorem dX3_tryChange_4 : decode cX3_tryChange 4 = .ok (.invokevirtual 124, 3) := by decide +kernel
theorem dX3_tryChange_7 : decode cX3_tryChange 7 = .ok (.ifCond .eq 5, 3) := by decide +kernel
theorem dX3_tryChange_10 : decode cX3_tryChange 10 = .ok (.iconst 0, 1) := by decide +kernel
theorem dX3_tryChange_11 : decode cX3_tryChange 11 = .ok (.ireturn, 1) := by decide +kernel
theorem dX3_tryChange_12 : decode cX3_tryChange 12 = .ok (.aload_n 0, 1) := by decide +kernel
theorem dX3_tryChange_13 : decode cX3_tryChange 13 = .ok (.getfield 12, 3) := by decide +kernel
theorem dX3_tryChange_16 : decode cX3_tryChange 16 = .ok (.getfield 127, 3) := by decide +kernel
theorem dX3_tryChange_19 : decode cX3_tryChange 19 = .ok (.iload_n 1, 1) := by decide +kernel
theorem dX3_tryChange_20 : decode cX3_tryChange 20 = .ok (.iload_n 2, 1) := by decide +kernel
theorem dX3_tryChange_21 : decode cX3_tryChange 21 = .ok (.iastore, 1) := by decide +kernel
theorem dX3_tryChange_22 : decode cX3_tryChange 22 = .ok (.aload_n 0, 1) := by decide +kernel
theorem dX3_tryChange_23 : decode cX3_tryChange 23 = .ok (.getfield 12, 3) := by decide +kernel
theorem dX3_tryChange_26 : decode cX3_tryChange 26 = .ok (.getfield 130, 3) := by decide +kernel
theorem dX3_tryChange_29 : decode cX3_tryChange 29 = .ok (.iload_n 1, 1) := by decide +kernel
theorem dX3_tryChange_30 : decode cX3_tryChange 30 = .ok (.iload_n 3, 1) := by decide +kernel
theorem dX3_tryChange_31 : decode cX3_tryChange 31 = .ok (.iastore, 1) := by decide +kernel
theorem dX3_tryChange_32 : decode cX3_tryChange 32 = .ok (.iconst 1, 1) := by decide +kernel
theorem dX3_tryChange_33 : decode cX3_tryChange 33 = .ok (.ireturn, 1) := by decide +kernel
def bX3_tryChange_0 (w : ab_W) (s_X3_changeRefusal : ab_S) (M : Nat → ab_P) (Kn : Option Value → ab_H → Prop) : ab_P := ab_ald 0 (ab_ild 1 (ab_ild 2 (ab_ild 3 (ab_cV w 4 3 s_X3_changeRefusal (ab_if1 (fun x => x = 0) (ab_ald 0 (ab_gr w 3 1 (ab_gr w 7 2 (ab_ild 1 (ab_ild 2 (ab_is w (ab_ald 0 (ab_gr w 3 1 (ab_gr w 7 3 (ab_ild 1 (ab_ild 3 (ab_is w (ab_ci (nI 1) (ab_zr Kn)))))))))))))) (ab_ci (nI 0) (ab_zr Kn)))))))
set_option maxRecDepth 20000 in
set_option maxHeartbeats 2000000 in
theorem vc_X3_tryChange {l : Launch} (hl : l.stackTraces = false) {w : ab_W} (hI : ab_Inj w) {mc : Nat} {σ : ab_H} {As : List Value} {Kn : Option Value → ab_H → Prop} {Kx : String → ab_H → Prop} {s_X3_changeRefusal : ab_S} (ok_X3_changeRefusal : ab_OkN l yX3_changeRefusal (Cond.code yX3_changeRefusal cX3_changeRefusal 4 (some .int)) 2 s_X3_changeRefusal) (hlen : (ab_xl As).length ≤ 4) (h : ∀ M : Nat → ab_P, (∀ L st σ, bX3_tryChange_0 w s_X3_changeRefusal M Kn L st σ → M 0 L st σ) → M 0 (ab_pd 4 (ab_xl As)) [] σ) : ab_Met l yX3_tryChange (Cond.code yX3_tryChange cX3_tryChange 4 (some .boolean)) 3 mc w σ As Kn Kx := by
  refine ab_enter (by decide) hl hI hlen (by decide) ?_
  intro p e R s m args below meth c C hno hr
  exact h _ (sd_aload_n C (i := 0) dX3_tryChange_0 rfl (sd_iload_n C (i := 1) dX3_tryChange_1 rfl (sd_iload_n C (i := 2) dX3_tryChange_2 rfl (sd_iload_n C (i := 3) dX3_tryChange_3 rfl (sd_cV C ok_X3_changeRefusal (ci := 3) (row := (RX3, TX3, 13)) rfl rfl ⟨by decide, by decide, wd_821, wd_3, by decide +kernel⟩ wd_826 wd_819 wd_820 dX3_tryChange_4 (sd_if_eq C dX3_tryChange_7 (tgt := 12) (by decide) (sd_aload_n C (i := 0) dX3_tryChange_12 rfl (sd_gr C (ci := 3) (k := 0) (r := (RX3, TX3, 13)) rfl (by decide) rfl wd_203 dX3_tryChange_13 (sd_gr C (ci := 7) (k := 2) (r := (RX7, TX7, 8)) rfl (by decide) rfl wd_74 dX3_tryChange_16 (sd_iload_n C (i := 1) dX3_tryChange_19 rfl (sd_iload_n C (i := 2) dX3_tryChange_20 rfl (sd_is C dX3_tryChange_21 (sd_aload_n C (i := 0) dX3_tryChange_22 rfl (sd_gr C (ci := 3) (k := 0) (r := (RX3, TX3, 13)) rfl (by decide) rfl wd_203 dX3_tryChange_23 (sd_gr C (ci := 7) (k := 3) (r := (RX7, TX7, 8)) rfl (by decide) rfl wd_77 dX3_tryChange_26 (sd_iload_n C (i := 1) dX3_tryChange_29 rfl (sd_iload_n C (i := 3) dX3_tryChange_30 rfl (sd_is C dX3_tryChange_31 (sd_iconst C (x := nI 1) dX3_tryChange_32 (by decide +kernel) (sd_zr C hr dX3_tryChange_33)))))))))))))) (sd_iconst C (x := nI 0) dX3_tryChange_10 (by decide +kernel) (sd_zr C hr dX3_tryChange_11))))))))
theorem dX3_orderRefusal_0 : decode cX3_orderRefusal 0 = .ok (.aload_n 0, 1) := by decide +kernel
theorem dX3_orderRefusal_1 : decode cX3_orderRefusal 1 = .ok (.getfield 12, 3) := by decide +kernel
theorem dX3_orderRefusal_4 : decode cX3_orderRefusal 4 = .ok (.iload_n 1, 1) := by decide +kernel
theorem dX3_orderRefusal_5 : decode cX3_orderRefusal 5 = .ok (.invokevirtual 120, 3) := by decide +kernel
theorem dX3_orderRefusal_8 : decode cX3_orderRefusal 8 = .ok (.ifCond .ne 5, 3) := by decide +kernel
theorem dX3_orderRefusal_11 : decode cX3_orderRefusal 11 = .ok (.iconst 1, 1) := by decide +kernel
theorem dX3_orderRefusal_12 : decode cX3_orderRefusal 12 = .ok (.ireturn, 1) := by decide +kernel
theorem dX3_orderRefusal_13 : decode cX3_orderRefusal 13 = .ok (.iload_n 2, 1) := by decide +kernel
theorem dX3_orderRefusal_14 : decode cX3_orderRefusal 14 = .ok (.iconst 0, 1) := by decide +kernel
theorem dX3_orderRefusal_15 : decode cX3_orderRefusal 15 = .ok (.sipush 999, 3) := by decide +kernel
theorem dX3_orderRefusal_18 : decode cX3_orderRefusal 18 = .ok (.invokestatic 92, 3) := by decide +kernel
theorem dX3_orderRefusal_21 : decode cX3_orderRefusal 21 = .ok (.ifCond .eq 13, 3) := by decide +kernel
theorem dX3_orderRefusal_24 : decode cX3_orderRefusal 24 = .ok (.iload_n 3, 1) := by decide +kernel
theorem dX3_orderRefusal_25 : decode cX3_orderRefusal 25 = .ok (.iconst 0, 1) := by decide +kernel
theorem dX3_orderRefusal_26 : decode cX3_orderRefusal 26 = .ok (.bipush 99, 2) := by decide +kernel
theorem dX3_orderRefusal_28 : decode cX3_orderRefusal 28 = .ok (.invokestatic 92, 3) := by decide +kernel
theorem dX3_orderRefusal_31 : decode cX3_orderRefusal 31 = .ok (.ifCond .ne 5, 3) := by decide +kernel
theorem dX3_orderRefusal_34 : decode cX3_orderRefusal 34 = .ok (.iconst 2, 1) := by decide +kernel
theorem dX3_orderRefusal_35 : decode cX3_orderRefusal 35 = .ok (.ireturn, 1) := by decide +kernel
theorem dX3_orderRefusal_36 : decode cX3_orderRefusal 36 = .ok (.iload_n 2, 1) := by decide +kernel
theorem dX3_orderRefusal_37 : decode cX3_orderRefusal 37 = .ok (.ifCond .ne 11, 3) := by decide +kernel
theorem dX3_orderRefusal_40 : decode cX3_orderRefusal 40 = .ok (.iload_n 3, 1) := by decide +kernel
theorem dX3_orderRefusal_41 : decode cX3_orderRefusal 41 = .ok (.ifCond .ne 7, 3) := by decide +kernel
theorem dX3_orderRefusal_44 : decode cX3_orderRefusal 44 = .ok (.iconst 1, 1) := by decide +kernel
theorem dX3_orderRefusal_45 : decode cX3_orderRefusal 45 = .ok (.goto 4, 3) := by decide +kernel
theorem dX3_orderRefusal_48 : decode cX3_orderRefusal 48 = .ok (.iconst 0, 1) := by decide +kernel
theorem dX3_orderRefusal_49 : decode cX3_orderRefusal 49 = .ok (.istore 4, 2) := by decide +kernel
theorem dX3_orderRefusal_51 : decode cX3_orderRefusal 51 = .ok (.iload 4, 2) := by decide +kernel
theorem dX3_orderRefusal_53 : decode cX3_orderRefusal 53 = .ok (.ifCond .ne 15, 3) := by decide +kernel
theorem dX3_orderRefusal_56 : decode cX3_orderRefusal 56 = .ok (.aload_n 0, 1) := by decide +kernel
theorem dX3_orderRefusal_57 : decode cX3_orderRefusal 57 = .ok (.getfield 28, 3) := by decide +kernel
theorem dX3_orderRefusal_60 : decode cX3_orderRefusal 60 = .ok (.getfield 133, 3) := by decide +kernel
theorem dX3_orderRefusal_63 : decode cX3_orderRefusal 63 = .ok (.bipush 8, 2) := by decide +kernel
theorem dX3_orderRefusal_65 : decode cX3_orderRefusal 65 = .ok (.if_icmp .lt 7, 3) := by decide +kernel
theorem dX3_orderRefusal_68 : decode cX3_orderRefusal 68 = .ok (.iconst 3, 1) := by decide +kernel
theorem dX3_orderRefusal_69 : decode cX3_orderRefusal 69 = .ok (.goto 4, 3) := by decide +kernel
theorem dX3_orderRefusal_72 : decode cX3_orderRefusal 72 = .ok (.iconst 0, 1) := by decide +kernel
theorem dX3_orderRefusal_73 : decode cX3_orderRefusal 73 = .ok (.ireturn, 1) := by decide +kernel
def bX3_orderRefusal_0 (w : ab_W) (s_X7_has : ab_S) (s_X9_within : ab_S) (M : Nat → ab_P) (Kn : Option Value → ab_H → Prop) : ab_P := ab_ald 0 (ab_gr w 3 1 (ab_ild 1 (ab_cV w 2 7 s_X7_has (ab_if1 (fun x => ¬ x = 0) (ab_ild 2 (ab_ci (nI 0) (ab_ci (nI 999) (ab_cN w 3 s_X9_within (ab_if1 (fun x => x = 0) (M 34) (ab_ild 3 (ab_ci (nI 0) (ab_ci (nI 99) (ab_cN w 3 s_X9_within (ab_if1 (fun x => ¬ x = 0) (ab_ild 2 (ab_if1 (fun x => ¬ x = 0) (M 48) (ab_ild 3 (ab_if1 (fun x => ¬ x = 0) (M 48) (ab_ci (nI 1) (M 49)))))) (M 34))))))))))) (ab_ci (nI 1) (ab_ir Kn))))))
def bX3_orderRefusal_34 (w : ab_W) (s_X7_has : ab_S) (s_X9_within : ab_S) (M : Nat → ab_P) (Kn : Option Value → ab_H → Prop) : ab_P := ab_ci (nI 2) (ab_ir Kn)
def bX3_orderRefusal_48 (w : ab_W) (s_X7_has : ab_S) (s_X9_within : ab_S) (M : Nat → ab_P) (Kn : Option Value → ab_H → Prop) : ab_P := ab_ci (nI 0) (M 49)
def bX3_orderRefusal_49 (w : ab_W) (s_X7_has : ab_S) (s_X9_within : ab_S) (M : Nat → ab_P) (Kn : Option Value → ab_H → Prop) : ab_P := ab_ist 4 (ab_ild 4 (ab_if1 (fun x => ¬ x = 0) (M 68) (ab_ald 0 (ab_gr w 3 14 (ab_gf w 4 0 (ab_ci (nI 8) (ab_if2 (fun x y => x < y) (ab_ci (nI 0) (M 73)) (M 68))))))))
def bX3_orderRefusal_68 (w : ab_W) (s_X7_has : ab_S) (s_X9_within : ab_S) (M : Nat → ab_P) (Kn : Option Value → ab_H → Prop) : ab_P := ab_ci (nI 3) (M 73)
def bX3_orderRefusal_73 (w : ab_W) (s_X7_has : ab_S) (s_X9_within : ab_S) (M : Nat → ab_P) (Kn : Option Value → ab_H → Prop) : ab_P := ab_ir Kn
set_option maxRecDepth 20000 in
set_option maxHeartbeats 2000000 in
theorem vc_X3_orderRefusal {l : Launch} (hl : l.stackTraces = false) {w : ab_W} (hI : ab_Inj w) {mc : Nat} {σ : ab_H} {As : List Value} {Kn : Option Value → ab_H → Prop} {Kx : String → ab_H → Prop} {s_X7_has : ab_S} (ok_X7_has : ab_OkN l yX7_has (Cond.code yX7_has cX7_has 2 (some .boolean)) 1 s_X7_has) {s_X9_within : ab_S} (ok_X9_within : ab_OkN l yX9_within (Cond.code yX9_within cX9_within 3 (some .boolean)) 1 s_X9_within) (hlen : (ab_xl As).length ≤ 5) (h : ∀ M : Nat → ab_P, (∀ L st σ, bX3_orderRefusal_0 w s_X7_has s_X9_within M Kn L st σ → M 0 L st σ) → (∀ L st σ, bX3_orderRefusal_34 w s_X7_has s_X9_within M Kn L st σ → M 34 L st σ) → (∀ L st σ, bX3_orderRefusal_48 w s_X7_has s_X9_within M Kn L st σ → M 48 L st σ) → (∀ L st σ, bX3_orderRefusal_49 w s_X7_has s_X9_within M Kn L st σ → M 49 L st σ) → (∀ L st σ, bX3_orderRefusal_68 w s_X7_has s_X9_within M Kn L st σ → M 68 L st σ) → (∀ L st σ, bX3_orderRefusal_73 w s_X7_has s_X9_within M Kn L st σ → M 73 L st σ) → M 0 (ab_pd 5 (ab_xl As)) [] σ) : ab_Met l yX3_orderRefusal (Cond.code yX3_orderRefusal cX3_orderRefusal 5 (some .int)) 2 mc w σ As Kn Kx := by
  refine ab_enter (by decide) hl hI hlen (by decide) ?_
  intro p e R s m args below meth c C hno hr
  exact h _ (sd_aload_n C (i := 0) dX3_orderRefusal_0 rfl (sd_gr C (ci := 3) (k := 0) (r := (RX3, TX3, 13)) rfl (by decide) rfl wd_203 dX3_orderRefusal_1 (sd_iload_n C (i := 1) dX3_orderRefusal_4 rfl (sd_cV C ok_X7_has (ci := 7) (row := (RX7, TX7, 8)) rfl rfl ⟨by decide, by decide, wd_489, wd_4, by decide +kernel⟩ wd_518 wd_487 wd_488 dX3_orderRefusal_5 (sd_if_ne C dX3_orderRefusal_8 (tgt := 13) (by decide) (sd_iload_n C (i := 2) dX3_orderRefusal_13 rfl (sd_iconst C (x := nI 0) dX3_orderRefusal_14 (by decide +kernel) (sd_sipush C (x := nI 999) dX3_orderRefusal_15 (by decide +kernel) (sd_cSN C ok_X9_within ⟨by decide, by decide, wd_477, wd_1, by decide +kernel⟩ wn_475 wd_476 dX3_orderRefusal_18 (sd_if_eq C dX3_orderRefusal_21 (tgt := 34) (by decide) (fun _ _ _ h => h) (sd_iload_n C (i := 3) dX3_orderRefusal_24 rfl (sd_iconst C (x := nI 0) dX3_orderRefusal_25 (by decide +kernel) (sd_bipush C (x := nI 99) dX3_orderRefusal_26 (by decide +kernel) (sd_cSN C ok_X9_within ⟨by decide, by decide, wd_477, wd_1, by decide +kernel⟩ wn_475 wd_476 dX3_orderRefusal_28 (sd_if_ne C dX3_orderRefusal_31 (tgt := 36) (by decide) (sd_iload_n C (i := 2) dX3_orderRefusal_36 rfl (sd_if_ne C dX3_orderRefusal_37 (tgt := 48) (by decide) (fun _ _ _ h => h) (sd_iload_n C (i := 3) dX3_orderRefusal_40 rfl (sd_if_ne C dX3_orderRefusal_41 (tgt := 48) (by decide) (fun _ _ _ h => h) (sd_iconst C (x := nI 1) dX3_orderRefusal_44 (by decide +kernel) (sd_goto C dX3_orderRefusal_45 (tgt := 49) (by decide) (fun _ _ _ h => h))))))) (fun _ _ _ h => h))))))))))) (sd_iconst C (x := nI 1) dX3_orderRefusal_11 (by decide +kernel) (sd_ir C hr dX3_orderRefusal_12)))))))
    (sd_iconst C (x := nI 2) dX3_orderRefusal_34 (by decide +kernel) (sd_ir C hr dX3_orderRefusal_35))
    (sd_iconst C (x := nI 0) dX3_orderRefusal_48 (by decide +kernel) (fun _ _ _ h => h))
    (sd_istore C dX3_orderRefusal_49 (by decide) (sd_iload C dX3_orderRefusal_51 (sd_if_ne C dX3_orderRefusal_53 (tgt := 68) (by decide) (fun _ _ _ h => h) (sd_aload_n C (i := 0) dX3_orderRefusal_56 rfl (sd_gr C (ci := 3) (k := 2) (r := (RX3, TX3, 13)) rfl (by decide) rfl wd_207 dX3_orderRefusal_57 (sd_gf C (ci := 4) (k := 0) (r := (RX4, TX4, 5)) rfl (by decide) rfl wd_144 dX3_orderRefusal_60 (sd_bipush C (x := nI 8) dX3_orderRefusal_63 (by decide +kernel) (sd_icmp_lt C dX3_orderRefusal_65 (tgt := 72) (by decide) (sd_iconst C (x := nI 0) dX3_orderRefusal_72 (by decide +kernel) (fun _ _ _ h => h)) (fun _ _ _ h => h)))))))))
    (sd_iconst C (x := nI 3) dX3_orderRefusal_68 (by decide +kernel) (sd_goto C dX3_orderRefusal_69 (tgt := 73) (by decide) (fun _ _ _ h => h)))
    (sd_ir C hr dX3_orderRefusal_73)
theorem dX3_priceOf_0 : decode cX3_priceOf 0 = .ok (.iload_n 1, 1) := by decide +kernel
theorem dX3_priceOf_1 : decode cX3_priceOf 1 = .ok (.aload_n 0, 1) := by decide +kernel
theorem dX3_priceOf_2 : decode cX3_priceOf 2 = .ok (.getfield 50, 3) := by decide +kernel
theorem dX3_priceOf_5 : decode cX3_priceOf 5 = .ok (.iconst 2, 1) := by decide +kernel
theorem dX3_priceOf_6 : decode cX3_priceOf 6 = .ok (.iaload, 1) := by decide +kernel
theorem dX3_priceOf_7 : decode cX3_priceOf 7 = .ok (.imul, 1) := by decide +kernel
theorem dX3_priceOf_8 : decode cX3_priceOf 8 = .ok (.iload_n 2, 1) := by decide +kernel
theorem dX3_priceOf_9 : decode cX3_priceOf 9 = .ok (.aload_n 0, 1) := by decide +kernel
theorem dX3_priceOf_10 : decode cX3_priceOf 10 = .ok (.getfield 50, 3) := by decide +kernel
theorem dX3_priceOf_13 : decode cX3_priceOf 13 = .ok (.iconst 3, 1) := by decide +kernel
theorem dX3_priceOf_14 : decode cX3_priceOf 14 = .ok (.iaload, 1) := by decide +kernel
theorem dX3_priceOf_15 : decode cX3_priceOf 15 = .ok (.imul, 1) := by decide +kernel
theorem dX3_priceOf_16 : decode cX3_priceOf 16 = .ok (.iadd, 1) := by decide +kernel
theorem dX3_priceOf_17 : decode cX3_priceOf 17 = .ok (.ireturn, 1) := by decide +kernel
def bX3_priceOf_0 (w : ab_W) (M : Nat → ab_P) (Kn : Option Value → ab_H → Prop) : ab_P := ab_ild 1 (ab_ald 0 (ab_gr w 3 28 (ab_ci (nI 2) (ab_ia w 11 (ab_b2 (fun x y => x * y) (ab_ild 2 (ab_ald 0 (ab_gr w 3 28 (ab_ci (nI 3) (ab_ia w 11 (ab_b2 (fun x y => x * y) (ab_b2 (fun x y => x + y) (ab_ir Kn)))))))))))))
set_option maxRecDepth 20000 in
set_option maxHeartbeats 2000000 in
theorem vc_X3_priceOf {l : Launch} (hl : l.stackTraces = false) {w : ab_W} (hI : ab_Inj w) {mc : Nat} {σ : ab_H} {As : List Value} {Kn : Option Value → ab_H → Prop} {Kx : String → ab_H → Prop} (hlen : (ab_xl As).length ≤ 3) (h : ∀ M : Nat → ab_P, (∀ L st σ, bX3_priceOf_0 w M Kn L st σ → M 0 L st σ) → M 0 (ab_pd 3 (ab_xl As)) [] σ) : ab_Met l yX3_priceOf (Cond.code yX3_priceOf cX3_priceOf 3 (some .int)) 1 mc w σ As Kn Kx := by
  refine ab_enter (by decide) hl hI hlen (by decide) ?_
  intro p e R s m args below meth c C hno hr
  exact h _ (sd_iload_n C (i := 1) dX3_priceOf_0 rfl (sd_aload_n C (i := 0) dX3_priceOf_1 rfl (sd_gr C (ci := 3) (k := 6) (r := (RX3, TX3, 13)) rfl (by decide) rfl wd_215 dX3_priceOf_2 (sd_iconst C (x := nI 2) dX3_priceOf_5 (by decide +kernel) (sd_ia C dX3_priceOf_6 (sd_imul C dX3_priceOf_7 (sd_iload_n C (i := 2) dX3_priceOf_8 rfl (sd_aload_n C (i := 0) dX3_priceOf_9 rfl (sd_gr C (ci := 3) (k := 6) (r := (RX3, TX3, 13)) rfl (by decide) rfl wd_215 dX3_priceOf_10 (sd_iconst C (x := nI 3) dX3_priceOf_13 (by decide +kernel) (sd_ia C dX3_priceOf_14 (sd_imul C dX3_priceOf_15 (sd_iadd C dX3_priceOf_16 (sd_ir C hr dX3_priceOf_17))))))))))))))
theorem dX3_tryOrder_0 : decode cX3_tryOrder 0 = .ok (.aload_n 0, 1) := by decide +kernel
theorem dX3_tryOrder_1 : decode cX3_tryOrder 1 = .ok (.iload_n 1, 1) := by decide +kernel
theorem dX3_tryOrder_2 : decode cX3_tryOrder 2 = .ok (.iload_n 2, 1) := by decide +kernel
theorem dX3_tryOrder_3 : decode cX3_tryOrder 3 = .ok (.iload_n 3, 1) := by decide +kernel
theorem dX3_tryOrder_4 : decode cX3_tryOrder 4 = .ok (.invokevirtual 134, 3) := by decide +kernel
theorem dX3_tryOrder_7 : decode cX3_tryOrder 7 = .ok (.ifCond .eq 5, 3) := by decide +kernel
theorem dX3_tryOrder_10 : decode cX3_tryOrder 10 = .ok (.iconst 0, 1) := by decide +kernel
theorem dX3_tryOrder_11 : decode cX3_tryOrder 11 = .ok (.ireturn, 1) := by decide +kernel
theorem dX3_tryOrder_12 : decode cX3_tryOrder 12 = .ok (.aload_n 0, 1) := by decide +kernel
theorem dX3_tryOrder_13 : decode cX3_tryOrder 13 = .ok (.getfield 28, 3) := by decide +kernel
theorem dX3_tryOrder_16 : decode cX3_tryOrder 16 = .ok (.aload_n 0, 1) := by decide +kernel
theorem dX3_tryOrder_17 : decode cX3_tryOrder 17 = .ok (.getfield 73, 3) := by decide +kernel
theorem dX3_tryOrder_20 : decode cX3_tryOrder 20 = .ok (.aload_n 0, 1) := by decide +kernel
theorem dX3_tryOrder_21 : decode cX3_tryOrder 21 = .ok (.getfield 50, 3) := by decide +kernel
theorem dX3_tryOrder_24 : decode cX3_tryOrder 24 = .ok (.iconst 0, 1) := by decide +kernel
theorem dX3_tryOrder_25 : decode cX3_tryOrder 25 = .ok (.iaload, 1) := by decide +kernel
theorem dX3_tryOrder_26 : decode cX3_tryOrder 26 = .ok (.iadd, 1) := by decide +kernel
theorem dX3_tryOrder_27 : decode cX3_tryOrder 27 = .ok (.iload_n 1, 1) := by decide +kernel
theorem dX3_tryOrder_28 : decode cX3_tryOrder 28 = .ok (.iload_n 2, 1) := by decide +kernel
theorem dX3_tryOrder_29 : decode cX3_tryOrder 29 = .ok (.iload_n 3, 1) := by decide +kernel
theorem dX3_tryOrder_30 : decode cX3_tryOrder 30 = .ok (.invokevirtual 137, 3) := by decide +kernel
theorem dX3_tryOrder_33 : decode cX3_tryOrder 33 = .ok (.aload_n 0, 1) := by decide +kernel
theorem dX3_tryOrder_34 : decode cX3_tryOrder 34 = .ok (.dup, 1) := by decide +kernel
theorem dX3_tryOrder_35 : decode cX3_tryOrder 35 = .ok (.getfield 77, 3) := by decide +kernel
theorem dX3_tryOrder_38 : decode cX3_tryOrder 38 = .ok (.aload_n 0, 1) := by decide +kernel
theorem dX3_tryOrder_39 : decode cX3_tryOrder 39 = .ok (.iload_n 2, 1) := by decide +kernel
theorem dX3_tryOrder_40 : decode cX3_tryOrder 40 = .ok (.iload_n 3, 1) := by decide +kernel
theorem dX3_tryOrder_41 : decode cX3_tryOrder 41 = .ok (.invokevirtual 140, 3) := by decide +kernel
theorem dX3_tryOrder_44 : decode cX3_tryOrder 44 = .ok (.iadd, 1) := by decide +kernel
theorem dX3_tryOrder_45 : decode cX3_tryOrder 45 = .ok (.putfield 77, 3) := by decide +kernel
theorem dX3_tryOrder_48 : decode cX3_tryOrder 48 = .ok (.iconst 1, 1) := by decide +kernel
theorem dX3_tryOrder_49 : decode cX3_tryOrder 49 = .ok (.ireturn, 1) := by decide +kernel
def bX3_tryOrder_0 (w : ab_W) (s_X3_orderRefusal : ab_S) (s_X4_add : ab_S) (s_X3_priceOf : ab_S) (M : Nat → ab_P) (Kn : Option Value → ab_H → Prop) : ab_P := ab_ald 0 (ab_ild 1 (ab_ild 2 (ab_ild 3 (ab_cV w 4 3 s_X3_orderRefusal (ab_if1 (fun x => x = 0) (ab_ald 0 (ab_gr w 3 14 (ab_ald 0 (ab_gf w 3 7 (ab_ald 0 (ab_gr w 3 28 (ab_ci (nI 0) (ab_ia w 11 (ab_b2 (fun x y => x + y) (ab_ild 1 (ab_ild 2 (ab_ild 3 (ab_cV w 5 4 s_X4_add (ab_ald 0 (ab_dup (ab_gf w 3 8 (ab_ald 0 (ab_ild 2 (ab_ild 3 (ab_cV w 3 3 s_X3_priceOf (ab_b2 (fun x y => x + y) (ab_pf w 3 8 (ab_ci (nI 1) (ab_zr Kn)))))))))))))))))))))))) (ab_ci (nI 0) (ab_zr Kn)))))))
set_option maxRecDepth 20000 in
set_option maxHeartbeats 2000000 in
theorem vc_X3_tryOrder {l : Launch} (hl : l.stackTraces = false) {w : ab_W} (hI : ab_Inj w) {mc : Nat} {σ : ab_H} {As : List Value} {Kn : Option Value → ab_H → Prop} {Kx : String → ab_H → Prop} {s_X3_orderRefusal : ab_S} (ok_X3_orderRefusal : ab_OkN l yX3_orderRefusal (Cond.code yX3_orderRefusal cX3_orderRefusal 5 (some .int)) 2 s_X3_orderRefusal) {s_X4_add : ab_S} (ok_X4_add : ab_OkN l yX4_add (Cond.code yX4_add cX4_add 5 none) 2 s_X4_add) {s_X3_priceOf : ab_S} (ok_X3_priceOf : ab_OkN l yX3_priceOf (Cond.code yX3_priceOf cX3_priceOf 3 (some .int)) 1 s_X3_priceOf) (hlen : (ab_xl As).length ≤ 4) (h : ∀ M : Nat → ab_P, (∀ L st σ, bX3_tryOrder_0 w s_X3_orderRefusal s_X4_add s_X3_priceOf M Kn L st σ → M 0 L st σ) → M 0 (ab_pd 4 (ab_xl As)) [] σ) : ab_Met l yX3_tryOrder (Cond.code yX3_tryOrder cX3_tryOrder 4 (some .boolean)) 3 mc w σ As Kn Kx := by
  refine ab_enter (by decide) hl hI hlen (by decide) ?_
  intro p e R s m args below meth c C hno hr
  exact h _ (sd_aload_n C (i := 0) dX3_tryOrder_0 rfl (sd_iload_n C (i := 1) dX3_tryOrder_1 rfl (sd_iload_n C (i := 2) dX3_tryOrder_2 rfl (sd_iload_n C (i := 3) dX3_tryOrder_3 rfl (sd_cV C ok_X3_orderRefusal (ci := 3) (row := (RX3, TX3, 13)) rfl rfl ⟨by decide, by decide, wd_517, wd_3, by decide +kernel⟩ wd_514 wd_515 wd_516 dX3_tryOrder_4 (sd_if_eq C dX3_tryOrder_7 (tgt := 12) (by decide) (sd_aload_n C (i := 0) dX3_tryOrder_12 rfl (sd_gr C (ci := 3) (k := 2) (r := (RX3, TX3, 13)) rfl (by decide) rfl wd_207 dX3_tryOrder_13 (sd_aload_n C (i := 0) dX3_tryOrder_16 rfl (sd_gf C (ci := 3) (k := 7) (r := (RX3, TX3, 13)) rfl (by decide) rfl wd_217 dX3_tryOrder_17 (sd_aload_n C (i := 0) dX3_tryOrder_20 rfl (sd_gr C (ci := 3) (k := 6) (r := (RX3, TX3, 13)) rfl (by decide) rfl wd_215 dX3_tryOrder_21 (sd_iconst C (x := nI 0) dX3_tryOrder_24 (by decide +kernel) (sd_ia C dX3_tryOrder_25 (sd_iadd C dX3_tryOrder_26 (sd_iload_n C (i := 1) dX3_tryOrder_27 rfl (sd_iload_n C (i := 2) dX3_tryOrder_28 rfl (sd_iload_n C (i := 3) dX3_tryOrder_29 rfl (sd_cV C ok_X4_add (ci := 4) (row := (RX4, TX4, 5)) rfl rfl ⟨by decide, by decide, wd_522, wd_6, by decide +kernel⟩ wd_519 wd_520 wd_521 dX3_tryOrder_30 (sd_aload_n C (i := 0) dX3_tryOrder_33 rfl (sd_dup C dX3_tryOrder_34 (sd_gf C (ci := 3) (k := 8) (r := (RX3, TX3, 13)) rfl (by decide) rfl wd_219 dX3_tryOrder_35 (sd_aload_n C (i := 0) dX3_tryOrder_38 rfl (sd_iload_n C (i := 2) dX3_tryOrder_39 rfl (sd_iload_n C (i := 3) dX3_tryOrder_40 rfl (sd_cV C ok_X3_priceOf (ci := 3) (row := (RX3, TX3, 13)) rfl rfl ⟨by decide, by decide, wd_530, wd_3, by decide +kernel⟩ wd_527 wd_528 wd_529 dX3_tryOrder_41 (sd_iadd C dX3_tryOrder_44 (sd_pf C (ci := 3) (k := 8) (r := (RX3, TX3, 13)) rfl (by decide) rfl rfl (by decide +kernel) wd_219 dX3_tryOrder_45 (sd_iconst C (x := nI 1) dX3_tryOrder_48 (by decide +kernel) (sd_zr C hr dX3_tryOrder_49)))))))))))))))))))))))) (sd_iconst C (x := nI 0) dX3_tryOrder_10 (by decide +kernel) (sd_zr C hr dX3_tryOrder_11))))))))
theorem dX3_transferRefusal_0 : decode cX3_transferRefusal 0 = .ok (.aload_n 0, 1) := by decide +kernel
theorem dX3_transferRefusal_1 : decode cX3_transferRefusal 1 = .ok (.getfield 12, 3) := by decide +kernel
theorem dX3_transferRefusal_4 : decode cX3_transferRefusal 4 = .ok (.iload_n 1, 1) := by decide +kernel
theorem dX3_transferRefusal_5 : decode cX3_transferRefusal 5 = .ok (.invokevirtual 120, 3) := by decide +kernel
theorem dX3_transferRefusal_8 : decode cX3_transferRefusal 8 = .ok (.ifCond .eq 14, 3) := by decide +kernel
theorem dX3_transferRefusal_11 : decode cX3_transferRefusal 11 = .ok (.aload_n 0, 1) := by decide +kernel
theorem dX3_transferRefusal_12 : decode cX3_transferRefusal 12 = .ok (.getfield 12, 3) := by decide +kernel
theorem dX3_transferRefusal_15 : decode cX3_transferRefusal 15 = .ok (.iload_n 2, 1) := by decide +kernel
theorem dX3_transferRefusal_16 : decode cX3_transferRefusal 16 = .ok (.invokevirtual 120, 3) := by decide +kernel
theorem dX3_transferRefusal_19 : decode cX3_transferRefusal 19 = .ok (.ifCond .ne 5, 3) := by decide +kernel
theorem dX3_transferRefusal_22 : decode cX3_transferRefusal 22 = .ok (.iconst 1, 1) := by decide +kernel
theorem dX3_transferRefusal_23 : decode cX3_transferRefusal 23 = .ok (.ireturn, 1) := by decide +kernel
theorem dX3_transferRefusal_24 : decode cX3_transferRefusal 24 = .ok (.iload_n 1, 1) := by decide +kernel
theorem dX3_transferRefusal_25 : decode cX3_transferRefusal 25 = .ok (.iload_n 2, 1) := by decide +kernel
theorem dX3_transferRefusal_26 : decode cX3_transferRefusal 26 = .ok (.if_icmp .eq 15, 3) := by decide +kernel
theorem dX3_transferRefusal_29 : decode cX3_transferRefusal 29 = .ok (.aload_n 0, 1) := by decide +kernel
theorem dX3_transferRefusal_30 : decode cX3_transferRefusal 30 = .ok (.getfield 12, 3) := by decide +kernel
theorem dX3_transferRefusal_33 : decode cX3_transferRefusal 33 = .ok (.iload_n 1, 1) := by decide +kernel
theorem dX3_transferRefusal_34 : decode cX3_transferRefusal 34 = .ok (.invokevirtual 143, 3) := by decide +kernel
theorem dX3_transferRefusal_37 : decode cX3_transferRefusal 37 = .ok (.iconst (-1), 1) := by decide +kernel
theorem dX3_transferRefusal_38 : decode cX3_transferRefusal 38 = .ok (.if_icmp .ne 7, 3) := by decide +kernel
theorem dX3_transferRefusal_41 : decode cX3_transferRefusal 41 = .ok (.iconst 3, 1) := by decide +kernel
theorem dX3_transferRefusal_42 : decode cX3_transferRefusal 42 = .ok (.goto 4, 3) := by decide +kernel
theorem dX3_transferRefusal_45 : decode cX3_transferRefusal 45 = .ok (.iconst 0, 1) := by decide +kernel
theorem dX3_transferRefusal_46 : decode cX3_transferRefusal 46 = .ok (.ireturn, 1) := by decide +kernel
def bX3_transferRefusal_0 (w : ab_W) (s_X7_has : ab_S) (s_X7_mostFlownOf : ab_S) (M : Nat → ab_P) (Kn : Option Value → ab_H → Prop) : ab_P := ab_ald 0 (ab_gr w 3 1 (ab_ild 1 (ab_cV w 2 7 s_X7_has (ab_if1 (fun x => x = 0) (M 22) (ab_ald 0 (ab_gr w 3 1 (ab_ild 2 (ab_cV w 2 7 s_X7_has (ab_if1 (fun x => ¬ x = 0) (ab_ild 1 (ab_ild 2 (ab_if2 (fun x y => x = y) (M 41) (ab_ald 0 (ab_gr w 3 1 (ab_ild 1 (ab_cV w 2 7 s_X7_mostFlownOf (ab_ci (-1) (ab_if2 (fun x y => ¬ x = y) (ab_ci (nI 0) (M 46)) (M 41)))))))))) (M 22))))))))))
def bX3_transferRefusal_22 (w : ab_W) (s_X7_has : ab_S) (s_X7_mostFlownOf : ab_S) (M : Nat → ab_P) (Kn : Option Value → ab_H → Prop) : ab_P := ab_ci (nI 1) (ab_ir Kn)
def bX3_transferRefusal_41 (w : ab_W) (s_X7_has : ab_S) (s_X7_mostFlownOf : ab_S) (M : Nat → ab_P) (Kn : Option Value → ab_H → Prop) : ab_P := ab_ci (nI 3) (M 46)
def bX3_transferRefusal_46 (w : ab_W) (s_X7_has : ab_S) (s_X7_mostFlownOf : ab_S) (M : Nat → ab_P) (Kn : Option Value → ab_H → Prop) : ab_P := ab_ir Kn
set_option maxRecDepth 20000 in
set_option maxHeartbeats 2000000 in
theorem vc_X3_transferRefusal {l : Launch} (hl : l.stackTraces = false) {w : ab_W} (hI : ab_Inj w) {mc : Nat} {σ : ab_H} {As : List Value} {Kn : Option Value → ab_H → Prop} {Kx : String → ab_H → Prop} {s_X7_has : ab_S} (ok_X7_has : ab_OkN l yX7_has (Cond.code yX7_has cX7_has 2 (some .boolean)) 1 s_X7_has) {s_X7_mostFlownOf : ab_S} (ok_X7_mostFlownOf : ab_OkN l yX7_mostFlownOf (Cond.code yX7_mostFlownOf cX7_mostFlownOf 3 (some .int)) 2 s_X7_mostFlownOf) (hlen : (ab_xl As).length ≤ 3) (h : ∀ M : Nat → ab_P, (∀ L st σ, bX3_transferRefusal_0 w s_X7_has s_X7_mostFlownOf M Kn L st σ → M 0 L st σ) → (∀ L st σ, bX3_transferRefusal_22 w s_X7_has s_X7_mostFlownOf M Kn L st σ → M 22 L st σ) → (∀ L st σ, bX3_transferRefusal_41 w s_X7_has s_X7_mostFlownOf M Kn L st σ → M 41 L st σ) → (∀ L st σ, bX3_transferRefusal_46 w s_X7_has s_X7_mostFlownOf M Kn L st σ → M 46 L st σ) → M 0 (ab_pd 3 (ab_xl As)) [] σ) : ab_Met l yX3_transferRefusal (Cond.code yX3_transferRefusal cX3_transferRefusal 3 (some .int)) 3 mc w σ As Kn Kx := by
  refine ab_enter (by decide) hl hI hlen (by decide) ?_
  intro p e R s m args below meth c C hno hr
  exact h _ (sd_aload_n C (i := 0) dX3_transferRefusal_0 rfl (sd_gr C (ci := 3) (k := 0) (r := (RX3, TX3, 13)) rfl (by decide) rfl wd_203 dX3_transferRefusal_1 (sd_iload_n C (i := 1) dX3_transferRefusal_4 rfl (sd_cV C ok_X7_has (ci := 7) (row := (RX7, TX7, 8)) rfl rfl ⟨by decide, by decide, wd_489, wd_4, by decide +kernel⟩ wd_518 wd_487 wd_488 dX3_transferRefusal_5 (sd_if_eq C dX3_transferRefusal_8 (tgt := 22) (by decide) (fun _ _ _ h => h) (sd_aload_n C (i := 0) dX3_transferRefusal_11 rfl (sd_gr C (ci := 3) (k := 0) (r := (RX3, TX3, 13)) rfl (by decide) rfl wd_203 dX3_transferRefusal_12 (sd_iload_n C (i := 2) dX3_transferRefusal_15 rfl (sd_cV C ok_X7_has (ci := 7) (row := (RX7, TX7, 8)) rfl rfl ⟨by decide, by decide, wd_489, wd_4, by decide +kernel⟩ wd_518 wd_487 wd_488 dX3_transferRefusal_16 (sd_if_ne C dX3_transferRefusal_19 (tgt := 24) (by decide) (sd_iload_n C (i := 1) dX3_transferRefusal_24 rfl (sd_iload_n C (i := 2) dX3_transferRefusal_25 rfl (sd_icmp_eq C dX3_transferRefusal_26 (tgt := 41) (by decide) (fun _ _ _ h => h) (sd_aload_n C (i := 0) dX3_transferRefusal_29 rfl (sd_gr C (ci := 3) (k := 0) (r := (RX3, TX3, 13)) rfl (by decide) rfl wd_203 dX3_transferRefusal_30 (sd_iload_n C (i := 1) dX3_transferRefusal_33 rfl (sd_cV C ok_X7_mostFlownOf (ci := 7) (row := (RX7, TX7, 8)) rfl rfl ⟨by decide, by decide, wd_575, wd_4, by decide +kernel⟩ wd_572 wd_573 wd_574 dX3_transferRefusal_34 (sd_iconst C (x := -1) dX3_transferRefusal_37 (by decide +kernel) (sd_icmp_ne C dX3_transferRefusal_38 (tgt := 45) (by decide) (sd_iconst C (x := nI 0) dX3_transferRefusal_45 (by decide +kernel) (fun _ _ _ h => h)) (fun _ _ _ h => h)))))))))) (fun _ _ _ h => h)))))))))))
    (sd_iconst C (x := nI 1) dX3_transferRefusal_22 (by decide +kernel) (sd_ir C hr dX3_transferRefusal_23))
    (sd_iconst C (x := nI 3) dX3_transferRefusal_41 (by decide +kernel) (sd_goto C dX3_transferRefusal_42 (tgt := 46) (by decide) (fun _ _ _ h => h)))
    (sd_ir C hr dX3_transferRefusal_46)
theorem dX3_tryTransfer_0 : decode cX3_tryTransfer 0 = .ok (.aload_n 0, 1) := by decide +kernel
theorem dX3_tryTransfer_1 : decode cX3_tryTransfer 1 = .ok (.iload_n 1, 1) := by decide +kernel
theorem dX3_tryTransfer_2 : decode cX3_tryTransfer 2 = .ok (.iload_n 2, 1) := by decide +kernel
theorem dX3_tryTransfer_3 : decode cX3_tryTransfer 3 = .ok (.invokevirtual 147, 3) := by decide +kernel
theorem dX3_tryTransfer_6 : decode cX3_tryTransfer 6 = .ok (.ifCond .eq 5, 3) := by decide +kernel
theorem dX3_tryTransfer_9 : decode cX3_tryTransfer 9 = .ok (.iconst 0, 1) := by decide +kernel
theorem dX3_tryTransfer_10 : decode cX3_tryTransfer 10 = .ok (.ireturn, 1) := by decide +kernel
theorem dX3_tryTransfer_11 : decode cX3_tryTransfer 11 = .ok (.aload_n 0, 1) := by decide +kernel
theorem dX3_tryTransfer_12 : decode cX3_tryTransfer 12 = .ok (.getfield 12, 3) := by decide +kernel
theorem dX3_tryTransfer_15 : decode cX3_tryTransfer 15 = .ok (.iload_n 1, 1) := by decide +kernel
theorem dX3_tryTransfer_16 : decode cX3_tryTransfer 16 = .ok (.invokevirtual 143, 3) := by decide +kernel
theorem dX3_tryTransfer_19 : decode cX3_tryTransfer 19 = .ok (.istore_n 3, 1) := by decide +kernel
theorem dX3_tryTransfer_20 : decode cX3_tryTransfer 20 = .ok (.aload_n 0, 1) := by decide +kernel
theorem dX3_tryTransfer_21 : decode cX3_tryTransfer 21 = .ok (.getfield 12, 3) := by decide +kernel
theorem dX3_tryTransfer_24 : decode cX3_tryTransfer 24 = .ok (.iload_n 1, 1) := by decide +kernel
theorem dX3_tryTransfer_25 : decode cX3_tryTransfer 25 = .ok (.iload_n 3, 1) := by decide +kernel
theorem dX3_tryTransfer_26 : decode cX3_tryTransfer 26 = .ok (.iconst (-1), 1) := by decide +kernel
theorem dX3_tryTransfer_27 : decode cX3_tryTransfer 27 = .ok (.invokevirtual 150, 3) := by decide +kernel
theorem dX3_tryTransfer_30 : decode cX3_tryTransfer 30 = .ok (.aload_n 0, 1) := by decide +kernel
theorem dX3_tryTransfer_31 : decode cX3_tryTransfer 31 = .ok (.getfield 12, 3) := by decide +kernel
theorem dX3_tryTransfer_34 : decode cX3_tryTransfer 34 = .ok (.iload_n 2, 1) := by decide +kernel
theorem dX3_tryTransfer_35 : decode cX3_tryTransfer 35 = .ok (.iload_n 3, 1) := by decide +kernel
theorem dX3_tryTransfer_36 : decode cX3_tryTransfer 36 = .ok (.iconst 1, 1) := by decide +kernel
theorem dX3_tryTransfer_37 : decode cX3_tryTransfer 37 = .ok (.invokevirtual 150, 3) := by decide +kernel
theorem dX3_tryTransfer_40 : decode cX3_tryTransfer 40 = .ok (.iconst 1, 1) := by decide +kernel
theorem dX3_tryTransfer_41 : decode cX3_tryTransfer 41 = .ok (.ireturn, 1) := by decide +kernel
def bX3_tryTransfer_0 (w : ab_W) (s_X3_transferRefusal : ab_S) (s_X7_mostFlownOf : ab_S) (s_X7_addSondes : ab_S) (M : Nat → ab_P) (Kn : Option Value → ab_H → Prop) : ab_P := ab_ald 0 (ab_ild 1 (ab_ild 2 (ab_cV w 3 3 s_X3_transferRefusal (ab_if1 (fun x => x = 0) (ab_ald 0 (ab_gr w 3 1 (ab_ild 1 (ab_cV w 2 7 s_X7_mostFlownOf (ab_ist 3 (ab_ald 0 (ab_gr w 3 1 (ab_ild 1 (ab_ild 3 (ab_ci (-1) (ab_cV w 4 7 s_X7_addSondes (ab_ald 0 (ab_gr w 3 1 (ab_ild 2 (ab_ild 3 (ab_ci (nI 1) (ab_cV w 4 7 s_X7_addSondes (ab_ci (nI 1) (ab_zr Kn))))))))))))))))))) (ab_ci (nI 0) (ab_zr Kn))))))
set_option maxRecDepth 20000 in
set_option maxHeartbeats 2000000 in
theorem vc_X3_tryTransfer {l : Launch} (hl : l.stackTraces = false) {w : ab_W} (hI : ab_Inj w) {mc : Nat} {σ : ab_H} {As : List Value} {Kn : Option Value → ab_H → Prop} {Kx : String → ab_H → Prop} {s_X3_transferRefusal : ab_S} (ok_X3_transferRefusal : ab_OkN l yX3_transferRefusal (Cond.code yX3_transferRefusal cX3_transferRefusal 3 (some .int)) 3 s_X3_transferRefusal) {s_X7_mostFlownOf : ab_S} (ok_X7_mostFlownOf : ab_OkN l yX7_mostFlownOf (Cond.code yX7_mostFlownOf cX7_mostFlownOf 3 (some .int)) 2 s_X7_mostFlownOf) {s_X7_addSondes : ab_S} (ok_X7_addSondes : ab_OkN l yX7_addSondes (Cond.code yX7_addSondes cX7_addSondes 4 none) 2 s_X7_addSondes) (hlen : (ab_xl As).length ≤ 4) (h : ∀ M : Nat → ab_P, (∀ L st σ, bX3_tryTransfer_0 w s_X3_transferRefusal s_X7_mostFlownOf s_X7_addSondes M Kn L st σ → M 0 L st σ) → M 0 (ab_pd 4 (ab_xl As)) [] σ) : ab_Met l yX3_tryTransfer (Cond.code yX3_tryTransfer cX3_tryTransfer 4 (some .boolean)) 4 mc w σ As Kn Kx := by
  refine ab_enter (by decide) hl hI hlen (by decide) ?_
  intro p e R s m args below meth c C hno hr
  exact h _ (sd_aload_n C (i := 0) dX3_tryTransfer_0 rfl (sd_iload_n C (i := 1) dX3_tryTransfer_1 rfl (sd_iload_n C (i := 2) dX3_tryTransfer_2 rfl (sd_cV C ok_X3_transferRefusal (ci := 3) (row := (RX3, TX3, 13)) rfl rfl ⟨by decide, by decide, wd_846, wd_3, by decide +kernel⟩ wd_852 wd_844 wd_845 dX3_tryTransfer_3 (sd_if_eq C dX3_tryTransfer_6 (tgt := 11) (by decide) (sd_aload_n C (i := 0) dX3_tryTransfer_11 rfl (sd_gr C (ci := 3) (k := 0) (r := (RX3, TX3, 13)) rfl (by decide) rfl wd_203 dX3_tryTransfer_12 (sd_iload_n C (i := 1) dX3_tryTransfer_15 rfl (sd_cV C ok_X7_mostFlownOf (ci := 7) (row := (RX7, TX7, 8)) rfl rfl ⟨by decide, by decide, wd_575, wd_4, by decide +kernel⟩ wd_572 wd_573 wd_574 dX3_tryTransfer_16 (sd_istore_n C (i := 3) dX3_tryTransfer_19 rfl (by decide) (sd_aload_n C (i := 0) dX3_tryTransfer_20 rfl (sd_gr C (ci := 3) (k := 0) (r := (RX3, TX3, 13)) rfl (by decide) rfl wd_203 dX3_tryTransfer_21 (sd_iload_n C (i := 1) dX3_tryTransfer_24 rfl (sd_iload_n C (i := 3) dX3_tryTransfer_25 rfl (sd_iconst C (x := -1) dX3_tryTransfer_26 (by decide +kernel) (sd_cV C ok_X7_addSondes (ci := 7) (row := (RX7, TX7, 8)) rfl rfl ⟨by decide, by decide, wd_551, wd_4, by decide +kernel⟩ wd_580 wd_549 wd_550 dX3_tryTransfer_27 (sd_aload_n C (i := 0) dX3_tryTransfer_30 rfl (sd_gr C (ci := 3) (k := 0) (r := (RX3, TX3, 13)) rfl (by decide) rfl wd_203 dX3_tryTransfer_31 (sd_iload_n C (i := 2) dX3_tryTransfer_34 rfl (sd_iload_n C (i := 3) dX3_tryTransfer_35 rfl (sd_iconst C (x := nI 1) dX3_tryTransfer_36 (by decide +kernel) (sd_cV C ok_X7_addSondes (ci := 7) (row := (RX7, TX7, 8)) rfl rfl ⟨by decide, by decide, wd_551, wd_4, by decide +kernel⟩ wd_580 wd_549 wd_550 dX3_tryTransfer_37 (sd_iconst C (x := nI 1) dX3_tryTransfer_40 (by decide +kernel) (sd_zr C hr dX3_tryTransfer_41))))))))))))))))))) (sd_iconst C (x := nI 0) dX3_tryTransfer_9 (by decide +kernel) (sd_zr C hr dX3_tryTransfer_10)))))))
theorem dX3_settingRefusal_0 : decode cX3_settingRefusal 0 = .ok (.iload_n 1, 1) := by decide +kernel
theorem dX3_settingRefusal_1 : decode cX3_settingRefusal 1 = .ok (.iconst 0, 1) := by decide +kernel
theorem dX3_settingRefusal_2 : decode cX3_settingRefusal 2 = .ok (.iconst 4, 1) := by decide +kernel
theorem dX3_settingRefusal_3 : decode cX3_settingRefusal 3 = .ok (.invokestatic 92, 3) := by decide +kernel
theorem dX3_settingRefusal_6 : decode cX3_settingRefusal 6 = .ok (.ifCond .eq 24, 3) := by decide +kernel
theorem dX3_settingRefusal_9 : decode cX3_settingRefusal 9 = .ok (.iload_n 2, 1) := by decide +kernel
theorem dX3_settingRefusal_10 : decode cX3_settingRefusal 10 = .ok (.getstatic 153, 3) := by decide +kernel
theorem dX3_settingRefusal_13 : decode cX3_settingRefusal 13 = .ok (.iload_n 1, 1) := by decide +kernel
theorem dX3_settingRefusal_14 : decode cX3_settingRefusal 14 = .ok (.iaload, 1) := by decide +kernel
theorem dX3_settingRefusal_15 : decode cX3_settingRefusal 15 = .ok (.getstatic 156, 3) := by decide +kernel
theorem dX3_settingRefusal_18 : decode cX3_settingRefusal 18 = .ok (.iload_n 1, 1) := by decide +kernel
theorem dX3_settingRefusal_19 : decode cX3_settingRefusal 19 = .ok (.iaload, 1) := by decide +kernel
theorem dX3_settingRefusal_20 : decode cX3_settingRefusal 20 = .ok (.invokestatic 92, 3) := by decide +kernel
theorem dX3_settingRefusal_23 : decode cX3_settingRefusal 23 = .ok (.ifCond .eq 7, 3) := by decide +kernel
theorem dX3_settingRefusal_26 : decode cX3_settingRefusal 26 = .ok (.iconst 1, 1) := by decide +kernel
theorem dX3_settingRefusal_27 : decode cX3_settingRefusal 27 = .ok (.goto 4, 3) := by decide +kernel
theorem dX3_settingRefusal_30 : decode cX3_settingRefusal 30 = .ok (.iconst 0, 1) := by decide +kernel
theorem dX3_settingRefusal_31 : decode cX3_settingRefusal 31 = .ok (.istore_n 3, 1) := by decide +kernel
theorem dX3_settingRefusal_32 : decode cX3_settingRefusal 32 = .ok (.iload_n 3, 1) := by decide +kernel
theorem dX3_settingRefusal_33 : decode cX3_settingRefusal 33 = .ok (.ifCond .eq 7, 3) := by decide +kernel
theorem dX3_settingRefusal_36 : decode cX3_settingRefusal 36 = .ok (.iconst 0, 1) := by decide +kernel
theorem dX3_settingRefusal_37 : decode cX3_settingRefusal 37 = .ok (.goto 4, 3) := by decide +kernel
theorem dX3_settingRefusal_40 : decode cX3_settingRefusal 40 = .ok (.iconst 2, 1) := by decide +kernel
theorem dX3_settingRefusal_41 : decode cX3_settingRefusal 41 = .ok (.ireturn, 1) := by decide +kernel
def bX3_settingRefusal_0 (w : ab_W) (s_X9_within : ab_S) (M : Nat → ab_P) (Kn : Option Value → ab_H → Prop) : ab_P := ab_ild 1 (ab_ci (nI 0) (ab_ci (nI 4) (ab_cN w 3 s_X9_within (ab_if1 (fun x => x = 0) (M 30) (ab_ild 2 (ab_gs w 16 (ab_ild 1 (ab_ia w 20 (ab_gs w 17 (ab_ild 1 (ab_ia w 20 (ab_cN w 3 s_X9_within (ab_if1 (fun x => x = 0) (M 30) (ab_ci (nI 1) (M 31)))))))))))))))
def bX3_settingRefusal_30 (w : ab_W) (s_X9_within : ab_S) (M : Nat → ab_P) (Kn : Option Value → ab_H → Prop) : ab_P := ab_ci (nI 0) (M 31)
def bX3_settingRefusal_31 (w : ab_W) (s_X9_within : ab_S) (M : Nat → ab_P) (Kn : Option Value → ab_H → Prop) : ab_P := ab_ist 3 (ab_ild 3 (ab_if1 (fun x => x = 0) (ab_ci (nI 2) (M 41)) (ab_ci (nI 0) (M 41))))
def bX3_settingRefusal_41 (w : ab_W) (s_X9_within : ab_S) (M : Nat → ab_P) (Kn : Option Value → ab_H → Prop) : ab_P := ab_ir Kn
set_option maxRecDepth 20000 in
set_option maxHeartbeats 2000000 in
theorem vc_X3_settingRefusal {l : Launch} (hl : l.stackTraces = false) {w : ab_W} (hI : ab_Inj w) {mc : Nat} {σ : ab_H} {As : List Value} {Kn : Option Value → ab_H → Prop} {Kx : String → ab_H → Prop} {s_X9_within : ab_S} (ok_X9_within : ab_OkN l yX9_within (Cond.code yX9_within cX9_within 3 (some .boolean)) 1 s_X9_within) (hlen : (ab_xl As).length ≤ 4) (h : ∀ M : Nat → ab_P, (∀ L st σ, bX3_settingRefusal_0 w s_X9_within M Kn L st σ → M 0 L st σ) → (∀ L st σ, bX3_settingRefusal_30 w s_X9_within M Kn L st σ → M 30 L st σ) → (∀ L st σ, bX3_settingRefusal_31 w s_X9_within M Kn L st σ → M 31 L st σ) → (∀ L st σ, bX3_settingRefusal_41 w s_X9_within M Kn L st σ → M 41 L st σ) → M 0 (ab_pd 4 (ab_xl As)) [] σ) : ab_Met l yX3_settingRefusal (Cond.code yX3_settingRefusal cX3_settingRefusal 4 (some .int)) 2 mc w σ As Kn Kx := by
  refine ab_enter (by decide) hl hI hlen (by decide) ?_
  intro p e R s m args below meth c C hno hr
  exact h _ (sd_iload_n C (i := 1) dX3_settingRefusal_0 rfl (sd_iconst C (x := nI 0) dX3_settingRefusal_1 (by decide +kernel) (sd_iconst C (x := nI 4) dX3_settingRefusal_2 (by decide +kernel) (sd_cSN C ok_X9_within ⟨by decide, by decide, wd_477, wd_1, by decide +kernel⟩ wn_475 wd_476 dX3_settingRefusal_3 (sd_if_eq C dX3_settingRefusal_6 (tgt := 30) (by decide) (fun _ _ _ h => h) (sd_iload_n C (i := 2) dX3_settingRefusal_9 rfl (sd_gs C (v := 16) C.2.2.2.2.2.2.2.1.1 wn_871 dX3_settingRefusal_10 (sd_iload_n C (i := 1) dX3_settingRefusal_13 rfl (sd_ia20 C dX3_settingRefusal_14 (sd_gs C (v := 17) C.2.2.2.2.2.2.2.1.2.1 wn_873 dX3_settingRefusal_15 (sd_iload_n C (i := 1) dX3_settingRefusal_18 rfl (sd_ia20 C dX3_settingRefusal_19 (sd_cSN C ok_X9_within ⟨by decide, by decide, wd_477, wd_1, by decide +kernel⟩ wn_475 wd_476 dX3_settingRefusal_20 (sd_if_eq C dX3_settingRefusal_23 (tgt := 30) (by decide) (fun _ _ _ h => h) (sd_iconst C (x := nI 1) dX3_settingRefusal_26 (by decide +kernel) (sd_goto C dX3_settingRefusal_27 (tgt := 31) (by decide) (fun _ _ _ h => h)))))))))))))))))
    (sd_iconst C (x := nI 0) dX3_settingRefusal_30 (by decide +kernel) (fun _ _ _ h => h))
    (sd_istore_n C (i := 3) dX3_settingRefusal_31 rfl (by decide) (sd_iload_n C (i := 3) dX3_settingRefusal_32 rfl (sd_if_eq C dX3_settingRefusal_33 (tgt := 40) (by decide) (sd_iconst C (x := nI 2) dX3_settingRefusal_40 (by decide +kernel) (fun _ _ _ h => h)) (sd_iconst C (x := nI 0) dX3_settingRefusal_36 (by decide +kernel) (sd_goto C dX3_settingRefusal_37 (tgt := 41) (by decide) (fun _ _ _ h => h))))))
    (sd_ir C hr dX3_settingRefusal_41)
theorem dX3_trySetting_0 : decode cX3_trySetting 0 = .ok (.aload_n 0, 1) := by decide +kernel
theorem dX3_trySetting_1 : decode cX3_trySetting 1 = .ok (.iload_n 1, 1) := by decide +kernel
theorem dX3_trySetting_2 : decode cX3_trySetting 2 = .ok (.iload_n 2, 1) := by decide +kernel
theorem dX3_trySetting_3 : decode cX3_trySetting 3 = .ok (.invokevirtual 159, 3) := by decide +kernel
theorem dX3_trySetting_6 : decode cX3_trySetting 6 = .ok (.ifCond .eq 5, 3) := by decide +kernel
theorem dX3_trySetting_9 : decode cX3_trySetting 9 = .ok (.iconst 0, 1) := by decide +kernel
theorem dX3_trySetting_10 : decode cX3_trySetting 10 = .ok (.ireturn, 1) := by decide +kernel
theorem dX3_trySetting_11 : decode cX3_trySetting 11 = .ok (.aload_n 0, 1) := by decide +kernel
theorem dX3_trySetting_12 : decode cX3_trySetting 12 = .ok (.getfield 50, 3) := by decide +kernel
theorem dX3_trySetting_15 : decode cX3_trySetting 15 = .ok (.iload_n 1, 1) := by decide +kernel
theorem dX3_trySetting_16 : decode cX3_trySetting 16 = .ok (.iload_n 2, 1) := by decide +kernel
theorem dX3_trySetting_17 : decode cX3_trySetting 17 = .ok (.iastore, 1) := by decide +kernel
theorem dX3_trySetting_18 : decode cX3_trySetting 18 = .ok (.iconst 1, 1) := by decide +kernel
theorem dX3_trySetting_19 : decode cX3_trySetting 19 = .ok (.ireturn, 1) := by decide +kernel
def bX3_trySetting_0 (w : ab_W) (s_X3_settingRefusal : ab_S) (M : Nat → ab_P) (Kn : Option Value → ab_H → Prop) : ab_P := ab_ald 0 (ab_ild 1 (ab_ild 2 (ab_cV w 3 3 s_X3_settingRefusal (ab_if1 (fun x => x = 0) (ab_ald 0 (ab_gr w 3 28 (ab_ild 1 (ab_ild 2 (ab_is w (ab_ci (nI 1) (ab_zr Kn))))))) (ab_ci (nI 0) (ab_zr Kn))))))
set_option maxRecDepth 20000 in
set_option maxHeartbeats 2000000 in
theorem vc_X3_trySetting {l : Launch} (hl : l.stackTraces = false) {w : ab_W} (hI : ab_Inj w) {mc : Nat} {σ : ab_H} {As : List Value} {Kn : Option Value → ab_H → Prop} {Kx : String → ab_H → Prop} {s_X3_settingRefusal : ab_S} (ok_X3_settingRefusal : ab_OkN l yX3_settingRefusal (Cond.code yX3_settingRefusal cX3_settingRefusal 4 (some .int)) 2 s_X3_settingRefusal) (hlen : (ab_xl As).length ≤ 3) (h : ∀ M : Nat → ab_P, (∀ L st σ, bX3_trySetting_0 w s_X3_settingRefusal M Kn L st σ → M 0 L st σ) → M 0 (ab_pd 3 (ab_xl As)) [] σ) : ab_Met l yX3_trySetting (Cond.code yX3_trySetting cX3_trySetting 3 (some .boolean)) 3 mc w σ As Kn Kx := by
  refine ab_enter (by decide) hl hI hlen (by decide) ?_
  intro p e R s m args below meth c C hno hr
  exact h _ (sd_aload_n C (i := 0) dX3_trySetting_0 rfl (sd_iload_n C (i := 1) dX3_trySetting_1 rfl (sd_iload_n C (i := 2) dX3_trySetting_2 rfl (sd_cV C ok_X3_settingRefusal (ci := 3) (row := (RX3, TX3, 13)) rfl rfl ⟨by decide, by decide, wd_870, wd_3, by decide +kernel⟩ wd_879 wd_868 wd_869 dX3_trySetting_3 (sd_if_eq C dX3_trySetting_6 (tgt := 11) (by decide) (sd_aload_n C (i := 0) dX3_trySetting_11 rfl (sd_gr C (ci := 3) (k := 6) (r := (RX3, TX3, 13)) rfl (by decide) rfl wd_215 dX3_trySetting_12 (sd_iload_n C (i := 1) dX3_trySetting_15 rfl (sd_iload_n C (i := 2) dX3_trySetting_16 rfl (sd_is C dX3_trySetting_17 (sd_iconst C (x := nI 1) dX3_trySetting_18 (by decide +kernel) (sd_zr C hr dX3_trySetting_19))))))) (sd_iconst C (x := nI 0) dX3_trySetting_9 (by decide +kernel) (sd_zr C hr dX3_trySetting_10)))))))
theorem dX3_takeWhatArrives_0 : decode cX3_takeWhatArrives 0 = .ok (.aload_n 0, 1) := by decide +kernel
theorem dX3_takeWhatArrives_1 : decode cX3_takeWhatArrives 1 = .ok (.getfield 28, 3) := by decide +kernel
theorem dX3_takeWhatArrives_4 : decode cX3_takeWhatArrives 4 = .ok (.aload_n 0, 1) := by decide +kernel
theorem dX3_takeWhatArrives_5 : decode cX3_takeWhatArrives 5 = .ok (.getfield 73, 3) := by decide +kernel
theorem dX3_takeWhatArrives_8 : decode cX3_takeWhatArrives 8 = .ok (.aload_n 0, 1) := by decide +kernel
theorem dX3_takeWhatArrives_9 : decode cX3_takeWhatArrives 9 = .ok (.getfield 12, 3) := by decide +kernel
theorem dX3_takeWhatArrives_12 : decode cX3_takeWhatArrives 12 = .ok (.invokevirtual 168, 3) := by decide +kernel
theorem dX3_takeWhatArrives_15 : decode cX3_takeWhatArrives 15 = .ok (.aload_n 0, 1) := by decide +kernel
theorem dX3_takeWhatArrives_16 : decode cX3_takeWhatArrives 16 = .ok (.getfield 35, 3) := by decide +kernel
theorem dX3_takeWhatArrives_19 : decode cX3_takeWhatArrives 19 = .ok (.aload_n 0, 1) := by decide +kernel
theorem dX3_takeWhatArrives_20 : decode cX3_takeWhatArrives 20 = .ok (.getfield 73, 3) := by decide +kernel
theorem dX3_takeWhatArrives_23 : decode cX3_takeWhatArrives 23 = .ok (.aload_n 0, 1) := by decide +kernel
theorem dX3_takeWhatArrives_24 : decode cX3_takeWhatArrives 24 = .ok (.getfield 12, 3) := by decide +kernel
theorem dX3_takeWhatArrives_27 : decode cX3_takeWhatArrives 27 = .ok (.invokevirtual 172, 3) := by decide +kernel
theorem dX3_takeWhatArrives_30 : decode cX3_takeWhatArrives 30 = .ok (.istore_n 1, 1) := by decide +kernel
theorem dX3_takeWhatArrives_31 : decode cX3_takeWhatArrives 31 = .ok (.aload_n 0, 1) := by decide +kernel
theorem dX3_takeWhatArrives_32 : decode cX3_takeWhatArrives 32 = .ok (.dup, 1) := by decide +kernel
theorem dX3_takeWhatArrives_33 : decode cX3_takeWhatArrives 33 = .ok (.getfield 86, 3) := by decide +kernel
theorem dX3_takeWhatArrives_36 : decode cX3_takeWhatArrives 36 = .ok (.iload_n 1, 1) := by decide +kernel
theorem dX3_takeWhatArrives_37 : decode cX3_takeWhatArrives 37 = .ok (.iadd, 1) := by decide +kernel
theorem dX3_takeWhatArrives_38 : decode cX3_takeWhatArrives 38 = .ok (.putfield 86, 3) := by decide +kernel
theorem dX3_takeWhatArrives_41 : decode cX3_takeWhatArrives 41 = .ok (.aload_n 0, 1) := by decide +kernel
theorem dX3_takeWhatArrives_42 : decode cX3_takeWhatArrives 42 = .ok (.dup, 1) := by decide +kernel
theorem dX3_takeWhatArrives_43 : decode cX3_takeWhatArrives 43 = .ok (.getfield 77, 3) := by decide +kernel
theorem dX3_takeWhatArrives_46 : decode cX3_takeWhatArrives 46 = .ok (.iload_n 1, 1) := by decide +kernel
theorem dX3_takeWhatArrives_47 : decode cX3_takeWhatArrives 47 = .ok (.aload_n 0, 1) := by decide +kernel
theorem dX3_takeWhatArrives_48 : decode cX3_takeWhatArrives 48 = .ok (.getfield 50, 3) := by decide +kernel
theorem dX3_takeWhatArrives_51 : decode cX3_takeWhatArrives 51 = .ok (.iconst 4, 1) := by decide +kernel
theorem dX3_takeWhatArrives_52 : decode cX3_takeWhatArrives 52 = .ok (.iaload, 1) := by decide +kernel
theorem dX3_takeWhatArrives_53 : decode cX3_takeWhatArrives 53 = .ok (.imul, 1) := by decide +kernel
theorem dX3_takeWhatArrives_54 : decode cX3_takeWhatArrives 54 = .ok (.iadd, 1) := by decide +kernel
theorem dX3_takeWhatArrives_55 : decode cX3_takeWhatArrives 55 = .ok (.putfield 77, 3) := by decide +kernel
theorem dX3_takeWhatArrives_58 : decode cX3_takeWhatArrives 58 = .ok (.return_, 1) := by decide +kernel
def bX3_takeWhatArrives_0 (w : ab_W) (s_X4_bringDue : ab_S) (s_X5_bringDue : ab_S) (M : Nat → ab_P) (Kn : Option Value → ab_H → Prop) : ab_P := ab_ald 0 (ab_gr w 3 14 (ab_ald 0 (ab_gf w 3 7 (ab_ald 0 (ab_gr w 3 1 (ab_cV w 3 4 s_X4_bringDue (ab_ald 0 (ab_gr w 3 19 (ab_ald 0 (ab_gf w 3 7 (ab_ald 0 (ab_gr w 3 1 (ab_cV w 3 5 s_X5_bringDue (ab_ist 1 (ab_ald 0 (ab_dup (ab_gf w 3 11 (ab_ild 1 (ab_b2 (fun x y => x + y) (ab_pf w 3 11 (ab_ald 0 (ab_dup (ab_gf w 3 8 (ab_ild 1 (ab_ald 0 (ab_gr w 3 28 (ab_ci (nI 4) (ab_ia w 11 (ab_b2 (fun x y => x * y) (ab_b2 (fun x y => x + y) (ab_pf w 3 8 (ab_vr Kn))))))))))))))))))))))))))))))))
set_option maxRecDepth 20000 in
set_option maxHeartbeats 2000000 in
theorem vc_X3_takeWhatArrives {l : Launch} (hl : l.stackTraces = false) {w : ab_W} (hI : ab_Inj w) {mc : Nat} {σ : ab_H} {As : List Value} {Kn : Option Value → ab_H → Prop} {Kx : String → ab_H → Prop} {s_X4_bringDue : ab_S} (ok_X4_bringDue : ab_OkN l yX4_bringDue (Cond.code yX4_bringDue cX4_bringDue 5 none) 3 s_X4_bringDue) {s_X5_bringDue : ab_S} (ok_X5_bringDue : ab_OkN l yX5_bringDue (Cond.code yX5_bringDue cX5_bringDue 5 (some .int)) 3 s_X5_bringDue) (hlen : (ab_xl As).length ≤ 2) (h : ∀ M : Nat → ab_P, (∀ L st σ, bX3_takeWhatArrives_0 w s_X4_bringDue s_X5_bringDue M Kn L st σ → M 0 L st σ) → M 0 (ab_pd 2 (ab_xl As)) [] σ) : ab_Met l yX3_takeWhatArrives (Cond.code yX3_takeWhatArrives cX3_takeWhatArrives 2 none) 4 mc w σ As Kn Kx := by
  refine ab_enter (by decide) hl hI hlen (by decide) ?_
  intro p e R s m args below meth c C hno hr
  exact h _ (sd_aload_n C (i := 0) dX3_takeWhatArrives_0 rfl (sd_gr C (ci := 3) (k := 2) (r := (RX3, TX3, 13)) rfl (by decide) rfl wd_207 dX3_takeWhatArrives_1 (sd_aload_n C (i := 0) dX3_takeWhatArrives_4 rfl (sd_gf C (ci := 3) (k := 7) (r := (RX3, TX3, 13)) rfl (by decide) rfl wd_217 dX3_takeWhatArrives_5 (sd_aload_n C (i := 0) dX3_takeWhatArrives_8 rfl (sd_gr C (ci := 3) (k := 0) (r := (RX3, TX3, 13)) rfl (by decide) rfl wd_203 dX3_takeWhatArrives_9 (sd_cV C ok_X4_bringDue (ci := 4) (row := (RX4, TX4, 5)) rfl rfl ⟨by decide, by decide, wd_542, wd_6, by decide +kernel⟩ wd_539 wd_540 wd_541 dX3_takeWhatArrives_12 (sd_aload_n C (i := 0) dX3_takeWhatArrives_15 rfl (sd_gr C (ci := 3) (k := 3) (r := (RX3, TX3, 13)) rfl (by decide) rfl wd_209 dX3_takeWhatArrives_16 (sd_aload_n C (i := 0) dX3_takeWhatArrives_19 rfl (sd_gf C (ci := 3) (k := 7) (r := (RX3, TX3, 13)) rfl (by decide) rfl wd_217 dX3_takeWhatArrives_20 (sd_aload_n C (i := 0) dX3_takeWhatArrives_23 rfl (sd_gr C (ci := 3) (k := 0) (r := (RX3, TX3, 13)) rfl (by decide) rfl wd_203 dX3_takeWhatArrives_24 (sd_cV C ok_X5_bringDue (ci := 5) (row := (RX5, TX5, 4)) rfl rfl ⟨by decide, by decide, wd_547, wd_7, by decide +kernel⟩ wd_544 wd_545 wd_546 dX3_takeWhatArrives_27 (sd_istore_n C (i := 1) dX3_takeWhatArrives_30 rfl (by decide) (sd_aload_n C (i := 0) dX3_takeWhatArrives_31 rfl (sd_dup C dX3_takeWhatArrives_32 (sd_gf C (ci := 3) (k := 11) (r := (RX3, TX3, 13)) rfl (by decide) rfl wd_225 dX3_takeWhatArrives_33 (sd_iload_n C (i := 1) dX3_takeWhatArrives_36 rfl (sd_iadd C dX3_takeWhatArrives_37 (sd_pf C (ci := 3) (k := 11) (r := (RX3, TX3, 13)) rfl (by decide) rfl rfl (by decide +kernel) wd_225 dX3_takeWhatArrives_38 (sd_aload_n C (i := 0) dX3_takeWhatArrives_41 rfl (sd_dup C dX3_takeWhatArrives_42 (sd_gf C (ci := 3) (k := 8) (r := (RX3, TX3, 13)) rfl (by decide) rfl wd_219 dX3_takeWhatArrives_43 (sd_iload_n C (i := 1) dX3_takeWhatArrives_46 rfl (sd_aload_n C (i := 0) dX3_takeWhatArrives_47 rfl (sd_gr C (ci := 3) (k := 6) (r := (RX3, TX3, 13)) rfl (by decide) rfl wd_215 dX3_takeWhatArrives_48 (sd_iconst C (x := nI 4) dX3_takeWhatArrives_51 (by decide +kernel) (sd_ia C dX3_takeWhatArrives_52 (sd_imul C dX3_takeWhatArrives_53 (sd_iadd C dX3_takeWhatArrives_54 (sd_pf C (ci := 3) (k := 8) (r := (RX3, TX3, 13)) rfl (by decide) rfl rfl (by decide +kernel) wd_219 dX3_takeWhatArrives_55 (sd_vr C hr dX3_takeWhatArrives_58)))))))))))))))))))))))))))))))))
theorem dX3_hourOfNow_0 : decode cX3_hourOfNow 0 = .ok (.aload_n 0, 1) := by decide +kernel
theorem dX3_hourOfNow_1 : decode cX3_hourOfNow 1 = .ok (.getfield 73, 3) := by decide +kernel
theorem dX3_hourOfNow_4 : decode cX3_hourOfNow 4 = .ok (.iconst 4, 1) := by decide +kernel
theorem dX3_hourOfNow_5 : decode cX3_hourOfNow 5 = .ok (.invokestatic 213, 3) := by decide +kernel
theorem dX3_hourOfNow_8 : decode cX3_hourOfNow 8 = .ok (.ireturn, 1) := by decide +kernel
def bX3_hourOfNow_0 (w : ab_W) (s_J9_floorMod_7cf53 : ab_S) (M : Nat → ab_P) (Kn : Option Value → ab_H → Prop) : ab_P := ab_ald 0 (ab_gf w 3 7 (ab_ci (nI 4) (ab_cN w 2 s_J9_floorMod_7cf53 (ab_ir Kn))))
set_option maxRecDepth 20000 in
set_option maxHeartbeats 2000000 in
theorem vc_X3_hourOfNow {l : Launch} (hl : l.stackTraces = false) {w : ab_W} (hI : ab_Inj w) {mc : Nat} {σ : ab_H} {As : List Value} {Kn : Option Value → ab_H → Prop} {Kx : String → ab_H → Prop} {s_J9_floorMod_7cf53 : ab_S} (ok_J9_floorMod_7cf53 : ab_OkN l yJ9_floorMod_7cf53 (Cond.code yJ9_floorMod_7cf53 cJ9_floorMod_7cf53 3 (some .int)) 1 s_J9_floorMod_7cf53) (hlen : (ab_xl As).length ≤ 1) (h : ∀ M : Nat → ab_P, (∀ L st σ, bX3_hourOfNow_0 w s_J9_floorMod_7cf53 M Kn L st σ → M 0 L st σ) → M 0 (ab_pd 1 (ab_xl As)) [] σ) : ab_Met l yX3_hourOfNow (Cond.code yX3_hourOfNow cX3_hourOfNow 1 (some .int)) 2 mc w σ As Kn Kx := by
  refine ab_enter (by decide) hl hI hlen (by decide) ?_
  intro p e R s m args below meth c C hno hr
  exact h _ (sd_aload_n C (i := 0) dX3_hourOfNow_0 rfl (sd_gf C (ci := 3) (k := 7) (r := (RX3, TX3, 13)) rfl (by decide) rfl wd_217 dX3_hourOfNow_1 (sd_iconst C (x := nI 4) dX3_hourOfNow_4 (by decide +kernel) (sd_cS C ok_J9_floorMod_7cf53 ⟨by decide, by decide, wd_571, wd_16, by decide +kernel⟩ wd_569 wd_570 dX3_hourOfNow_5 (sd_ir C hr dX3_hourOfNow_8)))))
theorem dX3_planOf_0 : decode cX3_planOf 0 = .ok (.aload_n 0, 1) := by decide +kernel
theorem dX3_planOf_1 : decode cX3_planOf 1 = .ok (.getfield 12, 3) := by decide +kernel
theorem dX3_planOf_4 : decode cX3_planOf 4 = .ok (.iload_n 1, 1) := by decide +kernel
theorem dX3_planOf_5 : decode cX3_planOf 5 = .ok (.invokevirtual 120, 3) := by decide +kernel
theorem dX3_planOf_8 : decode cX3_planOf 8 = .ok (.ifCond .eq 22, 3) := by decide +kernel
theorem dX3_planOf_11 : decode cX3_planOf 11 = .ok (.aload_n 0, 1) := by decide +kernel
theorem dX3_planOf_12 : decode cX3_planOf 12 = .ok (.getfield 12, 3) := by decide +kernel
theorem dX3_planOf_15 : decode cX3_planOf 15 = .ok (.getfield 127, 3) := by decide +kernel
theorem dX3_planOf_18 : decode cX3_planOf 18 = .ok (.iload_n 1, 1) := by decide +kernel
theorem dX3_planOf_19 : decode cX3_planOf 19 = .ok (.iaload, 1) := by decide +kernel
theorem dX3_planOf_20 : decode cX3_planOf 20 = .ok (.aload_n 0, 1) := by decide +kernel
theorem dX3_planOf_21 : decode cX3_planOf 21 = .ok (.invokevirtual 185, 3) := by decide +kernel
theorem dX3_planOf_24 : decode cX3_planOf 24 = .ok (.ishr, 1) := by decide +kernel
theorem dX3_planOf_25 : decode cX3_planOf 25 = .ok (.iconst 1, 1) := by decide +kernel
theorem dX3_planOf_26 : decode cX3_planOf 26 = .ok (.iand, 1) := by decide +kernel
theorem dX3_planOf_27 : decode cX3_planOf 27 = .ok (.ifCond .ne 5, 3) := by decide +kernel
theorem dX3_planOf_30 : decode cX3_planOf 30 = .ok (.iconst 0, 1) := by decide +kernel
theorem dX3_planOf_31 : decode cX3_planOf 31 = .ok (.ireturn, 1) := by decide +kernel
theorem dX3_planOf_32 : decode cX3_planOf 32 = .ok (.aload_n 0, 1) := by decide +kernel
theorem dX3_planOf_33 : decode cX3_planOf 33 = .ok (.getfield 12, 3) := by decide +kernel
theorem dX3_planOf_36 : decode cX3_planOf 36 = .ok (.getfield 189, 3) := by decide +kernel
theorem dX3_planOf_39 : decode cX3_planOf 39 = .ok (.iload_n 1, 1) := by decide +kernel
theorem dX3_planOf_40 : decode cX3_planOf 40 = .ok (.iaload, 1) := by decide +kernel
theorem dX3_planOf_41 : decode cX3_planOf 41 = .ok (.aload_n 0, 1) := by decide +kernel
theorem dX3_planOf_42 : decode cX3_planOf 42 = .ok (.getfield 12, 3) := by decide +kernel
theorem dX3_planOf_45 : decode cX3_planOf 45 = .ok (.getfield 130, 3) := by decide +kernel
theorem dX3_planOf_48 : decode cX3_planOf 48 = .ok (.iload_n 1, 1) := by decide +kernel
theorem dX3_planOf_49 : decode cX3_planOf 49 = .ok (.iaload, 1) := by decide +kernel
theorem dX3_planOf_50 : decode cX3_planOf 50 = .ok (.if_icmp .ge 5, 3) := by decide +kernel
theorem dX3_planOf_53 : decode cX3_planOf 53 = .ok (.iconst 2, 1) := by decide +kernel
theorem dX3_planOf_54 : decode cX3_planOf 54 = .ok (.ireturn, 1) := by decide +kernel
theorem dX3_planOf_55 : decode cX3_planOf 55 = .ok (.aload_n 0, 1) := by decide +kernel
theorem dX3_planOf_56 : decode cX3_planOf 56 = .ok (.getfield 12, 3) := by decide +kernel
theorem dX3_planOf_59 : decode cX3_planOf 59 = .ok (.iload_n 1, 1) := by decide +kernel
theorem dX3_planOf_60 : decode cX3_planOf 60 = .ok (.invokevirtual 143, 3) := by decide +kernel
theorem dX3_planOf_63 : decode cX3_planOf 63 = .ok (.iconst (-1), 1) := by decide +kernel
theorem dX3_planOf_64 : decode cX3_planOf 64 = .ok (.if_icmp .ne 7, 3) := by decide +kernel
theorem dX3_planOf_67 : decode cX3_planOf 67 = .ok (.iconst 3, 1) := by decide +kernel
theorem dX3_planOf_68 : decode cX3_planOf 68 = .ok (.goto 4, 3) := by decide +kernel
theorem dX3_planOf_71 : decode cX3_planOf 71 = .ok (.iconst 1, 1) := by decide +kernel
theorem dX3_planOf_72 : decode cX3_planOf 72 = .ok (.ireturn, 1) := by decide +kernel
def bX3_planOf_0 (w : ab_W) (s_X7_has : ab_S) (s_X3_hourOfNow : ab_S) (s_X7_mostFlownOf : ab_S) (M : Nat → ab_P) (Kn : Option Value → ab_H → Prop) : ab_P := ab_ald 0 (ab_gr w 3 1 (ab_ild 1 (ab_cV w 2 7 s_X7_has (ab_if1 (fun x => x = 0) (M 30) (ab_ald 0 (ab_gr w 3 1 (ab_gr w 7 2 (ab_ild 1 (ab_ia w 11 (ab_ald 0 (ab_cV w 1 3 s_X3_hourOfNow (ab_b2 (fun x y => x >>> (y &&& 31)) (ab_ci (nI 1) (ab_b2 (fun x y => x &&& y) (ab_if1 (fun x => ¬ x = 0) (ab_ald 0 (ab_gr w 3 1 (ab_gr w 7 4 (ab_ild 1 (ab_ia w 11 (ab_ald 0 (ab_gr w 3 1 (ab_gr w 7 3 (ab_ild 1 (ab_ia w 11 (ab_if2 (fun x y => y ≤ x) (ab_ald 0 (ab_gr w 3 1 (ab_ild 1 (ab_cV w 2 7 s_X7_mostFlownOf (ab_ci (-1) (ab_if2 (fun x y => ¬ x = y) (ab_ci (nI 1) (M 72)) (ab_ci (nI 3) (M 72)))))))) (ab_ci (nI 2) (ab_ir Kn))))))))))))) (M 30))))))))))))))))
def bX3_planOf_30 (w : ab_W) (s_X7_has : ab_S) (s_X3_hourOfNow : ab_S) (s_X7_mostFlownOf : ab_S) (M : Nat → ab_P) (Kn : Option Value → ab_H → Prop) : ab_P := ab_ci (nI 0) (ab_ir Kn)
def bX3_planOf_72 (w : ab_W) (s_X7_has : ab_S) (s_X3_hourOfNow : ab_S) (s_X7_mostFlownOf : ab_S) (M : Nat → ab_P) (Kn : Option Value → ab_H → Prop) : ab_P := ab_ir Kn
set_option maxRecDepth 20000 in
set_option maxHeartbeats 2000000 in
theorem vc_X3_planOf {l : Launch} (hl : l.stackTraces = false) {w : ab_W} (hI : ab_Inj w) {mc : Nat} {σ : ab_H} {As : List Value} {Kn : Option Value → ab_H → Prop} {Kx : String → ab_H → Prop} {s_X7_has : ab_S} (ok_X7_has : ab_OkN l yX7_has (Cond.code yX7_has cX7_has 2 (some .boolean)) 1 s_X7_has) {s_X3_hourOfNow : ab_S} (ok_X3_hourOfNow : ab_OkN l yX3_hourOfNow (Cond.code yX3_hourOfNow cX3_hourOfNow 1 (some .int)) 2 s_X3_hourOfNow) {s_X7_mostFlownOf : ab_S} (ok_X7_mostFlownOf : ab_OkN l yX7_mostFlownOf (Cond.code yX7_mostFlownOf cX7_mostFlownOf 3 (some .int)) 2 s_X7_mostFlownOf) (hlen : (ab_xl As).length ≤ 2) (h : ∀ M : Nat → ab_P, (∀ L st σ, bX3_planOf_0 w s_X7_has s_X3_hourOfNow s_X7_mostFlownOf M Kn L st σ → M 0 L st σ) → (∀ L st σ, bX3_planOf_30 w s_X7_has s_X3_hourOfNow s_X7_mostFlownOf M Kn L st σ → M 30 L st σ) → (∀ L st σ, bX3_planOf_72 w s_X7_has s_X3_hourOfNow s_X7_mostFlownOf M Kn L st σ → M 72 L st σ) → M 0 (ab_pd 2 (ab_xl As)) [] σ) : ab_Met l yX3_planOf (Cond.code yX3_planOf cX3_planOf 2 (some .int)) 3 mc w σ As Kn Kx := by
  refine ab_enter (by decide) hl hI hlen (by decide) ?_
  intro p e R s m args below meth c C hno hr
  exact h _ (sd_aload_n C (i := 0) dX3_planOf_0 rfl (sd_gr C (ci := 3) (k := 0) (r := (RX3, TX3, 13)) rfl (by decide) rfl wd_203 dX3_planOf_1 (sd_iload_n C (i := 1) dX3_planOf_4 rfl (sd_cV C ok_X7_has (ci := 7) (row := (RX7, TX7, 8)) rfl rfl ⟨by decide, by decide, wd_489, wd_4, by decide +kernel⟩ wd_518 wd_487 wd_488 dX3_planOf_5 (sd_if_eq C dX3_planOf_8 (tgt := 30) (by decide) (fun _ _ _ h => h) (sd_aload_n C (i := 0) dX3_planOf_11 rfl (sd_gr C (ci := 3) (k := 0) (r := (RX3, TX3, 13)) rfl (by decide) rfl wd_203 dX3_planOf_12 (sd_gr C (ci := 7) (k := 2) (r := (RX7, TX7, 8)) rfl (by decide) rfl wd_74 dX3_planOf_15 (sd_iload_n C (i := 1) dX3_planOf_18 rfl (sd_ia C dX3_planOf_19 (sd_aload_n C (i := 0) dX3_planOf_20 rfl (sd_cV C ok_X3_hourOfNow (ci := 3) (row := (RX3, TX3, 13)) rfl rfl ⟨by decide, by decide, wd_568, wd_3, by decide +kernel⟩ wd_565 wd_567 ws_7 dX3_planOf_21 (sd_ishr C dX3_planOf_24 (sd_iconst C (x := nI 1) dX3_planOf_25 (by decide +kernel) (sd_iand C dX3_planOf_26 (sd_if_ne C dX3_planOf_27 (tgt := 32) (by decide) (sd_aload_n C (i := 0) dX3_planOf_32 rfl (sd_gr C (ci := 3) (k := 0) (r := (RX3, TX3, 13)) rfl (by decide) rfl wd_203 dX3_planOf_33 (sd_gr C (ci := 7) (k := 4) (r := (RX7, TX7, 8)) rfl (by decide) rfl wd_80 dX3_planOf_36 (sd_iload_n C (i := 1) dX3_planOf_39 rfl (sd_ia C dX3_planOf_40 (sd_aload_n C (i := 0) dX3_planOf_41 rfl (sd_gr C (ci := 3) (k := 0) (r := (RX3, TX3, 13)) rfl (by decide) rfl wd_203 dX3_planOf_42 (sd_gr C (ci := 7) (k := 3) (r := (RX7, TX7, 8)) rfl (by decide) rfl wd_77 dX3_planOf_45 (sd_iload_n C (i := 1) dX3_planOf_48 rfl (sd_ia C dX3_planOf_49 (sd_icmp_ge C dX3_planOf_50 (tgt := 55) (by decide) (sd_aload_n C (i := 0) dX3_planOf_55 rfl (sd_gr C (ci := 3) (k := 0) (r := (RX3, TX3, 13)) rfl (by decide) rfl wd_203 dX3_planOf_56 (sd_iload_n C (i := 1) dX3_planOf_59 rfl (sd_cV C ok_X7_mostFlownOf (ci := 7) (row := (RX7, TX7, 8)) rfl rfl ⟨by decide, by decide, wd_575, wd_4, by decide +kernel⟩ wd_572 wd_573 wd_574 dX3_planOf_60 (sd_iconst C (x := -1) dX3_planOf_63 (by decide +kernel) (sd_icmp_ne C dX3_planOf_64 (tgt := 71) (by decide) (sd_iconst C (x := nI 1) dX3_planOf_71 (by decide +kernel) (fun _ _ _ h => h)) (sd_iconst C (x := nI 3) dX3_planOf_67 (by decide +kernel) (sd_goto C dX3_planOf_68 (tgt := 72) (by decide) (fun _ _ _ h => h))))))))) (sd_iconst C (x := nI 2) dX3_planOf_53 (by decide +kernel) (sd_ir C hr dX3_planOf_54))))))))))))) (fun _ _ _ h => h)))))))))))))))))
    (sd_iconst C (x := nI 0) dX3_planOf_30 (by decide +kernel) (sd_ir C hr dX3_planOf_31))
    (sd_ir C hr dX3_planOf_72)
theorem dX3_landingPlace_0 : decode cX3_landingPlace 0 = .ok (.aload_n 0, 1) := by decide +kernel
theorem dX3_landingPlace_1 : decode cX3_landingPlace 1 = .ok (.getfield 12, 3) := by decide +kernel
theorem dX3_landingPlace_4 : decode cX3_landingPlace 4 = .ok (.iload_n 1, 1) := by decide +kernel
theorem dX3_landingPlace_5 : decode cX3_landingPlace 5 = .ok (.invokevirtual 120, 3) := by decide +kernel
theorem dX3_landingPlace_8 : decode cX3_landingPlace 8 = .ok (.ifCond .eq 12, 3) := by decide +kernel
theorem dX3_landingPlace_11 : decode cX3_landingPlace 11 = .ok (.iload_n 2, 1) := by decide +kernel
theorem dX3_landingPlace_12 : decode cX3_landingPlace 12 = .ok (.iconst 0, 1) := by decide +kernel
theorem dX3_landingPlace_13 : decode cX3_landingPlace 13 = .ok (.iconst 3, 1) := by decide +kernel
theorem dX3_landingPlace_14 : decode cX3_landingPlace 14 = .ok (.invokestatic 92, 3) := by decide +kernel
theorem dX3_landingPlace_17 : decode cX3_landingPlace 17 = .ok (.ifCond .ne 5, 3) := by decide +kernel
theorem dX3_landingPlace_20 : decode cX3_landingPlace 20 = .ok (.iconst (-1), 1) := by decide +kernel
theorem dX3_landingPlace_21 : decode cX3_landingPlace 21 = .ok (.ireturn, 1) := by decide +kernel
theorem dX3_landingPlace_22 : decode cX3_landingPlace 22 = .ok (.aload_n 0, 1) := by decide +kernel
theorem dX3_landingPlace_23 : decode cX3_landingPlace 23 = .ok (.getfield 12, 3) := by decide +kernel
theorem dX3_landingPlace_26 : decode cX3_landingPlace 26 = .ok (.getfield 218, 3) := by decide +kernel
theorem dX3_landingPlace_29 : decode cX3_landingPlace 29 = .ok (.iload_n 1, 1) := by decide +kernel
theorem dX3_landingPlace_30 : decode cX3_landingPlace 30 = .ok (.iaload, 1) := by decide +kernel
theorem dX3_landingPlace_31 : decode cX3_landingPlace 31 = .ok (.aload_n 0, 1) := by decide +kernel
theorem dX3_landingPlace_32 : decode cX3_landingPlace 32 = .ok (.getfield 46, 3) := by decide +kernel
theorem dX3_landingPlace_35 : decode cX3_landingPlace 35 = .ok (.iload_n 2, 1) := by decide +kernel
theorem dX3_landingPlace_36 : decode cX3_landingPlace 36 = .ok (.iaload, 1) := by decide +kernel
theorem dX3_landingPlace_37 : decode cX3_landingPlace 37 = .ok (.aload_n 0, 1) := by decide +kernel
theorem dX3_landingPlace_38 : decode cX3_landingPlace 38 = .ok (.getfield 12, 3) := by decide +kernel
theorem dX3_landingPlace_41 : decode cX3_landingPlace 41 = .ok (.getfield 130, 3) := by decide +kernel
theorem dX3_landingPlace_44 : decode cX3_landingPlace 44 = .ok (.iload_n 1, 1) := by decide +kernel
theorem dX3_landingPlace_45 : decode cX3_landingPlace 45 = .ok (.iaload, 1) := by decide +kernel
theorem dX3_landingPlace_46 : decode cX3_landingPlace 46 = .ok (.imul, 1) := by decide +kernel
theorem dX3_landingPlace_47 : decode cX3_landingPlace 47 = .ok (.iadd, 1) := by decide +kernel
theorem dX3_landingPlace_48 : decode cX3_landingPlace 48 = .ok (.istore_n 3, 1) := by decide +kernel
theorem dX3_landingPlace_49 : decode cX3_landingPlace 49 = .ok (.iload_n 3, 1) := by decide +kernel
theorem dX3_landingPlace_50 : decode cX3_landingPlace 50 = .ok (.iconst 0, 1) := by decide +kernel
theorem dX3_landingPlace_51 : decode cX3_landingPlace 51 = .ok (.bipush 99, 2) := by decide +kernel
theorem dX3_landingPlace_53 : decode cX3_landingPlace 53 = .ok (.invokestatic 92, 3) := by decide +kernel
theorem dX3_landingPlace_56 : decode cX3_landingPlace 56 = .ok (.ifCond .eq 7, 3) := by decide +kernel
theorem dX3_landingPlace_59 : decode cX3_landingPlace 59 = .ok (.iload_n 3, 1) := by decide +kernel
theorem dX3_landingPlace_60 : decode cX3_landingPlace 60 = .ok (.goto 4, 3) := by decide +kernel
theorem dX3_landingPlace_63 : decode cX3_landingPlace 63 = .ok (.iconst (-1), 1) := by decide +kernel
theorem dX3_landingPlace_64 : decode cX3_landingPlace 64 = .ok (.ireturn, 1) := by decide +kernel
def bX3_landingPlace_0 (w : ab_W) (s_X7_has : ab_S) (s_X9_within : ab_S) (M : Nat → ab_P) (Kn : Option Value → ab_H → Prop) : ab_P := ab_ald 0 (ab_gr w 3 1 (ab_ild 1 (ab_cV w 2 7 s_X7_has (ab_if1 (fun x => x = 0) (M 20) (ab_ild 2 (ab_ci (nI 0) (ab_ci (nI 3) (ab_cN w 3 s_X9_within (ab_if1 (fun x => ¬ x = 0) (ab_ald 0 (ab_gr w 3 1 (ab_gr w 7 1 (ab_ild 1 (ab_ia w 11 (ab_ald 0 (ab_gr w 3 27 (ab_ild 2 (ab_ia w 11 (ab_ald 0 (ab_gr w 3 1 (ab_gr w 7 3 (ab_ild 1 (ab_ia w 11 (ab_b2 (fun x y => x * y) (ab_b2 (fun x y => x + y) (ab_ist 3 (ab_ild 3 (ab_ci (nI 0) (ab_ci (nI 99) (ab_cN w 3 s_X9_within (ab_if1 (fun x => x = 0) (ab_ci (-1) (M 64)) (ab_ild 3 (M 64)))))))))))))))))))))))) (M 20))))))))))
def bX3_landingPlace_20 (w : ab_W) (s_X7_has : ab_S) (s_X9_within : ab_S) (M : Nat → ab_P) (Kn : Option Value → ab_H → Prop) : ab_P := ab_ci (-1) (ab_ir Kn)
def bX3_landingPlace_64 (w : ab_W) (s_X7_has : ab_S) (s_X9_within : ab_S) (M : Nat → ab_P) (Kn : Option Value → ab_H → Prop) : ab_P := ab_ir Kn
set_option maxRecDepth 20000 in
set_option maxHeartbeats 2000000 in
theorem vc_X3_landingPlace {l : Launch} (hl : l.stackTraces = false) {w : ab_W} (hI : ab_Inj w) {mc : Nat} {σ : ab_H} {As : List Value} {Kn : Option Value → ab_H → Prop} {Kx : String → ab_H → Prop} {s_X7_has : ab_S} (ok_X7_has : ab_OkN l yX7_has (Cond.code yX7_has cX7_has 2 (some .boolean)) 1 s_X7_has) {s_X9_within : ab_S} (ok_X9_within : ab_OkN l yX9_within (Cond.code yX9_within cX9_within 3 (some .boolean)) 1 s_X9_within) (hlen : (ab_xl As).length ≤ 4) (h : ∀ M : Nat → ab_P, (∀ L st σ, bX3_landingPlace_0 w s_X7_has s_X9_within M Kn L st σ → M 0 L st σ) → (∀ L st σ, bX3_landingPlace_20 w s_X7_has s_X9_within M Kn L st σ → M 20 L st σ) → (∀ L st σ, bX3_landingPlace_64 w s_X7_has s_X9_within M Kn L st σ → M 64 L st σ) → M 0 (ab_pd 4 (ab_xl As)) [] σ) : ab_Met l yX3_landingPlace (Cond.code yX3_landingPlace cX3_landingPlace 4 (some .int)) 2 mc w σ As Kn Kx := by
  refine ab_enter (by decide) hl hI hlen (by decide) ?_
  intro p e R s m args below meth c C hno hr
  exact h _ (sd_aload_n C (i := 0) dX3_landingPlace_0 rfl (sd_gr C (ci := 3) (k := 0) (r := (RX3, TX3, 13)) rfl (by decide) rfl wd_203 dX3_landingPlace_1 (sd_iload_n C (i := 1) dX3_landingPlace_4 rfl (sd_cV C ok_X7_has (ci := 7) (row := (RX7, TX7, 8)) rfl rfl ⟨by decide, by decide, wd_489, wd_4, by decide +kernel⟩ wd_518 wd_487 wd_488 dX3_landingPlace_5 (sd_if_eq C dX3_landingPlace_8 (tgt := 20) (by decide) (fun _ _ _ h => h) (sd_iload_n C (i := 2) dX3_landingPlace_11 rfl (sd_iconst C (x := nI 0) dX3_landingPlace_12 (by decide +kernel) (sd_iconst C (x := nI 3) dX3_landingPlace_13 (by decide +kernel) (sd_cSN C ok_X9_within ⟨by decide, by decide, wd_477, wd_1, by decide +kernel⟩ wn_475 wd_476 dX3_landingPlace_14 (sd_if_ne C dX3_landingPlace_17 (tgt := 22) (by decide) (sd_aload_n C (i := 0) dX3_landingPlace_22 rfl (sd_gr C (ci := 3) (k := 0) (r := (RX3, TX3, 13)) rfl (by decide) rfl wd_203 dX3_landingPlace_23 (sd_gr C (ci := 7) (k := 1) (r := (RX7, TX7, 8)) rfl (by decide) rfl wd_71 dX3_landingPlace_26 (sd_iload_n C (i := 1) dX3_landingPlace_29 rfl (sd_ia C dX3_landingPlace_30 (sd_aload_n C (i := 0) dX3_landingPlace_31 rfl (sd_gr C (ci := 3) (k := 5) (r := (RX3, TX3, 13)) rfl (by decide) rfl wd_213 dX3_landingPlace_32 (sd_iload_n C (i := 2) dX3_landingPlace_35 rfl (sd_ia C dX3_landingPlace_36 (sd_aload_n C (i := 0) dX3_landingPlace_37 rfl (sd_gr C (ci := 3) (k := 0) (r := (RX3, TX3, 13)) rfl (by decide) rfl wd_203 dX3_landingPlace_38 (sd_gr C (ci := 7) (k := 3) (r := (RX7, TX7, 8)) rfl (by decide) rfl wd_77 dX3_landingPlace_41 (sd_iload_n C (i := 1) dX3_landingPlace_44 rfl (sd_ia C dX3_landingPlace_45 (sd_imul C dX3_landingPlace_46 (sd_iadd C dX3_landingPlace_47 (sd_istore_n C (i := 3) dX3_landingPlace_48 rfl (by decide) (sd_iload_n C (i := 3) dX3_landingPlace_49 rfl (sd_iconst C (x := nI 0) dX3_landingPlace_50 (by decide +kernel) (sd_bipush C (x := nI 99) dX3_landingPlace_51 (by decide +kernel) (sd_cSN C ok_X9_within ⟨by decide, by decide, wd_477, wd_1, by decide +kernel⟩ wn_475 wd_476 dX3_landingPlace_53 (sd_if_eq C dX3_landingPlace_56 (tgt := 63) (by decide) (sd_iconst C (x := -1) dX3_landingPlace_63 (by decide +kernel) (fun _ _ _ h => h)) (sd_iload_n C (i := 3) dX3_landingPlace_59 rfl (sd_goto C dX3_landingPlace_60 (tgt := 64) (by decide) (fun _ _ _ h => h))))))))))))))))))))))))) (fun _ _ _ h => h)))))))))))
    (sd_iconst C (x := -1) dX3_landingPlace_20 (by decide +kernel) (sd_ir C hr dX3_landingPlace_21))
    (sd_ir C hr dX3_landingPlace_64)
theorem dX3_release_0 : decode cX3_release 0 = .ok (.aload_n 0, 1) := by decide +kernel
theorem dX3_release_1 : decode cX3_release 1 = .ok (.getfield 12, 3) := by decide +kernel
theorem dX3_release_4 : decode cX3_release 4 = .ok (.iload_n 1, 1) := by decide +kernel
theorem dX3_release_5 : decode cX3_release 5 = .ok (.invokevirtual 143, 3) := by decide +kernel
theorem dX3_release_8 : decode cX3_release 8 = .ok (.istore_n 2, 1) := by decide +kernel
theorem dX3_release_9 : decode cX3_release 9 = .ok (.aload_n 0, 1) := by decide +kernel
theorem dX3_release_10 : decode cX3_release 10 = .ok (.getfield 12, 3) := by decide +kernel
theorem dX3_release_13 : decode cX3_release 13 = .ok (.iload_n 1, 1) := by decide +kernel
theorem dX3_release_14 : decode cX3_release 14 = .ok (.iload_n 2, 1) := by decide +kernel
theorem dX3_release_15 : decode cX3_release 15 = .ok (.iconst (-1), 1) := by decide +kernel
theorem dX3_release_16 : decode cX3_release 16 = .ok (.invokevirtual 150, 3) := by decide +kernel
theorem dX3_release_19 : decode cX3_release 19 = .ok (.aload_n 0, 1) := by decide +kernel
theorem dX3_release_20 : decode cX3_release 20 = .ok (.getfield 12, 3) := by decide +kernel
theorem dX3_release_23 : decode cX3_release 23 = .ok (.getfield 189, 3) := by decide +kernel
theorem dX3_release_26 : decode cX3_release 26 = .ok (.iload_n 1, 1) := by decide +kernel
theorem dX3_release_27 : decode cX3_release 27 = .ok (.dup2, 1) := by decide +kernel
theorem dX3_release_28 : decode cX3_release 28 = .ok (.iaload, 1) := by decide +kernel
theorem dX3_release_29 : decode cX3_release 29 = .ok (.aload_n 0, 1) := by decide +kernel
theorem dX3_release_30 : decode cX3_release 30 = .ok (.getfield 12, 3) := by decide +kernel
theorem dX3_release_33 : decode cX3_release 33 = .ok (.getfield 130, 3) := by decide +kernel
theorem dX3_release_36 : decode cX3_release 36 = .ok (.iload_n 1, 1) := by decide +kernel
theorem dX3_release_37 : decode cX3_release 37 = .ok (.iaload, 1) := by decide +kernel
theorem dX3_release_38 : decode cX3_release 38 = .ok (.isub, 1) := by decide +kernel
theorem dX3_release_39 : decode cX3_release 39 = .ok (.iastore, 1) := by decide +kernel
theorem dX3_release_40 : decode cX3_release 40 = .ok (.aload_n 0, 1) := by decide +kernel
theorem dX3_release_41 : decode cX3_release 41 = .ok (.getfield 12, 3) := by decide +kernel
theorem dX3_release_44 : decode cX3_release 44 = .ok (.getfield 192, 3) := by decide +kernel
theorem dX3_release_47 : decode cX3_release 47 = .ok (.iload_n 1, 1) := by decide +kernel
theorem dX3_release_48 : decode cX3_release 48 = .ok (.dup2, 1) := by decide +kernel
theorem dX3_release_49 : decode cX3_release 49 = .ok (.iaload, 1) := by decide +kernel
theorem dX3_release_50 : decode cX3_release 50 = .ok (.iconst 1, 1) := by decide +kernel
theorem dX3_release_51 : decode cX3_release 51 = .ok (.iadd, 1) := by decide +kernel
theorem dX3_release_52 : decode cX3_release 52 = .ok (.iastore, 1) := by decide +kernel
theorem dX3_release_53 : decode cX3_release 53 = .ok (.aload_n 0, 1) := by decide +kernel
theorem dX3_release_54 : decode cX3_release 54 = .ok (.dup, 1) := by decide +kernel
theorem dX3_release_55 : decode cX3_release 55 = .ok (.getfield 80, 3) := by decide +kernel
theorem dX3_release_58 : decode cX3_release 58 = .ok (.iconst 1, 1) := by decide +kernel
theorem dX3_release_59 : decode cX3_release 59 = .ok (.iadd, 1) := by decide +kernel
theorem dX3_release_60 : decode cX3_release 60 = .ok (.putfield 80, 3) := by decide +kernel
theorem dX3_release_63 : decode cX3_release 63 = .ok (.iload_n 2, 1) := by decide +kernel
theorem dX3_release_64 : decode cX3_release 64 = .ok (.iconst 1, 1) := by decide +kernel
theorem dX3_release_65 : decode cX3_release 65 = .ok (.iadd, 1) := by decide +kernel
theorem dX3_release_66 : decode cX3_release 66 = .ok (.istore_n 3, 1) := by decide +kernel
theorem dX3_release_67 : decode cX3_release 67 = .ok (.aload_n 0, 1) := by decide +kernel
theorem dX3_release_68 : decode cX3_release 68 = .ok (.iload_n 1, 1) := by decide +kernel
theorem dX3_release_69 : decode cX3_release 69 = .ok (.aload_n 0, 1) := by decide +kernel
theorem dX3_release_70 : decode cX3_release 70 = .ok (.invokevirtual 185, 3) := by decide +kernel
theorem dX3_release_73 : decode cX3_release 73 = .ok (.invokevirtual 194, 3) := by decide +kernel
theorem dX3_release_76 : decode cX3_release 76 = .ok (.istore 4, 2) := by decide +kernel
theorem dX3_release_78 : decode cX3_release 78 = .ok (.iload 4, 2) := by decide +kernel
theorem dX3_release_80 : decode cX3_release 80 = .ok (.iconst (-1), 1) := by decide +kernel
theorem dX3_release_81 : decode cX3_release 81 = .ok (.if_icmp .ne 7, 3) := by decide +kernel
theorem dX3_release_84 : decode cX3_release 84 = .ok (.iconst (-1), 1) := by decide +kernel
theorem dX3_release_85 : decode cX3_release 85 = .ok (.goto 12, 3) := by decide +kernel
theorem dX3_release_88 : decode cX3_release 88 = .ok (.aload_n 0, 1) := by decide +kernel
theorem dX3_release_89 : decode cX3_release 89 = .ok (.getfield 21, 3) := by decide +kernel
theorem dX3_release_92 : decode cX3_release 92 = .ok (.iload 4, 2) := by decide +kernel
theorem dX3_release_94 : decode cX3_release 94 = .ok (.invokevirtual 197, 3) := by decide +kernel
theorem dX3_release_97 : decode cX3_release 97 = .ok (.istore 5, 2) := by decide +kernel
theorem dX3_release_99 : decode cX3_release 99 = .ok (.iload 5, 2) := by decide +kernel
theorem dX3_release_101 : decode cX3_release 101 = .ok (.iconst (-1), 1) := by decide +kernel
theorem dX3_release_102 : decode cX3_release 102 = .ok (.if_icmp .ne 14, 3) := by decide +kernel
theorem dX3_release_105 : decode cX3_release 105 = .ok (.aload_n 0, 1) := by decide +kernel
theorem dX3_release_106 : decode cX3_release 106 = .ok (.dup, 1) := by decide +kernel
theorem dX3_release_107 : decode cX3_release 107 = .ok (.getfield 83, 3) := by decide +kernel
theorem dX3_release_110 : decode cX3_release 110 = .ok (.iconst 1, 1) := by decide +kernel
theorem dX3_release_111 : decode cX3_release 111 = .ok (.iadd, 1) := by decide +kernel
theorem dX3_release_112 : decode cX3_release 112 = .ok (.putfield 83, 3) := by decide +kernel
theorem dX3_release_115 : decode cX3_release 115 = .ok (.return_, 1) := by decide +kernel
theorem dX3_release_116 : decode cX3_release 116 = .ok (.aload_n 0, 1) := by decide +kernel
theorem dX3_release_117 : decode cX3_release 117 = .ok (.getfield 21, 3) := by decide +kernel
theorem dX3_release_120 : decode cX3_release 120 = .ok (.getfield 200, 3) := by decide +kernel
theorem dX3_release_123 : decode cX3_release 123 = .ok (.iload 5, 2) := by decide +kernel
theorem dX3_release_125 : decode cX3_release 125 = .ok (.dup2, 1) := by decide +kernel
theorem dX3_release_126 : decode cX3_release 126 = .ok (.iaload, 1) := by decide +kernel
theorem dX3_release_127 : decode cX3_release 127 = .ok (.iconst 1, 1) := by decide +kernel
theorem dX3_release_128 : decode cX3_release 128 = .ok (.iadd, 1) := by decide +kernel
theorem dX3_release_129 : decode cX3_release 129 = .ok (.iastore, 1) := by decide +kernel
theorem dX3_release_130 : decode cX3_release 130 = .ok (.iload_n 3, 1) := by decide +kernel
theorem dX3_release_131 : decode cX3_release 131 = .ok (.aload_n 0, 1) := by decide +kernel
theorem dX3_release_132 : decode cX3_release 132 = .ok (.getfield 50, 3) := by decide +kernel
theorem dX3_release_135 : decode cX3_release 135 = .ok (.iconst 1, 1) := by decide +kernel
theorem dX3_release_136 : decode cX3_release 136 = .ok (.iaload, 1) := by decide +kernel
theorem dX3_release_137 : decode cX3_release 137 = .ok (.if_icmp .lt 16, 3) := by decide +kernel
theorem dX3_release_140 : decode cX3_release 140 = .ok (.aload_n 0, 1) := by decide +kernel
theorem dX3_release_141 : decode cX3_release 141 = .ok (.dup, 1) := by decide +kernel
theorem dX3_release_142 : decode cX3_release 142 = .ok (.getfield 89, 3) := by decide +kernel
theorem dX3_release_145 : decode cX3_release 145 = .ok (.iconst 1, 1) := by decide +kernel
theorem dX3_release_146 : decode cX3_release 146 = .ok (.iadd, 1) := by decide +kernel
theorem dX3_release_147 : decode cX3_release 147 = .ok (.putfield 89, 3) := by decide +kernel
theorem dX3_release_150 : decode cX3_release 150 = .ok (.goto 43, 3) := by decide +kernel
theorem dX3_release_153 : decode cX3_release 153 = .ok (.aload_n 0, 1) := by decide +kernel
theorem dX3_release_154 : decode cX3_release 154 = .ok (.getfield 35, 3) := by decide +kernel
theorem dX3_release_157 : decode cX3_release 157 = .ok (.aload_n 0, 1) := by decide +kernel
theorem dX3_release_158 : decode cX3_release 158 = .ok (.getfield 73, 3) := by decide +kernel
theorem dX3_release_161 : decode cX3_release 161 = .ok (.aload_n 0, 1) := by decide +kernel
theorem dX3_release_162 : decode cX3_release 162 = .ok (.getfield 21, 3) := by decide +kernel
theorem dX3_release_165 : decode cX3_release 165 = .ok (.getfield 203, 3) := by decide +kernel
theorem dX3_release_168 : decode cX3_release 168 = .ok (.iload 5, 2) := by decide +kernel
theorem dX3_release_170 : decode cX3_release 170 = .ok (.iaload, 1) := by decide +kernel
theorem dX3_release_171 : decode cX3_release 171 = .ok (.iadd, 1) := by decide +kernel
theorem dX3_release_172 : decode cX3_release 172 = .ok (.aload_n 0, 1) := by decide +kernel
theorem dX3_release_173 : decode cX3_release 173 = .ok (.getfield 12, 3) := by decide +kernel
theorem dX3_release_176 : decode cX3_release 176 = .ok (.aload_n 0, 1) := by decide +kernel
theorem dX3_release_177 : decode cX3_release 177 = .ok (.getfield 21, 3) := by decide +kernel
theorem dX3_release_180 : decode cX3_release 180 = .ok (.getfield 206, 3) := by decide +kernel
theorem dX3_release_183 : decode cX3_release 183 = .ok (.iload 5, 2) := by decide +kernel
theorem dX3_release_185 : decode cX3_release 185 = .ok (.iaload, 1) := by decide +kernel
theorem dX3_release_186 : decode cX3_release 186 = .ok (.invokevirtual 209, 3) := by decide +kernel
theorem dX3_release_189 : decode cX3_release 189 = .ok (.iload_n 3, 1) := by decide +kernel
theorem dX3_release_190 : decode cX3_release 190 = .ok (.invokevirtual 212, 3) := by decide +kernel
theorem dX3_release_193 : decode cX3_release 193 = .ok (.return_, 1) := by decide +kernel
def bX3_release_0 (w : ab_W) (s_X7_mostFlownOf : ab_S) (s_X7_addSondes : ab_S) (s_X3_hourOfNow : ab_S) (s_X3_landingPlace : ab_S) (s_X0_whoFindsAt : ab_S) (s_X7_nearestTo : ab_S) (s_X5_add : ab_S) (M : Nat → ab_P) (Kn : Option Value → ab_H → Prop) : ab_P := ab_ald 0 (ab_gr w 3 1 (ab_ild 1 (ab_cV w 2 7 s_X7_mostFlownOf (ab_ist 2 (ab_ald 0 (ab_gr w 3 1 (ab_ild 1 (ab_ild 2 (ab_ci (-1) (ab_cV w 4 7 s_X7_addSondes (ab_ald 0 (ab_gr w 3 1 (ab_gr w 7 4 (ab_ild 1 (ab_dup2 (ab_ia w 11 (ab_ald 0 (ab_gr w 3 1 (ab_gr w 7 3 (ab_ild 1 (ab_ia w 11 (ab_b2 (fun x y => x - y) (ab_is w (ab_ald 0 (ab_gr w 3 1 (ab_gr w 7 5 (ab_ild 1 (ab_dup2 (ab_ia w 11 (ab_ci (nI 1) (ab_b2 (fun x y => x + y) (ab_is w (ab_ald 0 (ab_dup (ab_gf w 3 9 (ab_ci (nI 1) (ab_b2 (fun x y => x + y) (ab_pf w 3 9 (ab_ild 2 (ab_ci (nI 1) (ab_b2 (fun x y => x + y) (ab_ist 3 (ab_ald 0 (ab_ild 1 (ab_ald 0 (ab_cV w 1 3 s_X3_hourOfNow (ab_cV w 3 3 s_X3_landingPlace (ab_ist 4 (ab_ild 4 (ab_ci (-1) (ab_if2 (fun x y => ¬ x = y) (ab_ald 0 (ab_gr w 3 9 (ab_ild 4 (ab_cV w 2 0 s_X0_whoFindsAt (M 97))))) (ab_ci (-1) (M 97)))))))))))))))))))))))))))))))))))))))))))))))))))))
def bX3_release_97 (w : ab_W) (s_X7_mostFlownOf : ab_S) (s_X7_addSondes : ab_S) (s_X3_hourOfNow : ab_S) (s_X3_landingPlace : ab_S) (s_X0_whoFindsAt : ab_S) (s_X7_nearestTo : ab_S) (s_X5_add : ab_S) (M : Nat → ab_P) (Kn : Option Value → ab_H → Prop) : ab_P := ab_ist 5 (ab_ild 5 (ab_ci (-1) (ab_if2 (fun x y => ¬ x = y) (ab_ald 0 (ab_gr w 3 9 (ab_gr w 0 4 (ab_ild 5 (ab_dup2 (ab_ia w 11 (ab_ci (nI 1) (ab_b2 (fun x y => x + y) (ab_is w (ab_ild 3 (ab_ald 0 (ab_gr w 3 28 (ab_ci (nI 1) (ab_ia w 11 (ab_if2 (fun x y => x < y) (ab_ald 0 (ab_gr w 3 19 (ab_ald 0 (ab_gf w 3 7 (ab_ald 0 (ab_gr w 3 9 (ab_gr w 0 3 (ab_ild 5 (ab_ia w 11 (ab_b2 (fun x y => x + y) (ab_ald 0 (ab_gr w 3 1 (ab_ald 0 (ab_gr w 3 9 (ab_gr w 0 1 (ab_ild 5 (ab_ia w 11 (ab_cV w 2 7 s_X7_nearestTo (ab_ild 3 (ab_cV w 4 5 s_X5_add (M 193))))))))))))))))))))) (ab_ald 0 (ab_dup (ab_gf w 3 12 (ab_ci (nI 1) (ab_b2 (fun x y => x + y) (ab_pf w 3 12 (M 193)))))))))))))))))))))) (ab_ald 0 (ab_dup (ab_gf w 3 10 (ab_ci (nI 1) (ab_b2 (fun x y => x + y) (ab_pf w 3 10 (ab_vr Kn))))))))))
def bX3_release_193 (w : ab_W) (s_X7_mostFlownOf : ab_S) (s_X7_addSondes : ab_S) (s_X3_hourOfNow : ab_S) (s_X3_landingPlace : ab_S) (s_X0_whoFindsAt : ab_S) (s_X7_nearestTo : ab_S) (s_X5_add : ab_S) (M : Nat → ab_P) (Kn : Option Value → ab_H → Prop) : ab_P := ab_vr Kn
set_option maxRecDepth 20000 in
set_option maxHeartbeats 2000000 in
theorem vc_X3_release {l : Launch} (hl : l.stackTraces = false) {w : ab_W} (hI : ab_Inj w) {mc : Nat} {σ : ab_H} {As : List Value} {Kn : Option Value → ab_H → Prop} {Kx : String → ab_H → Prop} {s_X7_mostFlownOf : ab_S} (ok_X7_mostFlownOf : ab_OkN l yX7_mostFlownOf (Cond.code yX7_mostFlownOf cX7_mostFlownOf 3 (some .int)) 2 s_X7_mostFlownOf) {s_X7_addSondes : ab_S} (ok_X7_addSondes : ab_OkN l yX7_addSondes (Cond.code yX7_addSondes cX7_addSondes 4 none) 2 s_X7_addSondes) {s_X3_hourOfNow : ab_S} (ok_X3_hourOfNow : ab_OkN l yX3_hourOfNow (Cond.code yX3_hourOfNow cX3_hourOfNow 1 (some .int)) 2 s_X3_hourOfNow) {s_X3_landingPlace : ab_S} (ok_X3_landingPlace : ab_OkN l yX3_landingPlace (Cond.code yX3_landingPlace cX3_landingPlace 4 (some .int)) 2 s_X3_landingPlace) {s_X0_whoFindsAt : ab_S} (ok_X0_whoFindsAt : ab_OkN l yX0_whoFindsAt (Cond.code yX0_whoFindsAt cX0_whoFindsAt 6 (some .int)) 2 s_X0_whoFindsAt) {s_X7_nearestTo : ab_S} (ok_X7_nearestTo : ab_OkN l yX7_nearestTo (Cond.code yX7_nearestTo cX7_nearestTo 6 (some .int)) 2 s_X7_nearestTo) {s_X5_add : ab_S} (ok_X5_add : ab_OkN l yX5_add (Cond.code yX5_add cX5_add 5 none) 2 s_X5_add) (hlen : (ab_xl As).length ≤ 6) (h : ∀ M : Nat → ab_P, (∀ L st σ, bX3_release_0 w s_X7_mostFlownOf s_X7_addSondes s_X3_hourOfNow s_X3_landingPlace s_X0_whoFindsAt s_X7_nearestTo s_X5_add M Kn L st σ → M 0 L st σ) → (∀ L st σ, bX3_release_97 w s_X7_mostFlownOf s_X7_addSondes s_X3_hourOfNow s_X3_landingPlace s_X0_whoFindsAt s_X7_nearestTo s_X5_add M Kn L st σ → M 97 L st σ) → (∀ L st σ, bX3_release_193 w s_X7_mostFlownOf s_X7_addSondes s_X3_hourOfNow s_X3_landingPlace s_X0_whoFindsAt s_X7_nearestTo s_X5_add M Kn L st σ → M 193 L st σ) → M 0 (ab_pd 6 (ab_xl As)) [] σ) : ab_Met l yX3_release (Cond.code yX3_release cX3_release 6 none) 3 mc w σ As Kn Kx := by
  refine ab_enter (by decide) hl hI hlen (by decide) ?_
  intro p e R s m args below meth c C hno hr
  exact h _ (sd_aload_n C (i := 0) dX3_release_0 rfl (sd_gr C (ci := 3) (k := 0) (r := (RX3, TX3, 13)) rfl (by decide) rfl wd_203 dX3_release_1 (sd_iload_n C (i := 1) dX3_release_4 rfl (sd_cV C ok_X7_mostFlownOf (ci := 7) (row := (RX7, TX7, 8)) rfl rfl ⟨by decide, by decide, wd_575, wd_4, by decide +kernel⟩ wd_572 wd_573 wd_574 dX3_release_5 (sd_istore_n C (i := 2) dX3_release_8 rfl (by decide) (sd_aload_n C (i := 0) dX3_release_9 rfl (sd_gr C (ci := 3) (k := 0) (r := (RX3, TX3, 13)) rfl (by decide) rfl wd_203 dX3_release_10 (sd_iload_n C (i := 1) dX3_release_13 rfl (sd_iload_n C (i := 2) dX3_release_14 rfl (sd_iconst C (x := -1) dX3_release_15 (by decide +kernel) (sd_cV C ok_X7_addSondes (ci := 7) (row := (RX7, TX7, 8)) rfl rfl ⟨by decide, by decide, wd_551, wd_4, by decide +kernel⟩ wd_580 wd_549 wd_550 dX3_release_16 (sd_aload_n C (i := 0) dX3_release_19 rfl (sd_gr C (ci := 3) (k := 0) (r := (RX3, TX3, 13)) rfl (by decide) rfl wd_203 dX3_release_20 (sd_gr C (ci := 7) (k := 4) (r := (RX7, TX7, 8)) rfl (by decide) rfl wd_80 dX3_release_23 (sd_iload_n C (i := 1) dX3_release_26 rfl (sd_dup2 C dX3_release_27 (sd_ia C dX3_release_28 (sd_aload_n C (i := 0) dX3_release_29 rfl (sd_gr C (ci := 3) (k := 0) (r := (RX3, TX3, 13)) rfl (by decide) rfl wd_203 dX3_release_30 (sd_gr C (ci := 7) (k := 3) (r := (RX7, TX7, 8)) rfl (by decide) rfl wd_77 dX3_release_33 (sd_iload_n C (i := 1) dX3_release_36 rfl (sd_ia C dX3_release_37 (sd_isub C dX3_release_38 (sd_is C dX3_release_39 (sd_aload_n C (i := 0) dX3_release_40 rfl (sd_gr C (ci := 3) (k := 0) (r := (RX3, TX3, 13)) rfl (by decide) rfl wd_203 dX3_release_41 (sd_gr C (ci := 7) (k := 5) (r := (RX7, TX7, 8)) rfl (by decide) rfl wd_83 dX3_release_44 (sd_iload_n C (i := 1) dX3_release_47 rfl (sd_dup2 C dX3_release_48 (sd_ia C dX3_release_49 (sd_iconst C (x := nI 1) dX3_release_50 (by decide +kernel) (sd_iadd C dX3_release_51 (sd_is C dX3_release_52 (sd_aload_n C (i := 0) dX3_release_53 rfl (sd_dup C dX3_release_54 (sd_gf C (ci := 3) (k := 9) (r := (RX3, TX3, 13)) rfl (by decide) rfl wd_221 dX3_release_55 (sd_iconst C (x := nI 1) dX3_release_58 (by decide +kernel) (sd_iadd C dX3_release_59 (sd_pf C (ci := 3) (k := 9) (r := (RX3, TX3, 13)) rfl (by decide) rfl rfl (by decide +kernel) wd_221 dX3_release_60 (sd_iload_n C (i := 2) dX3_release_63 rfl (sd_iconst C (x := nI 1) dX3_release_64 (by decide +kernel) (sd_iadd C dX3_release_65 (sd_istore_n C (i := 3) dX3_release_66 rfl (by decide) (sd_aload_n C (i := 0) dX3_release_67 rfl (sd_iload_n C (i := 1) dX3_release_68 rfl (sd_aload_n C (i := 0) dX3_release_69 rfl (sd_cV C ok_X3_hourOfNow (ci := 3) (row := (RX3, TX3, 13)) rfl rfl ⟨by decide, by decide, wd_568, wd_3, by decide +kernel⟩ wd_565 wd_567 ws_7 dX3_release_70 (sd_cV C ok_X3_landingPlace (ci := 3) (row := (RX3, TX3, 13)) rfl rfl ⟨by decide, by decide, wd_584, wd_3, by decide +kernel⟩ wd_581 wd_582 wd_583 dX3_release_73 (sd_istore C dX3_release_76 (by decide) (sd_iload C dX3_release_78 (sd_iconst C (x := -1) dX3_release_80 (by decide +kernel) (sd_icmp_ne C dX3_release_81 (tgt := 88) (by decide) (sd_aload_n C (i := 0) dX3_release_88 rfl (sd_gr C (ci := 3) (k := 1) (r := (RX3, TX3, 13)) rfl (by decide) rfl wd_205 dX3_release_89 (sd_iload C dX3_release_92 (sd_cV C ok_X0_whoFindsAt (ci := 0) (row := (RX0, TX0, 5)) rfl rfl ⟨by decide, by decide, wd_588, wd_5, by decide +kernel⟩ wd_585 wd_586 wd_587 dX3_release_94 (fun _ _ _ h => h))))) (sd_iconst C (x := -1) dX3_release_84 (by decide +kernel) (sd_goto C dX3_release_85 (tgt := 97) (by decide) (fun _ _ _ h => h)))))))))))))))))))))))))))))))))))))))))))))))))))))))
    (sd_istore C dX3_release_97 (by decide) (sd_iload C dX3_release_99 (sd_iconst C (x := -1) dX3_release_101 (by decide +kernel) (sd_icmp_ne C dX3_release_102 (tgt := 116) (by decide) (sd_aload_n C (i := 0) dX3_release_116 rfl (sd_gr C (ci := 3) (k := 1) (r := (RX3, TX3, 13)) rfl (by decide) rfl wd_205 dX3_release_117 (sd_gr C (ci := 0) (k := 4) (r := (RX0, TX0, 5)) rfl (by decide) rfl wd_124 dX3_release_120 (sd_iload C dX3_release_123 (sd_dup2 C dX3_release_125 (sd_ia C dX3_release_126 (sd_iconst C (x := nI 1) dX3_release_127 (by decide +kernel) (sd_iadd C dX3_release_128 (sd_is C dX3_release_129 (sd_iload_n C (i := 3) dX3_release_130 rfl (sd_aload_n C (i := 0) dX3_release_131 rfl (sd_gr C (ci := 3) (k := 6) (r := (RX3, TX3, 13)) rfl (by decide) rfl wd_215 dX3_release_132 (sd_iconst C (x := nI 1) dX3_release_135 (by decide +kernel) (sd_ia C dX3_release_136 (sd_icmp_lt C dX3_release_137 (tgt := 153) (by decide) (sd_aload_n C (i := 0) dX3_release_153 rfl (sd_gr C (ci := 3) (k := 3) (r := (RX3, TX3, 13)) rfl (by decide) rfl wd_209 dX3_release_154 (sd_aload_n C (i := 0) dX3_release_157 rfl (sd_gf C (ci := 3) (k := 7) (r := (RX3, TX3, 13)) rfl (by decide) rfl wd_217 dX3_release_158 (sd_aload_n C (i := 0) dX3_release_161 rfl (sd_gr C (ci := 3) (k := 1) (r := (RX3, TX3, 13)) rfl (by decide) rfl wd_205 dX3_release_162 (sd_gr C (ci := 0) (k := 3) (r := (RX0, TX0, 5)) rfl (by decide) rfl wd_121 dX3_release_165 (sd_iload C dX3_release_168 (sd_ia C dX3_release_170 (sd_iadd C dX3_release_171 (sd_aload_n C (i := 0) dX3_release_172 rfl (sd_gr C (ci := 3) (k := 0) (r := (RX3, TX3, 13)) rfl (by decide) rfl wd_203 dX3_release_173 (sd_aload_n C (i := 0) dX3_release_176 rfl (sd_gr C (ci := 3) (k := 1) (r := (RX3, TX3, 13)) rfl (by decide) rfl wd_205 dX3_release_177 (sd_gr C (ci := 0) (k := 1) (r := (RX0, TX0, 5)) rfl (by decide) rfl wd_116 dX3_release_180 (sd_iload C dX3_release_183 (sd_ia C dX3_release_185 (sd_cV C ok_X7_nearestTo (ci := 7) (row := (RX7, TX7, 8)) rfl rfl ⟨by decide, by decide, wd_595, wd_4, by decide +kernel⟩ wd_592 wd_593 wd_594 dX3_release_186 (sd_iload_n C (i := 3) dX3_release_189 rfl (sd_cV C ok_X5_add (ci := 5) (row := (RX5, TX5, 4)) rfl rfl ⟨by decide, by decide, wd_600, wd_7, by decide +kernel⟩ wd_597 wd_598 wd_599 dX3_release_190 (fun _ _ _ h => h))))))))))))))))))))) (sd_aload_n C (i := 0) dX3_release_140 rfl (sd_dup C dX3_release_141 (sd_gf C (ci := 3) (k := 12) (r := (RX3, TX3, 13)) rfl (by decide) rfl wd_227 dX3_release_142 (sd_iconst C (x := nI 1) dX3_release_145 (by decide +kernel) (sd_iadd C dX3_release_146 (sd_pf C (ci := 3) (k := 12) (r := (RX3, TX3, 13)) rfl (by decide) rfl rfl (by decide +kernel) wd_227 dX3_release_147 (sd_goto C dX3_release_150 (tgt := 193) (by decide) (fun _ _ _ h => h))))))))))))))))))))))) (sd_aload_n C (i := 0) dX3_release_105 rfl (sd_dup C dX3_release_106 (sd_gf C (ci := 3) (k := 10) (r := (RX3, TX3, 13)) rfl (by decide) rfl wd_223 dX3_release_107 (sd_iconst C (x := nI 1) dX3_release_110 (by decide +kernel) (sd_iadd C dX3_release_111 (sd_pf C (ci := 3) (k := 10) (r := (RX3, TX3, 13)) rfl (by decide) rfl rfl (by decide +kernel) wd_223 dX3_release_112 (sd_vr C hr dX3_release_115)))))))))))
    (sd_vr C hr dX3_release_193)
theorem dX3_releaseAndEndWatch_0 : decode cX3_releaseAndEndWatch 0 = .ok (.iconst 0, 1) := by decide +kernel
theorem dX3_releaseAndEndWatch_1 : decode cX3_releaseAndEndWatch 1 = .ok (.istore_n 1, 1) := by decide +kernel
theorem dX3_releaseAndEndWatch_2 : decode cX3_releaseAndEndWatch 2 = .ok (.iload_n 1, 1) := by decide +kernel
theorem dX3_releaseAndEndWatch_3 : decode cX3_releaseAndEndWatch 3 = .ok (.aload_n 0, 1) := by decide +kernel
theorem dX3_releaseAndEndWatch_4 : decode cX3_releaseAndEndWatch 4 = .ok (.getfield 12, 3) := by decide +kernel
theorem dX3_releaseAndEndWatch_7 : decode cX3_releaseAndEndWatch 7 = .ok (.getfield 96, 3) := by decide +kernel
theorem dX3_releaseAndEndWatch_10 : decode cX3_releaseAndEndWatch 10 = .ok (.if_icmp .ge 67, 3) := by decide +kernel
theorem dX3_releaseAndEndWatch_13 : decode cX3_releaseAndEndWatch 13 = .ok (.aload_n 0, 1) := by decide +kernel
theorem dX3_releaseAndEndWatch_14 : decode cX3_releaseAndEndWatch 14 = .ok (.iload_n 1, 1) := by decide +kernel
theorem dX3_releaseAndEndWatch_15 : decode cX3_releaseAndEndWatch 15 = .ok (.invokevirtual 175, 3) := by decide +kernel
theorem dX3_releaseAndEndWatch_18 : decode cX3_releaseAndEndWatch 18 = .ok (.istore_n 2, 1) := by decide +kernel
theorem dX3_releaseAndEndWatch_19 : decode cX3_releaseAndEndWatch 19 = .ok (.iload_n 2, 1) := by decide +kernel
theorem dX3_releaseAndEndWatch_20 : decode cX3_releaseAndEndWatch 20 = .ok (.iconst 1, 1) := by decide +kernel
theorem dX3_releaseAndEndWatch_21 : decode cX3_releaseAndEndWatch 21 = .ok (.if_icmp .ne 11, 3) := by decide +kernel
theorem dX3_releaseAndEndWatch_24 : decode cX3_releaseAndEndWatch 24 = .ok (.aload_n 0, 1) := by decide +kernel
theorem dX3_releaseAndEndWatch_25 : decode cX3_releaseAndEndWatch 25 = .ok (.iload_n 1, 1) := by decide +kernel
theorem dX3_releaseAndEndWatch_26 : decode cX3_releaseAndEndWatch 26 = .ok (.invokevirtual 178, 3) := by decide +kernel
theorem dX3_releaseAndEndWatch_29 : decode cX3_releaseAndEndWatch 29 = .ok (.goto 42, 3) := by decide +kernel
theorem dX3_releaseAndEndWatch_32 : decode cX3_releaseAndEndWatch 32 = .ok (.iload_n 2, 1) := by decide +kernel
theorem dX3_releaseAndEndWatch_33 : decode cX3_releaseAndEndWatch 33 = .ok (.ifCond .eq 38, 3) := by decide +kernel
theorem dX3_releaseAndEndWatch_36 : decode cX3_releaseAndEndWatch 36 = .ok (.aload_n 0, 1) := by decide +kernel
theorem dX3_releaseAndEndWatch_37 : decode cX3_releaseAndEndWatch 37 = .ok (.getfield 42, 3) := by decide +kernel
theorem dX3_releaseAndEndWatch_40 : decode cX3_releaseAndEndWatch 40 = .ok (.aload_n 0, 1) := by decide +kernel
theorem dX3_releaseAndEndWatch_41 : decode cX3_releaseAndEndWatch 41 = .ok (.getfield 73, 3) := by decide +kernel
theorem dX3_releaseAndEndWatch_44 : decode cX3_releaseAndEndWatch 44 = .ok (.iload_n 1, 1) := by decide +kernel
theorem dX3_releaseAndEndWatch_45 : decode cX3_releaseAndEndWatch 45 = .ok (.iload_n 2, 1) := by decide +kernel
theorem dX3_releaseAndEndWatch_46 : decode cX3_releaseAndEndWatch 46 = .ok (.iconst 2, 1) := by decide +kernel
theorem dX3_releaseAndEndWatch_47 : decode cX3_releaseAndEndWatch 47 = .ok (.if_icmp .ne 7, 3) := by decide +kernel
theorem dX3_releaseAndEndWatch_50 : decode cX3_releaseAndEndWatch 50 = .ok (.iconst 1, 1) := by decide +kernel
theorem dX3_releaseAndEndWatch_51 : decode cX3_releaseAndEndWatch 51 = .ok (.goto 4, 3) := by decide +kernel
theorem dX3_releaseAndEndWatch_54 : decode cX3_releaseAndEndWatch 54 = .ok (.iconst 2, 1) := by decide +kernel
theorem dX3_releaseAndEndWatch_55 : decode cX3_releaseAndEndWatch 55 = .ok (.invokevirtual 182, 3) := by decide +kernel
theorem dX3_releaseAndEndWatch_58 : decode cX3_releaseAndEndWatch 58 = .ok (.aload_n 0, 1) := by decide +kernel
theorem dX3_releaseAndEndWatch_59 : decode cX3_releaseAndEndWatch 59 = .ok (.getfield 12, 3) := by decide +kernel
theorem dX3_releaseAndEndWatch_62 : decode cX3_releaseAndEndWatch 62 = .ok (.getfield 183, 3) := by decide +kernel
theorem dX3_releaseAndEndWatch_65 : decode cX3_releaseAndEndWatch 65 = .ok (.iload_n 1, 1) := by decide +kernel
theorem dX3_releaseAndEndWatch_66 : decode cX3_releaseAndEndWatch 66 = .ok (.dup2, 1) := by decide +kernel
theorem dX3_releaseAndEndWatch_67 : decode cX3_releaseAndEndWatch 67 = .ok (.iaload, 1) := by decide +kernel
theorem dX3_releaseAndEndWatch_68 : decode cX3_releaseAndEndWatch 68 = .ok (.iconst 1, 1) := by decide +kernel
theorem dX3_releaseAndEndWatch_69 : decode cX3_releaseAndEndWatch 69 = .ok (.iadd, 1) := by decide +kernel
theorem dX3_releaseAndEndWatch_70 : decode cX3_releaseAndEndWatch 70 = .ok (.iastore, 1) := by decide +kernel
theorem dX3_releaseAndEndWatch_71 : decode cX3_releaseAndEndWatch 71 = .ok (.iinc 1 1, 3) := by decide +kernel
theorem dX3_releaseAndEndWatch_74 : decode cX3_releaseAndEndWatch 74 = .ok (.goto (-72), 3) := by decide +kernel
theorem dX3_releaseAndEndWatch_77 : decode cX3_releaseAndEndWatch 77 = .ok (.aload_n 0, 1) := by decide +kernel
theorem dX3_releaseAndEndWatch_78 : decode cX3_releaseAndEndWatch 78 = .ok (.dup, 1) := by decide +kernel
theorem dX3_releaseAndEndWatch_79 : decode cX3_releaseAndEndWatch 79 = .ok (.getfield 73, 3) := by decide +kernel
theorem dX3_releaseAndEndWatch_82 : decode cX3_releaseAndEndWatch 82 = .ok (.iconst 1, 1) := by decide +kernel
theorem dX3_releaseAndEndWatch_83 : decode cX3_releaseAndEndWatch 83 = .ok (.iadd, 1) := by decide +kernel
theorem dX3_releaseAndEndWatch_84 : decode cX3_releaseAndEndWatch 84 = .ok (.putfield 73, 3) := by decide +kernel
theorem dX3_releaseAndEndWatch_87 : decode cX3_releaseAndEndWatch 87 = .ok (.return_, 1) := by decide +kernel
def bX3_releaseAndEndWatch_0 (w : ab_W) (s_X3_planOf : ab_S) (s_X3_release : ab_S) (s_X1_add : ab_S) (M : Nat → ab_P) (Kn : Option Value → ab_H → Prop) : ab_P := ab_ci (nI 0) (ab_ist 1 (M 2))
def bX3_releaseAndEndWatch_2 (w : ab_W) (s_X3_planOf : ab_S) (s_X3_release : ab_S) (s_X1_add : ab_S) (M : Nat → ab_P) (Kn : Option Value → ab_H → Prop) : ab_P := ab_ild 1 (ab_ald 0 (ab_gr w 3 1 (ab_gf w 7 0 (ab_if2 (fun x y => y ≤ x) (ab_ald 0 (ab_dup (ab_gf w 3 7 (ab_ci (nI 1) (ab_b2 (fun x y => x + y) (ab_pf w 3 7 (ab_vr Kn))))))) (ab_ald 0 (ab_ild 1 (ab_cV w 2 3 s_X3_planOf (ab_ist 2 (ab_ild 2 (ab_ci (nI 1) (ab_if2 (fun x y => ¬ x = y) (ab_ild 2 (ab_if1 (fun x => x = 0) (M 71) (ab_ald 0 (ab_gr w 3 23 (ab_ald 0 (ab_gf w 3 7 (ab_ild 1 (ab_ild 2 (ab_ci (nI 2) (ab_if2 (fun x y => ¬ x = y) (ab_ci (nI 2) (M 55)) (ab_ci (nI 1) (M 55)))))))))))) (ab_ald 0 (ab_ild 1 (ab_cV w 2 3 s_X3_release (M 71)))))))))))))))
def bX3_releaseAndEndWatch_55 (w : ab_W) (s_X3_planOf : ab_S) (s_X3_release : ab_S) (s_X1_add : ab_S) (M : Nat → ab_P) (Kn : Option Value → ab_H → Prop) : ab_P := ab_cV w 4 1 s_X1_add (ab_ald 0 (ab_gr w 3 1 (ab_gr w 7 6 (ab_ild 1 (ab_dup2 (ab_ia w 11 (ab_ci (nI 1) (ab_b2 (fun x y => x + y) (ab_is w (M 71))))))))))
def bX3_releaseAndEndWatch_71 (w : ab_W) (s_X3_planOf : ab_S) (s_X3_release : ab_S) (s_X1_add : ab_S) (M : Nat → ab_P) (Kn : Option Value → ab_H → Prop) : ab_P := ab_inc 1 (nI 1) (M 2)
set_option maxRecDepth 20000 in
set_option maxHeartbeats 2000000 in
theorem vc_X3_releaseAndEndWatch {l : Launch} (hl : l.stackTraces = false) {w : ab_W} (hI : ab_Inj w) {mc : Nat} {σ : ab_H} {As : List Value} {Kn : Option Value → ab_H → Prop} {Kx : String → ab_H → Prop} {s_X3_planOf : ab_S} (ok_X3_planOf : ab_OkN l yX3_planOf (Cond.code yX3_planOf cX3_planOf 2 (some .int)) 3 s_X3_planOf) {s_X3_release : ab_S} (ok_X3_release : ab_OkN l yX3_release (Cond.code yX3_release cX3_release 6 none) 3 s_X3_release) {s_X1_add : ab_S} (ok_X1_add : ab_OkN l yX1_add (Cond.code yX1_add cX1_add 5 none) 1 s_X1_add) (hlen : (ab_xl As).length ≤ 3) (h : ∀ M : Nat → ab_P, (∀ L st σ, bX3_releaseAndEndWatch_0 w s_X3_planOf s_X3_release s_X1_add M Kn L st σ → M 0 L st σ) → (∀ L st σ, bX3_releaseAndEndWatch_2 w s_X3_planOf s_X3_release s_X1_add M Kn L st σ → M 2 L st σ) → (∀ L st σ, bX3_releaseAndEndWatch_55 w s_X3_planOf s_X3_release s_X1_add M Kn L st σ → M 55 L st σ) → (∀ L st σ, bX3_releaseAndEndWatch_71 w s_X3_planOf s_X3_release s_X1_add M Kn L st σ → M 71 L st σ) → M 0 (ab_pd 3 (ab_xl As)) [] σ) : ab_Met l yX3_releaseAndEndWatch (Cond.code yX3_releaseAndEndWatch cX3_releaseAndEndWatch 3 none) 4 mc w σ As Kn Kx := by
  refine ab_enter (by decide) hl hI hlen (by decide) ?_
  intro p e R s m args below meth c C hno hr
  exact h _ (sd_iconst C (x := nI 0) dX3_releaseAndEndWatch_0 (by decide +kernel) (sd_istore_n C (i := 1) dX3_releaseAndEndWatch_1 rfl (by decide) (fun _ _ _ h => h)))
    (sd_iload_n C (i := 1) dX3_releaseAndEndWatch_2 rfl (sd_aload_n C (i := 0) dX3_releaseAndEndWatch_3 rfl (sd_gr C (ci := 3) (k := 0) (r := (RX3, TX3, 13)) rfl (by decide) rfl wd_203 dX3_releaseAndEndWatch_4 (sd_gf C (ci := 7) (k := 0) (r := (RX7, TX7, 8)) rfl (by decide) rfl wd_67 dX3_releaseAndEndWatch_7 (sd_icmp_ge C dX3_releaseAndEndWatch_10 (tgt := 77) (by decide) (sd_aload_n C (i := 0) dX3_releaseAndEndWatch_77 rfl (sd_dup C dX3_releaseAndEndWatch_78 (sd_gf C (ci := 3) (k := 7) (r := (RX3, TX3, 13)) rfl (by decide) rfl wd_217 dX3_releaseAndEndWatch_79 (sd_iconst C (x := nI 1) dX3_releaseAndEndWatch_82 (by decide +kernel) (sd_iadd C dX3_releaseAndEndWatch_83 (sd_pf C (ci := 3) (k := 7) (r := (RX3, TX3, 13)) rfl (by decide) rfl rfl (by decide +kernel) wd_217 dX3_releaseAndEndWatch_84 (sd_vr C hr dX3_releaseAndEndWatch_87))))))) (sd_aload_n C (i := 0) dX3_releaseAndEndWatch_13 rfl (sd_iload_n C (i := 1) dX3_releaseAndEndWatch_14 rfl (sd_cV C ok_X3_planOf (ci := 3) (row := (RX3, TX3, 13)) rfl rfl ⟨by decide, by decide, wd_564, wd_3, by decide +kernel⟩ wd_561 wd_562 wd_563 dX3_releaseAndEndWatch_15 (sd_istore_n C (i := 2) dX3_releaseAndEndWatch_18 rfl (by decide) (sd_iload_n C (i := 2) dX3_releaseAndEndWatch_19 rfl (sd_iconst C (x := nI 1) dX3_releaseAndEndWatch_20 (by decide +kernel) (sd_icmp_ne C dX3_releaseAndEndWatch_21 (tgt := 32) (by decide) (sd_iload_n C (i := 2) dX3_releaseAndEndWatch_32 rfl (sd_if_eq C dX3_releaseAndEndWatch_33 (tgt := 71) (by decide) (fun _ _ _ h => h) (sd_aload_n C (i := 0) dX3_releaseAndEndWatch_36 rfl (sd_gr C (ci := 3) (k := 4) (r := (RX3, TX3, 13)) rfl (by decide) rfl wd_211 dX3_releaseAndEndWatch_37 (sd_aload_n C (i := 0) dX3_releaseAndEndWatch_40 rfl (sd_gf C (ci := 3) (k := 7) (r := (RX3, TX3, 13)) rfl (by decide) rfl wd_217 dX3_releaseAndEndWatch_41 (sd_iload_n C (i := 1) dX3_releaseAndEndWatch_44 rfl (sd_iload_n C (i := 2) dX3_releaseAndEndWatch_45 rfl (sd_iconst C (x := nI 2) dX3_releaseAndEndWatch_46 (by decide +kernel) (sd_icmp_ne C dX3_releaseAndEndWatch_47 (tgt := 54) (by decide) (sd_iconst C (x := nI 2) dX3_releaseAndEndWatch_54 (by decide +kernel) (fun _ _ _ h => h)) (sd_iconst C (x := nI 1) dX3_releaseAndEndWatch_50 (by decide +kernel) (sd_goto C dX3_releaseAndEndWatch_51 (tgt := 55) (by decide) (fun _ _ _ h => h))))))))))))) (sd_aload_n C (i := 0) dX3_releaseAndEndWatch_24 rfl (sd_iload_n C (i := 1) dX3_releaseAndEndWatch_25 rfl (sd_cV C ok_X3_release (ci := 3) (row := (RX3, TX3, 13)) rfl rfl ⟨by decide, by decide, wd_579, wd_3, by decide +kernel⟩ wd_576 wd_578 ws_8 dX3_releaseAndEndWatch_26 (sd_goto C dX3_releaseAndEndWatch_29 (tgt := 71) (by decide) (fun _ _ _ h => h)))))))))))))))))
    (sd_cV C ok_X1_add (ci := 1) (row := (RX1, TX1, 5)) rfl rfl ⟨by decide, by decide, wd_604, wd_8, by decide +kernel⟩ wd_601 wd_602 wd_603 dX3_releaseAndEndWatch_55 (sd_aload_n C (i := 0) dX3_releaseAndEndWatch_58 rfl (sd_gr C (ci := 3) (k := 0) (r := (RX3, TX3, 13)) rfl (by decide) rfl wd_203 dX3_releaseAndEndWatch_59 (sd_gr C (ci := 7) (k := 6) (r := (RX7, TX7, 8)) rfl (by decide) rfl wd_86 dX3_releaseAndEndWatch_62 (sd_iload_n C (i := 1) dX3_releaseAndEndWatch_65 rfl (sd_dup2 C dX3_releaseAndEndWatch_66 (sd_ia C dX3_releaseAndEndWatch_67 (sd_iconst C (x := nI 1) dX3_releaseAndEndWatch_68 (by decide +kernel) (sd_iadd C dX3_releaseAndEndWatch_69 (sd_is C dX3_releaseAndEndWatch_70 (fun _ _ _ h => h)))))))))))
    (sd_iinc C (x := nI 1) dX3_releaseAndEndWatch_71 (by decide +kernel) (by decide) (sd_goto C dX3_releaseAndEndWatch_74 (tgt := 2) (by decide) (fun _ _ _ h => h)))
theorem dX3_tryWatches_0 : decode cX3_tryWatches 0 = .ok (.iload_n 1, 1) := by decide +kernel
theorem dX3_tryWatches_1 : decode cX3_tryWatches 1 = .ok (.iconst 1, 1) := by decide +kernel
theorem dX3_tryWatches_2 : decode cX3_tryWatches 2 = .ok (.iload_n 2, 1) := by decide +kernel
theorem dX3_tryWatches_3 : decode cX3_tryWatches 3 = .ok (.invokestatic 92, 3) := by decide +kernel
theorem dX3_tryWatches_6 : decode cX3_tryWatches 6 = .ok (.ifCond .ne 5, 3) := by decide +kernel
theorem dX3_tryWatches_9 : decode cX3_tryWatches 9 = .ok (.iconst 0, 1) := by decide +kernel
theorem dX3_tryWatches_10 : decode cX3_tryWatches 10 = .ok (.ireturn, 1) := by decide +kernel
theorem dX3_tryWatches_11 : decode cX3_tryWatches 11 = .ok (.iconst 0, 1) := by decide +kernel
theorem dX3_tryWatches_12 : decode cX3_tryWatches 12 = .ok (.istore_n 3, 1) := by decide +kernel
theorem dX3_tryWatches_13 : decode cX3_tryWatches 13 = .ok (.iload_n 3, 1) := by decide +kernel
theorem dX3_tryWatches_14 : decode cX3_tryWatches 14 = .ok (.iload_n 1, 1) := by decide +kernel
theorem dX3_tryWatches_15 : decode cX3_tryWatches 15 = .ok (.if_icmp .ge 17, 3) := by decide +kernel
theorem dX3_tryWatches_18 : decode cX3_tryWatches 18 = .ok (.aload_n 0, 1) := by decide +kernel
theorem dX3_tryWatches_19 : decode cX3_tryWatches 19 = .ok (.invokevirtual 162, 3) := by decide +kernel
theorem dX3_tryWatches_22 : decode cX3_tryWatches 22 = .ok (.aload_n 0, 1) := by decide +kernel
theorem dX3_tryWatches_23 : decode cX3_tryWatches 23 = .ok (.invokevirtual 165, 3) := by decide +kernel
theorem dX3_tryWatches_26 : decode cX3_tryWatches 26 = .ok (.iinc 3 1, 3) := by decide +kernel
theorem dX3_tryWatches_29 : decode cX3_tryWatches 29 = .ok (.goto (-16), 3) := by decide +kernel
theorem dX3_tryWatches_32 : decode cX3_tryWatches 32 = .ok (.iconst 1, 1) := by decide +kernel
theorem dX3_tryWatches_33 : decode cX3_tryWatches 33 = .ok (.ireturn, 1) := by decide +kernel
def bX3_tryWatches_0 (w : ab_W) (s_X9_within : ab_S) (s_X3_takeWhatArrives : ab_S) (s_X3_releaseAndEndWatch : ab_S) (M : Nat → ab_P) (Kn : Option Value → ab_H → Prop) : ab_P := ab_ild 1 (ab_ci (nI 1) (ab_ild 2 (ab_cN w 3 s_X9_within (ab_if1 (fun x => ¬ x = 0) (ab_ci (nI 0) (ab_ist 3 (M 13))) (ab_ci (nI 0) (ab_zr Kn))))))
def bX3_tryWatches_13 (w : ab_W) (s_X9_within : ab_S) (s_X3_takeWhatArrives : ab_S) (s_X3_releaseAndEndWatch : ab_S) (M : Nat → ab_P) (Kn : Option Value → ab_H → Prop) : ab_P := ab_ild 3 (ab_ild 1 (ab_if2 (fun x y => y ≤ x) (ab_ci (nI 1) (ab_zr Kn)) (ab_ald 0 (ab_cV w 1 3 s_X3_takeWhatArrives (ab_ald 0 (ab_cV w 1 3 s_X3_releaseAndEndWatch (ab_inc 3 (nI 1) (M 13))))))))
set_option maxRecDepth 20000 in
set_option maxHeartbeats 2000000 in
theorem vc_X3_tryWatches {l : Launch} (hl : l.stackTraces = false) {w : ab_W} (hI : ab_Inj w) {mc : Nat} {σ : ab_H} {As : List Value} {Kn : Option Value → ab_H → Prop} {Kx : String → ab_H → Prop} {s_X9_within : ab_S} (ok_X9_within : ab_OkN l yX9_within (Cond.code yX9_within cX9_within 3 (some .boolean)) 1 s_X9_within) {s_X3_takeWhatArrives : ab_S} (ok_X3_takeWhatArrives : ab_OkN l yX3_takeWhatArrives (Cond.code yX3_takeWhatArrives cX3_takeWhatArrives 2 none) 4 s_X3_takeWhatArrives) {s_X3_releaseAndEndWatch : ab_S} (ok_X3_releaseAndEndWatch : ab_OkN l yX3_releaseAndEndWatch (Cond.code yX3_releaseAndEndWatch cX3_releaseAndEndWatch 3 none) 4 s_X3_releaseAndEndWatch) (hlen : (ab_xl As).length ≤ 4) (h : ∀ M : Nat → ab_P, (∀ L st σ, bX3_tryWatches_0 w s_X9_within s_X3_takeWhatArrives s_X3_releaseAndEndWatch M Kn L st σ → M 0 L st σ) → (∀ L st σ, bX3_tryWatches_13 w s_X9_within s_X3_takeWhatArrives s_X3_releaseAndEndWatch M Kn L st σ → M 13 L st σ) → M 0 (ab_pd 4 (ab_xl As)) [] σ) : ab_Met l yX3_tryWatches (Cond.code yX3_tryWatches cX3_tryWatches 4 (some .boolean)) 5 mc w σ As Kn Kx := by
  refine ab_enter (by decide) hl hI hlen (by decide) ?_
  intro p e R s m args below meth c C hno hr
  exact h _ (sd_iload_n C (i := 1) dX3_tryWatches_0 rfl (sd_iconst C (x := nI 1) dX3_tryWatches_1 (by decide +kernel) (sd_iload_n C (i := 2) dX3_tryWatches_2 rfl (sd_cSN C ok_X9_within ⟨by decide, by decide, wd_477, wd_1, by decide +kernel⟩ wn_475 wd_476 dX3_tryWatches_3 (sd_if_ne C dX3_tryWatches_6 (tgt := 11) (by decide) (sd_iconst C (x := nI 0) dX3_tryWatches_11 (by decide +kernel) (sd_istore_n C (i := 3) dX3_tryWatches_12 rfl (by decide) (fun _ _ _ h => h))) (sd_iconst C (x := nI 0) dX3_tryWatches_9 (by decide +kernel) (sd_zr C hr dX3_tryWatches_10)))))))
    (sd_iload_n C (i := 3) dX3_tryWatches_13 rfl (sd_iload_n C (i := 1) dX3_tryWatches_14 rfl (sd_icmp_ge C dX3_tryWatches_15 (tgt := 32) (by decide) (sd_iconst C (x := nI 1) dX3_tryWatches_32 (by decide +kernel) (sd_zr C hr dX3_tryWatches_33)) (sd_aload_n C (i := 0) dX3_tryWatches_18 rfl (sd_cV C ok_X3_takeWhatArrives (ci := 3) (row := (RX3, TX3, 13)) rfl rfl ⟨by decide, by decide, wd_538, wd_3, by decide +kernel⟩ wd_535 wd_536 wd_537 dX3_tryWatches_19 (sd_aload_n C (i := 0) dX3_tryWatches_22 rfl (sd_cV C ok_X3_releaseAndEndWatch (ci := 3) (row := (RX3, TX3, 13)) rfl rfl ⟨by decide, by decide, wd_560, wd_3, by decide +kernel⟩ wd_557 wd_558 wd_559 dX3_tryWatches_23 (sd_iinc C (x := nI 1) dX3_tryWatches_26 (by decide +kernel) (by decide) (sd_goto C dX3_tryWatches_29 (tgt := 13) (by decide) (fun _ _ _ h => h))))))))))
