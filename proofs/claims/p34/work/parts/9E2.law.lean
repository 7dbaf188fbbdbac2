theorem dL_draw_0 : decode cL_draw 0 = .ok (.iload_n 1, 1) := by decide +kernel
theorem dL_draw_1 : decode cL_draw 1 = .ok (.aload_n 0, 1) := by decide +kernel
theorem dL_draw_2 : decode cL_draw 2 = .ok (.arraylength, 1) := by decide +kernel
theorem dL_draw_3 : decode cL_draw 3 = .ok (.if_icmp .ge 9, 3) := by decide +kernel
theorem dL_draw_6 : decode cL_draw 6 = .ok (.aload_n 0, 1) := by decide +kernel
theorem dL_draw_7 : decode cL_draw 7 = .ok (.iload_n 1, 1) := by decide +kernel
theorem dL_draw_8 : decode cL_draw 8 = .ok (.iaload, 1) := by decide +kernel
theorem dL_draw_9 : decode cL_draw 9 = .ok (.goto 11, 3) := by decide +kernel
theorem dL_draw_12 : decode cL_draw 12 = .ok (.ldc 7, 2) := by decide +kernel
theorem dL_draw_14 : decode cL_draw 14 = .ok (.iload_n 1, 1) := by decide +kernel
theorem dL_draw_15 : decode cL_draw 15 = .ok (.imul, 1) := by decide +kernel
theorem dL_draw_16 : decode cL_draw 16 = .ok (.sipush 10627, 3) := by decide +kernel
theorem dL_draw_19 : decode cL_draw 19 = .ok (.iadd, 1) := by decide +kernel
theorem dL_draw_20 : decode cL_draw 20 = .ok (.ldc 8, 2) := by decide +kernel
theorem dL_draw_22 : decode cL_draw 22 = .ok (.iand, 1) := by decide +kernel
theorem dL_draw_23 : decode cL_draw 23 = .ok (.ireturn, 1) := by decide +kernel
def bL_draw_0 (mc : Nat) (M : Nat → la_P) (K : Option Value → (Nat → aS) → Prop) : la_P := la_ild 1 (la_ald 0 (la_aln (fun n => la_if2 (fun x y => y ≤ x) (la_ci (nI 15593903) (la_ild 1 (la_b2 (fun x y => x * y) (la_ci (nI 10627) (la_b2 (fun x y => x + y) (M 20)))))) (la_ald 0 (la_ild 1 (la_scr n (M 20)))))))
def bL_draw_20 (mc : Nat) (M : Nat → la_P) (K : Option Value → (Nat → aS) → Prop) : la_P := la_ci (nI 2147483647) (la_b2 (fun x y => x &&& y) (la_ir mc K))
set_option maxRecDepth 40000 in
set_option maxHeartbeats 8000000 in
theorem vc_L_draw {l : Launch} (hl : l.stackTraces = false) {Y : lW} (hw : lWo Y) {A : Nat → aS} {As : List Value} {K : Option Value → (Nat → aS) → Prop} (hlen : (ab_xl As).length ≤ 2) (h : ∀ M : Nat → la_P, (∀ L st X, bL_draw_0 0 M K L st X → M 0 L st X) → (∀ L st X, bL_draw_20 0 M K L st X → M 20 L st X) → M 0 (ab_pd 2 (ab_xl As)) [] (A, 0)) : la_Met l yL_draw (Cond.code yL_draw cL_draw 2 (some .int)) 1 (30 * 1) 0 Y A As K := by
  refine la_enter (by decide) hl hw hlen ?_
  intro p e R s m args below meth c C hr
  exact h _ (sl_iload_n C (i := 1) dL_draw_0 rfl (sl_aload_n C (i := 0) dL_draw_1 rfl (sl_aln C dL_draw_2 (fun n hn hX => (sl_icmp_ge C dL_draw_3 (tgt := 12) (by decide) (sl_ldc C (x := nI 15593903) dL_draw_12 wu_317 (sl_iload_n C (i := 1) dL_draw_14 rfl (sl_imul C dL_draw_15 (sl_sipush C (x := nI 10627) dL_draw_16 (by decide +kernel) (sl_iadd C dL_draw_19 (fun _ _ _ h => h)))))) (sl_aload_n C (i := 0) dL_draw_6 rfl (sl_iload_n C (i := 1) dL_draw_7 rfl (sl_scr C hX dL_draw_8 (sl_goto C dL_draw_9 (tgt := 20) (by decide) (fun _ _ _ h => h))))))))))
    (sl_ldc C (x := nI 2147483647) dL_draw_20 wu_318 (sl_iand C dL_draw_22 (sl_ir C hr dL_draw_23)))
theorem dL_law_0 : decode cL_law 0 = .ok (.new 10, 3) := by decide +kernel
theorem dL_law_3 : decode cL_law 3 = .ok (.dup, 1) := by decide +kernel
theorem dL_law_4 : decode cL_law 4 = .ok (.invokespecial 230, 3) := by decide +kernel
theorem dL_law_7 : decode cL_law 7 = .ok (.astore_n 1, 1) := by decide +kernel
theorem dL_law_8 : decode cL_law 8 = .ok (.new 10, 3) := by decide +kernel
theorem dL_law_11 : decode cL_law 11 = .ok (.dup, 1) := by decide +kernel
theorem dL_law_12 : decode cL_law 12 = .ok (.invokespecial 230, 3) := by decide +kernel
theorem dL_law_15 : decode cL_law 15 = .ok (.astore_n 2, 1) := by decide +kernel
theorem dL_law_16 : decode cL_law 16 = .ok (.aload_n 1, 1) := by decide +kernel
theorem dL_law_17 : decode cL_law 17 = .ok (.aload_n 2, 1) := by decide +kernel
theorem dL_law_18 : decode cL_law 18 = .ok (.aload_n 0, 1) := by decide +kernel
theorem dL_law_19 : decode cL_law 19 = .ok (.iconst 0, 1) := by decide +kernel
theorem dL_law_20 : decode cL_law 20 = .ok (.invokestatic 231, 3) := by decide +kernel
theorem dL_law_23 : decode cL_law 23 = .ok (.invokestatic 235, 3) := by decide +kernel
theorem dL_law_26 : decode cL_law 26 = .ok (.ifCond .eq 21, 3) := by decide +kernel
theorem dL_law_29 : decode cL_law 29 = .ok (.aload_n 1, 1) := by decide +kernel
theorem dL_law_30 : decode cL_law 30 = .ok (.invokestatic 239, 3) := by decide +kernel
theorem dL_law_33 : decode cL_law 33 = .ok (.ifCond .eq 14, 3) := by decide +kernel
theorem dL_law_36 : decode cL_law 36 = .ok (.aload_n 1, 1) := by decide +kernel
theorem dL_law_37 : decode cL_law 37 = .ok (.invokestatic 243, 3) := by decide +kernel
theorem dL_law_40 : decode cL_law 40 = .ok (.ifCond .eq 7, 3) := by decide +kernel
theorem dL_law_43 : decode cL_law 43 = .ok (.iconst 1, 1) := by decide +kernel
theorem dL_law_44 : decode cL_law 44 = .ok (.goto 4, 3) := by decide +kernel
theorem dL_law_47 : decode cL_law 47 = .ok (.iconst 0, 1) := by decide +kernel
theorem dL_law_48 : decode cL_law 48 = .ok (.istore_n 3, 1) := by decide +kernel
theorem dL_law_49 : decode cL_law 49 = .ok (.iconst 0, 1) := by decide +kernel
theorem dL_law_50 : decode cL_law 50 = .ok (.istore 4, 2) := by decide +kernel
theorem dL_law_52 : decode cL_law 52 = .ok (.iload 4, 2) := by decide +kernel
theorem dL_law_54 : decode cL_law 54 = .ok (.bipush 48, 2) := by decide +kernel
theorem dL_law_56 : decode cL_law 56 = .ok (.if_icmp .ge 222, 3) := by decide +kernel
theorem dL_law_59 : decode cL_law 59 = .ok (.iload_n 3, 1) := by decide +kernel
theorem dL_law_60 : decode cL_law 60 = .ok (.ifCond .eq 218, 3) := by decide +kernel
theorem dL_law_63 : decode cL_law 63 = .ok (.aload_n 0, 1) := by decide +kernel
theorem dL_law_64 : decode cL_law 64 = .ok (.iconst 2, 1) := by decide +kernel
theorem dL_law_65 : decode cL_law 65 = .ok (.iload 4, 2) := by decide +kernel
theorem dL_law_67 : decode cL_law 67 = .ok (.imul, 1) := by decide +kernel
theorem dL_law_68 : decode cL_law 68 = .ok (.invokestatic 231, 3) := by decide +kernel
theorem dL_law_71 : decode cL_law 71 = .ok (.istore 5, 2) := by decide +kernel
theorem dL_law_73 : decode cL_law 73 = .ok (.aload_n 0, 1) := by decide +kernel
theorem dL_law_74 : decode cL_law 74 = .ok (.iconst 2, 1) := by decide +kernel
theorem dL_law_75 : decode cL_law 75 = .ok (.iload 4, 2) := by decide +kernel
theorem dL_law_77 : decode cL_law 77 = .ok (.imul, 1) := by decide +kernel
theorem dL_law_78 : decode cL_law 78 = .ok (.iconst 1, 1) := by decide +kernel
theorem dL_law_79 : decode cL_law 79 = .ok (.iadd, 1) := by decide +kernel
theorem dL_law_80 : decode cL_law 80 = .ok (.invokestatic 231, 3) := by decide +kernel
theorem dL_law_83 : decode cL_law 83 = .ok (.istore 6, 2) := by decide +kernel
theorem dL_law_85 : decode cL_law 85 = .ok (.iload 4, 2) := by decide +kernel
theorem dL_law_87 : decode cL_law 87 = .ok (.bipush 24, 2) := by decide +kernel
theorem dL_law_89 : decode cL_law 89 = .ok (.irem, 1) := by decide +kernel
theorem dL_law_90 : decode cL_law 90 = .ok (.ifCond .ne 46, 3) := by decide +kernel
theorem dL_law_93 : decode cL_law 93 = .ok (.aload_n 1, 1) := by decide +kernel
theorem dL_law_94 : decode cL_law 94 = .ok (.iload 5, 2) := by decide +kernel
theorem dL_law_96 : decode cL_law 96 = .ok (.iload 6, 2) := by decide +kernel
theorem dL_law_98 : decode cL_law 98 = .ok (.invokestatic 246, 3) := by decide +kernel
theorem dL_law_101 : decode cL_law 101 = .ok (.ifCond .eq 30, 3) := by decide +kernel
theorem dL_law_104 : decode cL_law 104 = .ok (.aload_n 2, 1) := by decide +kernel
theorem dL_law_105 : decode cL_law 105 = .ok (.iload 5, 2) := by decide +kernel
theorem dL_law_107 : decode cL_law 107 = .ok (.iload 6, 2) := by decide +kernel
theorem dL_law_109 : decode cL_law 109 = .ok (.invokestatic 246, 3) := by decide +kernel
theorem dL_law_112 : decode cL_law 112 = .ok (.ifCond .eq 19, 3) := by decide +kernel
theorem dL_law_115 : decode cL_law 115 = .ok (.aload_n 1, 1) := by decide +kernel
theorem dL_law_116 : decode cL_law 116 = .ok (.invokestatic 250, 3) := by decide +kernel
theorem dL_law_119 : decode cL_law 119 = .ok (.aload_n 2, 1) := by decide +kernel
theorem dL_law_120 : decode cL_law 120 = .ok (.invokestatic 250, 3) := by decide +kernel
theorem dL_law_123 : decode cL_law 123 = .ok (.lcmp, 1) := by decide +kernel
theorem dL_law_124 : decode cL_law 124 = .ok (.ifCond .ne 7, 3) := by decide +kernel
theorem dL_law_127 : decode cL_law 127 = .ok (.iconst 1, 1) := by decide +kernel
theorem dL_law_128 : decode cL_law 128 = .ok (.goto 4, 3) := by decide +kernel
theorem dL_law_131 : decode cL_law 131 = .ok (.iconst 0, 1) := by decide +kernel
theorem dL_law_132 : decode cL_law 132 = .ok (.istore_n 3, 1) := by decide +kernel
theorem dL_law_133 : decode cL_law 133 = .ok (.goto 139, 3) := by decide +kernel
theorem dL_law_136 : decode cL_law 136 = .ok (.aload_n 1, 1) := by decide +kernel
theorem dL_law_137 : decode cL_law 137 = .ok (.iload 5, 2) := by decide +kernel
theorem dL_law_139 : decode cL_law 139 = .ok (.iload 6, 2) := by decide +kernel
theorem dL_law_141 : decode cL_law 141 = .ok (.invokestatic 252, 3) := by decide +kernel
theorem dL_law_144 : decode cL_law 144 = .ok (.aload_n 2, 1) := by decide +kernel
theorem dL_law_145 : decode cL_law 145 = .ok (.iload 5, 2) := by decide +kernel
theorem dL_law_147 : decode cL_law 147 = .ok (.iload 6, 2) := by decide +kernel
theorem dL_law_149 : decode cL_law 149 = .ok (.invokestatic 252, 3) := by decide +kernel
theorem dL_law_152 : decode cL_law 152 = .ok (.lcmp, 1) := by decide +kernel
theorem dL_law_153 : decode cL_law 153 = .ok (.ifCond .ne 7, 3) := by decide +kernel
theorem dL_law_156 : decode cL_law 156 = .ok (.iconst 1, 1) := by decide +kernel
theorem dL_law_157 : decode cL_law 157 = .ok (.goto 4, 3) := by decide +kernel
theorem dL_law_160 : decode cL_law 160 = .ok (.iconst 0, 1) := by decide +kernel
theorem dL_law_161 : decode cL_law 161 = .ok (.istore_n 3, 1) := by decide +kernel
theorem dL_law_162 : decode cL_law 162 = .ok (.iload 4, 2) := by decide +kernel
theorem dL_law_164 : decode cL_law 164 = .ok (.bipush 9, 2) := by decide +kernel
theorem dL_law_166 : decode cL_law 166 = .ok (.irem, 1) := by decide +kernel
theorem dL_law_167 : decode cL_law 167 = .ok (.iconst 1, 1) := by decide +kernel
theorem dL_law_168 : decode cL_law 168 = .ok (.if_icmp .ne 27, 3) := by decide +kernel
theorem dL_law_171 : decode cL_law 171 = .ok (.iload_n 3, 1) := by decide +kernel
theorem dL_law_172 : decode cL_law 172 = .ok (.ifCond .eq 21, 3) := by decide +kernel
theorem dL_law_175 : decode cL_law 175 = .ok (.aload_n 2, 1) := by decide +kernel
theorem dL_law_176 : decode cL_law 176 = .ok (.invokestatic 239, 3) := by decide +kernel
theorem dL_law_179 : decode cL_law 179 = .ok (.ifCond .eq 14, 3) := by decide +kernel
theorem dL_law_182 : decode cL_law 182 = .ok (.aload_n 2, 1) := by decide +kernel
theorem dL_law_183 : decode cL_law 183 = .ok (.invokestatic 243, 3) := by decide +kernel
theorem dL_law_186 : decode cL_law 186 = .ok (.ifCond .eq 7, 3) := by decide +kernel
theorem dL_law_189 : decode cL_law 189 = .ok (.iconst 1, 1) := by decide +kernel
theorem dL_law_190 : decode cL_law 190 = .ok (.goto 4, 3) := by decide +kernel
theorem dL_law_193 : decode cL_law 193 = .ok (.iconst 0, 1) := by decide +kernel
theorem dL_law_194 : decode cL_law 194 = .ok (.istore_n 3, 1) := by decide +kernel
theorem dL_law_195 : decode cL_law 195 = .ok (.iload 4, 2) := by decide +kernel
theorem dL_law_197 : decode cL_law 197 = .ok (.bipush 16, 2) := by decide +kernel
theorem dL_law_199 : decode cL_law 199 = .ok (.irem, 1) := by decide +kernel
theorem dL_law_200 : decode cL_law 200 = .ok (.bipush 13, 2) := by decide +kernel
theorem dL_law_202 : decode cL_law 202 = .ok (.if_icmp .ne 42, 3) := by decide +kernel
theorem dL_law_205 : decode cL_law 205 = .ok (.iload_n 3, 1) := by decide +kernel
theorem dL_law_206 : decode cL_law 206 = .ok (.ifCond .eq 36, 3) := by decide +kernel
theorem dL_law_209 : decode cL_law 209 = .ok (.aload_n 2, 1) := by decide +kernel
theorem dL_law_210 : decode cL_law 210 = .ok (.iload 6, 2) := by decide +kernel
theorem dL_law_212 : decode cL_law 212 = .ok (.invokestatic 255, 3) := by decide +kernel
theorem dL_law_215 : decode cL_law 215 = .ok (.ifCond .eq 27, 3) := by decide +kernel
theorem dL_law_218 : decode cL_law 218 = .ok (.aload_n 1, 1) := by decide +kernel
theorem dL_law_219 : decode cL_law 219 = .ok (.iconst 1, 1) := by decide +kernel
theorem dL_law_220 : decode cL_law 220 = .ok (.invokestatic 183, 3) := by decide +kernel
theorem dL_law_223 : decode cL_law 223 = .ok (.lconst 0, 1) := by decide +kernel
theorem dL_law_224 : decode cL_law 224 = .ok (.lcmp, 1) := by decide +kernel
theorem dL_law_225 : decode cL_law 225 = .ok (.ifCond .lt 17, 3) := by decide +kernel
theorem dL_law_228 : decode cL_law 228 = .ok (.aload_n 1, 1) := by decide +kernel
theorem dL_law_229 : decode cL_law 229 = .ok (.iconst 1, 1) := by decide +kernel
theorem dL_law_230 : decode cL_law 230 = .ok (.invokestatic 185, 3) := by decide +kernel
theorem dL_law_233 : decode cL_law 233 = .ok (.lconst 0, 1) := by decide +kernel
theorem dL_law_234 : decode cL_law 234 = .ok (.lcmp, 1) := by decide +kernel
theorem dL_law_235 : decode cL_law 235 = .ok (.ifCond .lt 7, 3) := by decide +kernel
theorem dL_law_238 : decode cL_law 238 = .ok (.iconst 1, 1) := by decide +kernel
theorem dL_law_239 : decode cL_law 239 = .ok (.goto 4, 3) := by decide +kernel
theorem dL_law_242 : decode cL_law 242 = .ok (.iconst 0, 1) := by decide +kernel
theorem dL_law_243 : decode cL_law 243 = .ok (.istore_n 3, 1) := by decide +kernel
theorem dL_law_244 : decode cL_law 244 = .ok (.iload_n 3, 1) := by decide +kernel
theorem dL_law_245 : decode cL_law 245 = .ok (.ifCond .eq 25, 3) := by decide +kernel
theorem dL_law_248 : decode cL_law 248 = .ok (.iload 4, 2) := by decide +kernel
theorem dL_law_250 : decode cL_law 250 = .ok (.bipush 16, 2) := by decide +kernel
theorem dL_law_252 : decode cL_law 252 = .ok (.irem, 1) := by decide +kernel
theorem dL_law_253 : decode cL_law 253 = .ok (.ifCond .gt 13, 3) := by decide +kernel
theorem dL_law_256 : decode cL_law 256 = .ok (.aload_n 1, 1) := by decide +kernel
theorem dL_law_257 : decode cL_law 257 = .ok (.aload_n 2, 1) := by decide +kernel
theorem dL_law_258 : decode cL_law 258 = .ok (.iload 6, 2) := by decide +kernel
theorem dL_law_260 : decode cL_law 260 = .ok (.invokestatic 235, 3) := by decide +kernel
theorem dL_law_263 : decode cL_law 263 = .ok (.ifCond .eq 7, 3) := by decide +kernel
theorem dL_law_266 : decode cL_law 266 = .ok (.iconst 1, 1) := by decide +kernel
theorem dL_law_267 : decode cL_law 267 = .ok (.goto 4, 3) := by decide +kernel
theorem dL_law_270 : decode cL_law 270 = .ok (.iconst 0, 1) := by decide +kernel
theorem dL_law_271 : decode cL_law 271 = .ok (.istore_n 3, 1) := by decide +kernel
theorem dL_law_272 : decode cL_law 272 = .ok (.iinc 4 1, 3) := by decide +kernel
theorem dL_law_275 : decode cL_law 275 = .ok (.goto (-223), 3) := by decide +kernel
theorem dL_law_278 : decode cL_law 278 = .ok (.iload_n 3, 1) := by decide +kernel
theorem dL_law_279 : decode cL_law 279 = .ok (.ifCond .eq 18, 3) := by decide +kernel
theorem dL_law_282 : decode cL_law 282 = .ok (.aload_n 1, 1) := by decide +kernel
theorem dL_law_283 : decode cL_law 283 = .ok (.aload_n 2, 1) := by decide +kernel
theorem dL_law_284 : decode cL_law 284 = .ok (.ldc_w 258, 3) := by decide +kernel
theorem dL_law_287 : decode cL_law 287 = .ok (.invokestatic 235, 3) := by decide +kernel
theorem dL_law_290 : decode cL_law 290 = .ok (.ifCond .eq 7, 3) := by decide +kernel
theorem dL_law_293 : decode cL_law 293 = .ok (.iconst 1, 1) := by decide +kernel
theorem dL_law_294 : decode cL_law 294 = .ok (.goto 4, 3) := by decide +kernel
theorem dL_law_297 : decode cL_law 297 = .ok (.iconst 0, 1) := by decide +kernel
theorem dL_law_298 : decode cL_law 298 = .ok (.ireturn, 1) := by decide +kernel
def bL_law_16 (mc : Nat) (s_L_draw : la_S) (s_L_alike : la_S) (s_L_errors : la_S) (s_L_kept : la_S) (s_L_tells : la_S) (s_L_load : la_S) (s_L_act : la_S) (s_L_follows : la_S) (s_L_save : la_S) (s_L_restore : la_S) (M : Nat → la_P) (K : Option Value → (Nat → aS) → Prop) : la_P := la_ald 1 (la_ald 2 (la_ald 0 (la_ci (nI 0) (la_cN mc 0 2 s_L_draw (la_cN mc 500 3 s_L_alike (la_if1 (fun x => x = 0) (M 47) (la_ald 1 (la_cN mc 1000 1 s_L_errors (la_if1 (fun x => x = 0) (M 47) (la_ald 1 (la_cN mc 2000 1 s_L_kept (la_if1 (fun x => x = 0) (M 47) (la_ci (nI 1) (M 48))))))))))))))
def bL_law_47 (mc : Nat) (s_L_draw : la_S) (s_L_alike : la_S) (s_L_errors : la_S) (s_L_kept : la_S) (s_L_tells : la_S) (s_L_load : la_S) (s_L_act : la_S) (s_L_follows : la_S) (s_L_save : la_S) (s_L_restore : la_S) (M : Nat → la_P) (K : Option Value → (Nat → aS) → Prop) : la_P := la_ci (nI 0) (M 48)
def bL_law_48 (mc : Nat) (s_L_draw : la_S) (s_L_alike : la_S) (s_L_errors : la_S) (s_L_kept : la_S) (s_L_tells : la_S) (s_L_load : la_S) (s_L_act : la_S) (s_L_follows : la_S) (s_L_save : la_S) (s_L_restore : la_S) (M : Nat → la_P) (K : Option Value → (Nat → aS) → Prop) : la_P := la_ist 3 (la_ci (nI 0) (la_ist 4 (M 52)))
def bL_law_52 (mc : Nat) (s_L_draw : la_S) (s_L_alike : la_S) (s_L_errors : la_S) (s_L_kept : la_S) (s_L_tells : la_S) (s_L_load : la_S) (s_L_act : la_S) (s_L_follows : la_S) (s_L_save : la_S) (s_L_restore : la_S) (M : Nat → la_P) (K : Option Value → (Nat → aS) → Prop) : la_P := la_ild 4 (la_ci (nI 48) (la_if2 (fun x y => y ≤ x) (M 278) (la_ild 3 (la_if1 (fun x => x = 0) (M 278) (la_ald 0 (la_ci (nI 2) (la_ild 4 (la_b2 (fun x y => x * y) (la_cN mc 0 2 s_L_draw (la_ist 5 (la_ald 0 (la_ci (nI 2) (la_ild 4 (la_b2 (fun x y => x * y) (la_ci (nI 1) (la_b2 (fun x y => x + y) (la_cN mc 0 2 s_L_draw (la_ist 6 (M 85)))))))))))))))))))
def bL_law_85 (mc : Nat) (s_L_draw : la_S) (s_L_alike : la_S) (s_L_errors : la_S) (s_L_kept : la_S) (s_L_tells : la_S) (s_L_load : la_S) (s_L_act : la_S) (s_L_follows : la_S) (s_L_save : la_S) (s_L_restore : la_S) (M : Nat → la_P) (K : Option Value → (Nat → aS) → Prop) : la_P := la_ild 4 (la_ci (nI 24) (la_d2 (fun x y => x - x / y * y) (la_if1 (fun x => ¬ x = 0) (M 136) (la_ald 1 (la_ild 5 (la_ild 6 (la_cN mc 150 3 s_L_tells (la_if1 (fun x => x = 0) (M 131) (la_ald 2 (la_ild 5 (la_ild 6 (la_cN mc 150 3 s_L_tells (la_if1 (fun x => x = 0) (M 131) (la_ald 1 (la_cN mc 1 1 s_L_load (la_ald 2 (la_cN mc 1 1 s_L_load (la_lcmp (la_if1 (fun x => ¬ x = 0) (M 131) (la_ci (nI 1) (M 132)))))))))))))))))))))
def bL_law_131 (mc : Nat) (s_L_draw : la_S) (s_L_alike : la_S) (s_L_errors : la_S) (s_L_kept : la_S) (s_L_tells : la_S) (s_L_load : la_S) (s_L_act : la_S) (s_L_follows : la_S) (s_L_save : la_S) (s_L_restore : la_S) (M : Nat → la_P) (K : Option Value → (Nat → aS) → Prop) : la_P := la_ci (nI 0) (M 132)
def bL_law_132 (mc : Nat) (s_L_draw : la_S) (s_L_alike : la_S) (s_L_errors : la_S) (s_L_kept : la_S) (s_L_tells : la_S) (s_L_load : la_S) (s_L_act : la_S) (s_L_follows : la_S) (s_L_save : la_S) (s_L_restore : la_S) (M : Nat → la_P) (K : Option Value → (Nat → aS) → Prop) : la_P := la_ist 3 (M 272)
def bL_law_136 (mc : Nat) (s_L_draw : la_S) (s_L_alike : la_S) (s_L_errors : la_S) (s_L_kept : la_S) (s_L_tells : la_S) (s_L_load : la_S) (s_L_act : la_S) (s_L_follows : la_S) (s_L_save : la_S) (s_L_restore : la_S) (M : Nat → la_P) (K : Option Value → (Nat → aS) → Prop) : la_P := la_ald 1 (la_ild 5 (la_ild 6 (la_cN mc 3 3 s_L_act (la_ald 2 (la_ild 5 (la_ild 6 (la_cN mc 3 3 s_L_act (la_lcmp (la_if1 (fun x => ¬ x = 0) (M 160) (la_ci (nI 1) (M 161)))))))))))
def bL_law_160 (mc : Nat) (s_L_draw : la_S) (s_L_alike : la_S) (s_L_errors : la_S) (s_L_kept : la_S) (s_L_tells : la_S) (s_L_load : la_S) (s_L_act : la_S) (s_L_follows : la_S) (s_L_save : la_S) (s_L_restore : la_S) (M : Nat → la_P) (K : Option Value → (Nat → aS) → Prop) : la_P := la_ci (nI 0) (M 161)
def bL_law_161 (mc : Nat) (s_L_draw : la_S) (s_L_alike : la_S) (s_L_errors : la_S) (s_L_kept : la_S) (s_L_tells : la_S) (s_L_load : la_S) (s_L_act : la_S) (s_L_follows : la_S) (s_L_save : la_S) (s_L_restore : la_S) (M : Nat → la_P) (K : Option Value → (Nat → aS) → Prop) : la_P := la_ist 3 (M 162)
def bL_law_162 (mc : Nat) (s_L_draw : la_S) (s_L_alike : la_S) (s_L_errors : la_S) (s_L_kept : la_S) (s_L_tells : la_S) (s_L_load : la_S) (s_L_act : la_S) (s_L_follows : la_S) (s_L_save : la_S) (s_L_restore : la_S) (M : Nat → la_P) (K : Option Value → (Nat → aS) → Prop) : la_P := la_ild 4 (la_ci (nI 9) (la_d2 (fun x y => x - x / y * y) (la_ci (nI 1) (la_if2 (fun x y => ¬ x = y) (M 195) (la_ild 3 (la_if1 (fun x => x = 0) (M 193) (la_ald 2 (la_cN mc 1000 1 s_L_errors (la_if1 (fun x => x = 0) (M 193) (la_ald 2 (la_cN mc 2000 1 s_L_kept (la_if1 (fun x => x = 0) (M 193) (la_ci (nI 1) (M 194))))))))))))))
def bL_law_193 (mc : Nat) (s_L_draw : la_S) (s_L_alike : la_S) (s_L_errors : la_S) (s_L_kept : la_S) (s_L_tells : la_S) (s_L_load : la_S) (s_L_act : la_S) (s_L_follows : la_S) (s_L_save : la_S) (s_L_restore : la_S) (M : Nat → la_P) (K : Option Value → (Nat → aS) → Prop) : la_P := la_ci (nI 0) (M 194)
def bL_law_194 (mc : Nat) (s_L_draw : la_S) (s_L_alike : la_S) (s_L_errors : la_S) (s_L_kept : la_S) (s_L_tells : la_S) (s_L_load : la_S) (s_L_act : la_S) (s_L_follows : la_S) (s_L_save : la_S) (s_L_restore : la_S) (M : Nat → la_P) (K : Option Value → (Nat → aS) → Prop) : la_P := la_ist 3 (M 195)
def bL_law_195 (mc : Nat) (s_L_draw : la_S) (s_L_alike : la_S) (s_L_errors : la_S) (s_L_kept : la_S) (s_L_tells : la_S) (s_L_load : la_S) (s_L_act : la_S) (s_L_follows : la_S) (s_L_save : la_S) (s_L_restore : la_S) (M : Nat → la_P) (K : Option Value → (Nat → aS) → Prop) : la_P := la_ild 4 (la_ci (nI 16) (la_d2 (fun x y => x - x / y * y) (la_ci (nI 13) (la_if2 (fun x y => ¬ x = y) (M 244) (la_ild 3 (la_if1 (fun x => x = 0) (M 242) (la_ald 2 (la_ild 6 (la_cN mc 8000 2 s_L_follows (la_if1 (fun x => x = 0) (M 242) (la_ald 1 (la_ci (nI 1) (la_cN mc 1 2 s_L_save (la_cl (lN 0) (la_lcmp (la_if1 (fun x => x < 0) (M 242) (la_ald 1 (la_ci (nI 1) (la_cN mc 1 2 s_L_restore (la_cl (lN 0) (la_lcmp (la_if1 (fun x => x < 0) (M 242) (la_ci (nI 1) (M 243))))))))))))))))))))))))
def bL_law_242 (mc : Nat) (s_L_draw : la_S) (s_L_alike : la_S) (s_L_errors : la_S) (s_L_kept : la_S) (s_L_tells : la_S) (s_L_load : la_S) (s_L_act : la_S) (s_L_follows : la_S) (s_L_save : la_S) (s_L_restore : la_S) (M : Nat → la_P) (K : Option Value → (Nat → aS) → Prop) : la_P := la_ci (nI 0) (M 243)
def bL_law_243 (mc : Nat) (s_L_draw : la_S) (s_L_alike : la_S) (s_L_errors : la_S) (s_L_kept : la_S) (s_L_tells : la_S) (s_L_load : la_S) (s_L_act : la_S) (s_L_follows : la_S) (s_L_save : la_S) (s_L_restore : la_S) (M : Nat → la_P) (K : Option Value → (Nat → aS) → Prop) : la_P := la_ist 3 (M 244)
def bL_law_244 (mc : Nat) (s_L_draw : la_S) (s_L_alike : la_S) (s_L_errors : la_S) (s_L_kept : la_S) (s_L_tells : la_S) (s_L_load : la_S) (s_L_act : la_S) (s_L_follows : la_S) (s_L_save : la_S) (s_L_restore : la_S) (M : Nat → la_P) (K : Option Value → (Nat → aS) → Prop) : la_P := la_ild 3 (la_if1 (fun x => x = 0) (M 270) (la_ild 4 (la_ci (nI 16) (la_d2 (fun x y => x - x / y * y) (la_if1 (fun x => 0 < x) (la_ci (nI 1) (M 271)) (la_ald 1 (la_ald 2 (la_ild 6 (la_cN mc 500 3 s_L_alike (la_if1 (fun x => x = 0) (M 270) (la_ci (nI 1) (M 271))))))))))))
def bL_law_270 (mc : Nat) (s_L_draw : la_S) (s_L_alike : la_S) (s_L_errors : la_S) (s_L_kept : la_S) (s_L_tells : la_S) (s_L_load : la_S) (s_L_act : la_S) (s_L_follows : la_S) (s_L_save : la_S) (s_L_restore : la_S) (M : Nat → la_P) (K : Option Value → (Nat → aS) → Prop) : la_P := la_ci (nI 0) (M 271)
def bL_law_271 (mc : Nat) (s_L_draw : la_S) (s_L_alike : la_S) (s_L_errors : la_S) (s_L_kept : la_S) (s_L_tells : la_S) (s_L_load : la_S) (s_L_act : la_S) (s_L_follows : la_S) (s_L_save : la_S) (s_L_restore : la_S) (M : Nat → la_P) (K : Option Value → (Nat → aS) → Prop) : la_P := la_ist 3 (M 272)
def bL_law_272 (mc : Nat) (s_L_draw : la_S) (s_L_alike : la_S) (s_L_errors : la_S) (s_L_kept : la_S) (s_L_tells : la_S) (s_L_load : la_S) (s_L_act : la_S) (s_L_follows : la_S) (s_L_save : la_S) (s_L_restore : la_S) (M : Nat → la_P) (K : Option Value → (Nat → aS) → Prop) : la_P := la_inc 4 (nI 1) (M 52)
def bL_law_278 (mc : Nat) (s_L_draw : la_S) (s_L_alike : la_S) (s_L_errors : la_S) (s_L_kept : la_S) (s_L_tells : la_S) (s_L_load : la_S) (s_L_act : la_S) (s_L_follows : la_S) (s_L_save : la_S) (s_L_restore : la_S) (M : Nat → la_P) (K : Option Value → (Nat → aS) → Prop) : la_P := la_ild 3 (la_if1 (fun x => x = 0) (M 297) (la_ald 1 (la_ald 2 (la_ci (nI 83233) (la_cN mc 500 3 s_L_alike (la_if1 (fun x => x = 0) (M 297) (la_ci (nI 1) (M 298))))))))
def bL_law_297 (mc : Nat) (s_L_draw : la_S) (s_L_alike : la_S) (s_L_errors : la_S) (s_L_kept : la_S) (s_L_tells : la_S) (s_L_load : la_S) (s_L_act : la_S) (s_L_follows : la_S) (s_L_save : la_S) (s_L_restore : la_S) (M : Nat → la_P) (K : Option Value → (Nat → aS) → Prop) : la_P := la_ci (nI 0) (M 298)
def bL_law_298 (mc : Nat) (s_L_draw : la_S) (s_L_alike : la_S) (s_L_errors : la_S) (s_L_kept : la_S) (s_L_tells : la_S) (s_L_load : la_S) (s_L_act : la_S) (s_L_follows : la_S) (s_L_save : la_S) (s_L_restore : la_S) (M : Nat → la_P) (K : Option Value → (Nat → aS) → Prop) : la_P := la_end mc
set_option maxRecDepth 40000 in
set_option maxHeartbeats 8000000 in
theorem vb_law {l : Launch} (hl : l.stackTraces = false) {Y : lW} (hw : lWo Y) {K : Option Value → (Nat → aS) → Prop} {s_L_draw : la_S} (ok_L_draw : la_Ok l yL_draw (Cond.code yL_draw cL_draw 2 (some .int)) 1 (30 * 1) 0 s_L_draw) {s_L_alike : la_S} (ok_L_alike : la_Ok l yL_alike (Cond.code yL_alike cL_alike 3 (some .boolean)) 10 (30 * 10) 500 s_L_alike) {s_L_errors : la_S} (ok_L_errors : la_Ok l yL_errors (Cond.code yL_errors cL_errors 7 (some .boolean)) 10 (30 * 10) 1000 s_L_errors) {s_L_kept : la_S} (ok_L_kept : la_Ok l yL_kept (Cond.code yL_kept cL_kept 18 (some .boolean)) 9 (30 * 9) 2000 s_L_kept) {s_L_tells : la_S} (ok_L_tells : la_Ok l yL_tells (Cond.code yL_tells cL_tells 7 (some .boolean)) 10 (30 * 10) 150 s_L_tells) {s_L_load : la_S} (ok_L_load : la_Ok l yL_load (Cond.codeWith yL_load cL_load 2 (some .long) [(0, 5, 6, 19)]) 8 (30 * 8) 1 s_L_load) {s_L_act : la_S} (ok_L_act : la_Ok l yL_act (Cond.code yL_act cL_act 7 (some .long)) 10 (30 * 10) 3 s_L_act) {s_L_follows : la_S} (ok_L_follows : la_Ok l yL_follows (Cond.code yL_follows cL_follows 41 (some .boolean)) 10 (30 * 10) 8000 s_L_follows) {s_L_save : la_S} (ok_L_save : la_Ok l yL_save (Cond.codeWith yL_save cL_save 3 (some .long) [(0, 6, 7, 34)]) 8 (30 * 8) 1 s_L_save) {s_L_restore : la_S} (ok_L_restore : la_Ok l yL_restore (Cond.codeWith yL_restore cL_restore 3 (some .long) [(0, 6, 7, 34), (0, 6, 12, 19)]) 8 (30 * 8) 1 s_L_restore) {p : Program} {e : Env} {R : Room} {s : State} {m : MethodId} {args : Array Value} {below : List Frame} {meth : Method} {c : Code} {Q : State → Prop} (C : la_Cx p l R s m args meth c Y 7 cL_law RL 13 554 600086) (hret : ∀ L st X, la_end 600086 L st X → la_M p l e R s m args below meth c Y 7 Q 298 L st X) {L0 st0 : List Value} {X0 : lX} (h : ∀ M : Nat → la_P, (∀ L st X, bL_law_16 600086 s_L_draw s_L_alike s_L_errors s_L_kept s_L_tells s_L_load s_L_act s_L_follows s_L_save s_L_restore M K L st X → M 16 L st X) → (∀ L st X, bL_law_47 600086 s_L_draw s_L_alike s_L_errors s_L_kept s_L_tells s_L_load s_L_act s_L_follows s_L_save s_L_restore M K L st X → M 47 L st X) → (∀ L st X, bL_law_48 600086 s_L_draw s_L_alike s_L_errors s_L_kept s_L_tells s_L_load s_L_act s_L_follows s_L_save s_L_restore M K L st X → M 48 L st X) → (∀ L st X, bL_law_52 600086 s_L_draw s_L_alike s_L_errors s_L_kept s_L_tells s_L_load s_L_act s_L_follows s_L_save s_L_restore M K L st X → M 52 L st X) → (∀ L st X, bL_law_85 600086 s_L_draw s_L_alike s_L_errors s_L_kept s_L_tells s_L_load s_L_act s_L_follows s_L_save s_L_restore M K L st X → M 85 L st X) → (∀ L st X, bL_law_131 600086 s_L_draw s_L_alike s_L_errors s_L_kept s_L_tells s_L_load s_L_act s_L_follows s_L_save s_L_restore M K L st X → M 131 L st X) → (∀ L st X, bL_law_132 600086 s_L_draw s_L_alike s_L_errors s_L_kept s_L_tells s_L_load s_L_act s_L_follows s_L_save s_L_restore M K L st X → M 132 L st X) → (∀ L st X, bL_law_136 600086 s_L_draw s_L_alike s_L_errors s_L_kept s_L_tells s_L_load s_L_act s_L_follows s_L_save s_L_restore M K L st X → M 136 L st X) → (∀ L st X, bL_law_160 600086 s_L_draw s_L_alike s_L_errors s_L_kept s_L_tells s_L_load s_L_act s_L_follows s_L_save s_L_restore M K L st X → M 160 L st X) → (∀ L st X, bL_law_161 600086 s_L_draw s_L_alike s_L_errors s_L_kept s_L_tells s_L_load s_L_act s_L_follows s_L_save s_L_restore M K L st X → M 161 L st X) → (∀ L st X, bL_law_162 600086 s_L_draw s_L_alike s_L_errors s_L_kept s_L_tells s_L_load s_L_act s_L_follows s_L_save s_L_restore M K L st X → M 162 L st X) → (∀ L st X, bL_law_193 600086 s_L_draw s_L_alike s_L_errors s_L_kept s_L_tells s_L_load s_L_act s_L_follows s_L_save s_L_restore M K L st X → M 193 L st X) → (∀ L st X, bL_law_194 600086 s_L_draw s_L_alike s_L_errors s_L_kept s_L_tells s_L_load s_L_act s_L_follows s_L_save s_L_restore M K L st X → M 194 L st X) → (∀ L st X, bL_law_195 600086 s_L_draw s_L_alike s_L_errors s_L_kept s_L_tells s_L_load s_L_act s_L_follows s_L_save s_L_restore M K L st X → M 195 L st X) → (∀ L st X, bL_law_242 600086 s_L_draw s_L_alike s_L_errors s_L_kept s_L_tells s_L_load s_L_act s_L_follows s_L_save s_L_restore M K L st X → M 242 L st X) → (∀ L st X, bL_law_243 600086 s_L_draw s_L_alike s_L_errors s_L_kept s_L_tells s_L_load s_L_act s_L_follows s_L_save s_L_restore M K L st X → M 243 L st X) → (∀ L st X, bL_law_244 600086 s_L_draw s_L_alike s_L_errors s_L_kept s_L_tells s_L_load s_L_act s_L_follows s_L_save s_L_restore M K L st X → M 244 L st X) → (∀ L st X, bL_law_270 600086 s_L_draw s_L_alike s_L_errors s_L_kept s_L_tells s_L_load s_L_act s_L_follows s_L_save s_L_restore M K L st X → M 270 L st X) → (∀ L st X, bL_law_271 600086 s_L_draw s_L_alike s_L_errors s_L_kept s_L_tells s_L_load s_L_act s_L_follows s_L_save s_L_restore M K L st X → M 271 L st X) → (∀ L st X, bL_law_272 600086 s_L_draw s_L_alike s_L_errors s_L_kept s_L_tells s_L_load s_L_act s_L_follows s_L_save s_L_restore M K L st X → M 272 L st X) → (∀ L st X, bL_law_278 600086 s_L_draw s_L_alike s_L_errors s_L_kept s_L_tells s_L_load s_L_act s_L_follows s_L_save s_L_restore M K L st X → M 278 L st X) → (∀ L st X, bL_law_297 600086 s_L_draw s_L_alike s_L_errors s_L_kept s_L_tells s_L_load s_L_act s_L_follows s_L_save s_L_restore M K L st X → M 297 L st X) → (∀ L st X, bL_law_298 600086 s_L_draw s_L_alike s_L_errors s_L_kept s_L_tells s_L_load s_L_act s_L_follows s_L_save s_L_restore M K L st X → M 298 L st X) → M 16 L0 st0 X0) : la_M p l e R s m args below meth c Y 7 Q 16 L0 st0 X0 := by
  exact h _ (sl_aload_n C (i := 1) dL_law_16 rfl (sl_aload_n C (i := 2) dL_law_17 rfl (sl_aload_n C (i := 0) dL_law_18 rfl (sl_iconst C (x := nI 0) dL_law_19 (by decide +kernel) (sl_cN C ok_L_draw ⟨by decide, by decide, wu_316, wu_0, by decide +kernel⟩ wu_314 wu_315 dL_law_20 (sl_cN C ok_L_alike ⟨by decide, by decide, wu_1007, wu_0, by decide +kernel⟩ wu_1005 wu_1006 dL_law_23 (sl_if_eq C dL_law_26 (tgt := 47) (by decide) (fun _ _ _ h => h) (sl_aload_n C (i := 1) dL_law_29 rfl (sl_cN C ok_L_errors ⟨by decide, by decide, wu_646, wu_0, by decide +kernel⟩ wu_644 wu_645 dL_law_30 (sl_if_eq C dL_law_33 (tgt := 47) (by decide) (fun _ _ _ h => h) (sl_aload_n C (i := 1) dL_law_36 rfl (sl_cN C ok_L_kept ⟨by decide, by decide, wu_974, wu_0, by decide +kernel⟩ wu_972 wu_973 dL_law_37 (sl_if_eq C dL_law_40 (tgt := 47) (by decide) (fun _ _ _ h => h) (sl_iconst C (x := nI 1) dL_law_43 (by decide +kernel) (sl_goto C dL_law_44 (tgt := 48) (by decide) (fun _ _ _ h => h))))))))))))))))
    (sl_iconst C (x := nI 0) dL_law_47 (by decide +kernel) (fun _ _ _ h => h))
    (sl_istore_n C (i := 3) dL_law_48 rfl (by decide) (sl_iconst C (x := nI 0) dL_law_49 (by decide +kernel) (sl_istore C dL_law_50 (by decide) (fun _ _ _ h => h))))
    (sl_iload C dL_law_52 (sl_bipush C (x := nI 48) dL_law_54 (by decide +kernel) (sl_icmp_ge C dL_law_56 (tgt := 278) (by decide) (fun _ _ _ h => h) (sl_iload_n C (i := 3) dL_law_59 rfl (sl_if_eq C dL_law_60 (tgt := 278) (by decide) (fun _ _ _ h => h) (sl_aload_n C (i := 0) dL_law_63 rfl (sl_iconst C (x := nI 2) dL_law_64 (by decide +kernel) (sl_iload C dL_law_65 (sl_imul C dL_law_67 (sl_cN C ok_L_draw ⟨by decide, by decide, wu_316, wu_0, by decide +kernel⟩ wu_314 wu_315 dL_law_68 (sl_istore C dL_law_71 (by decide) (sl_aload_n C (i := 0) dL_law_73 rfl (sl_iconst C (x := nI 2) dL_law_74 (by decide +kernel) (sl_iload C dL_law_75 (sl_imul C dL_law_77 (sl_iconst C (x := nI 1) dL_law_78 (by decide +kernel) (sl_iadd C dL_law_79 (sl_cN C ok_L_draw ⟨by decide, by decide, wu_316, wu_0, by decide +kernel⟩ wu_314 wu_315 dL_law_80 (sl_istore C dL_law_83 (by decide) (fun _ _ _ h => h))))))))))))))))))))
    (sl_iload C dL_law_85 (sl_bipush C (x := nI 24) dL_law_87 (by decide +kernel) (sl_irem C dL_law_89 (sl_if_ne C dL_law_90 (tgt := 136) (by decide) (fun _ _ _ h => h) (sl_aload_n C (i := 1) dL_law_93 rfl (sl_iload C dL_law_94 (sl_iload C dL_law_96 (sl_cN C ok_L_tells ⟨by decide, by decide, wu_1015, wu_0, by decide +kernel⟩ wu_1013 wu_1014 dL_law_98 (sl_if_eq C dL_law_101 (tgt := 131) (by decide) (fun _ _ _ h => h) (sl_aload_n C (i := 2) dL_law_104 rfl (sl_iload C dL_law_105 (sl_iload C dL_law_107 (sl_cN C ok_L_tells ⟨by decide, by decide, wu_1015, wu_0, by decide +kernel⟩ wu_1013 wu_1014 dL_law_109 (sl_if_eq C dL_law_112 (tgt := 131) (by decide) (fun _ _ _ h => h) (sl_aload_n C (i := 1) dL_law_115 rfl (sl_cW C ok_L_load ⟨by decide, by decide, wu_321, wu_0, by decide +kernel⟩ wu_319 wu_320 dL_law_116 (sl_aload_n C (i := 2) dL_law_119 rfl (sl_cW C ok_L_load ⟨by decide, by decide, wu_321, wu_0, by decide +kernel⟩ wu_319 wu_320 dL_law_120 (sl_lcmp C dL_law_123 (sl_if_ne C dL_law_124 (tgt := 131) (by decide) (fun _ _ _ h => h) (sl_iconst C (x := nI 1) dL_law_127 (by decide +kernel) (sl_goto C dL_law_128 (tgt := 132) (by decide) (fun _ _ _ h => h)))))))))))))))))))))))
    (sl_iconst C (x := nI 0) dL_law_131 (by decide +kernel) (fun _ _ _ h => h))
    (sl_istore_n C (i := 3) dL_law_132 rfl (by decide) (sl_goto C dL_law_133 (tgt := 272) (by decide) (fun _ _ _ h => h)))
    (sl_aload_n C (i := 1) dL_law_136 rfl (sl_iload C dL_law_137 (sl_iload C dL_law_139 (sl_cN C ok_L_act ⟨by decide, by decide, wu_1029, wu_0, by decide +kernel⟩ wu_1027 wu_1028 dL_law_141 (sl_aload_n C (i := 2) dL_law_144 rfl (sl_iload C dL_law_145 (sl_iload C dL_law_147 (sl_cN C ok_L_act ⟨by decide, by decide, wu_1029, wu_0, by decide +kernel⟩ wu_1027 wu_1028 dL_law_149 (sl_lcmp C dL_law_152 (sl_if_ne C dL_law_153 (tgt := 160) (by decide) (fun _ _ _ h => h) (sl_iconst C (x := nI 1) dL_law_156 (by decide +kernel) (sl_goto C dL_law_157 (tgt := 161) (by decide) (fun _ _ _ h => h)))))))))))))
    (sl_iconst C (x := nI 0) dL_law_160 (by decide +kernel) (fun _ _ _ h => h))
    (sl_istore_n C (i := 3) dL_law_161 rfl (by decide) (fun _ _ _ h => h))
    (sl_iload C dL_law_162 (sl_bipush C (x := nI 9) dL_law_164 (by decide +kernel) (sl_irem C dL_law_166 (sl_iconst C (x := nI 1) dL_law_167 (by decide +kernel) (sl_icmp_ne C dL_law_168 (tgt := 195) (by decide) (fun _ _ _ h => h) (sl_iload_n C (i := 3) dL_law_171 rfl (sl_if_eq C dL_law_172 (tgt := 193) (by decide) (fun _ _ _ h => h) (sl_aload_n C (i := 2) dL_law_175 rfl (sl_cN C ok_L_errors ⟨by decide, by decide, wu_646, wu_0, by decide +kernel⟩ wu_644 wu_645 dL_law_176 (sl_if_eq C dL_law_179 (tgt := 193) (by decide) (fun _ _ _ h => h) (sl_aload_n C (i := 2) dL_law_182 rfl (sl_cN C ok_L_kept ⟨by decide, by decide, wu_974, wu_0, by decide +kernel⟩ wu_972 wu_973 dL_law_183 (sl_if_eq C dL_law_186 (tgt := 193) (by decide) (fun _ _ _ h => h) (sl_iconst C (x := nI 1) dL_law_189 (by decide +kernel) (sl_goto C dL_law_190 (tgt := 194) (by decide) (fun _ _ _ h => h))))))))))))))))
    (sl_iconst C (x := nI 0) dL_law_193 (by decide +kernel) (fun _ _ _ h => h))
    (sl_istore_n C (i := 3) dL_law_194 rfl (by decide) (fun _ _ _ h => h))
    (sl_iload C dL_law_195 (sl_bipush C (x := nI 16) dL_law_197 (by decide +kernel) (sl_irem C dL_law_199 (sl_bipush C (x := nI 13) dL_law_200 (by decide +kernel) (sl_icmp_ne C dL_law_202 (tgt := 244) (by decide) (fun _ _ _ h => h) (sl_iload_n C (i := 3) dL_law_205 rfl (sl_if_eq C dL_law_206 (tgt := 242) (by decide) (fun _ _ _ h => h) (sl_aload_n C (i := 2) dL_law_209 rfl (sl_iload C dL_law_210 (sl_cN C ok_L_follows ⟨by decide, by decide, wu_987, wu_0, by decide +kernel⟩ wu_985 wu_986 dL_law_212 (sl_if_eq C dL_law_215 (tgt := 242) (by decide) (fun _ _ _ h => h) (sl_aload_n C (i := 1) dL_law_218 rfl (sl_iconst C (x := nI 1) dL_law_219 (by decide +kernel) (sl_cW C ok_L_save ⟨by decide, by decide, wu_608, wu_0, by decide +kernel⟩ wu_606 wu_607 dL_law_220 (sl_lconst C (x := lN 0) dL_law_223 (by decide +kernel) (sl_lcmp C dL_law_224 (sl_if_lt C dL_law_225 (tgt := 242) (by decide) (fun _ _ _ h => h) (sl_aload_n C (i := 1) dL_law_228 rfl (sl_iconst C (x := nI 1) dL_law_229 (by decide +kernel) (sl_cW C ok_L_restore ⟨by decide, by decide, wu_638, wu_0, by decide +kernel⟩ wu_636 wu_637 dL_law_230 (sl_lconst C (x := lN 0) dL_law_233 (by decide +kernel) (sl_lcmp C dL_law_234 (sl_if_lt C dL_law_235 (tgt := 242) (by decide) (fun _ _ _ h => h) (sl_iconst C (x := nI 1) dL_law_238 (by decide +kernel) (sl_goto C dL_law_239 (tgt := 243) (by decide) (fun _ _ _ h => h))))))))))))))))))))))))))
    (sl_iconst C (x := nI 0) dL_law_242 (by decide +kernel) (fun _ _ _ h => h))
    (sl_istore_n C (i := 3) dL_law_243 rfl (by decide) (fun _ _ _ h => h))
    (sl_iload_n C (i := 3) dL_law_244 rfl (sl_if_eq C dL_law_245 (tgt := 270) (by decide) (fun _ _ _ h => h) (sl_iload C dL_law_248 (sl_bipush C (x := nI 16) dL_law_250 (by decide +kernel) (sl_irem C dL_law_252 (sl_if_gt C dL_law_253 (tgt := 266) (by decide) (sl_iconst C (x := nI 1) dL_law_266 (by decide +kernel) (sl_goto C dL_law_267 (tgt := 271) (by decide) (fun _ _ _ h => h))) (sl_aload_n C (i := 1) dL_law_256 rfl (sl_aload_n C (i := 2) dL_law_257 rfl (sl_iload C dL_law_258 (sl_cN C ok_L_alike ⟨by decide, by decide, wu_1007, wu_0, by decide +kernel⟩ wu_1005 wu_1006 dL_law_260 (sl_if_eq C dL_law_263 (tgt := 270) (by decide) (fun _ _ _ h => h) (sl_iconst C (x := nI 1) dL_law_266 (by decide +kernel) (sl_goto C dL_law_267 (tgt := 271) (by decide) (fun _ _ _ h => h))))))))))))))
    (sl_iconst C (x := nI 0) dL_law_270 (by decide +kernel) (fun _ _ _ h => h))
    (sl_istore_n C (i := 3) dL_law_271 rfl (by decide) (fun _ _ _ h => h))
    (sl_iinc C (x := nI 1) dL_law_272 (by decide +kernel) (by decide) (sl_goto C dL_law_275 (tgt := 52) (by decide) (fun _ _ _ h => h)))
    (sl_iload_n C (i := 3) dL_law_278 rfl (sl_if_eq C dL_law_279 (tgt := 297) (by decide) (fun _ _ _ h => h) (sl_aload_n C (i := 1) dL_law_282 rfl (sl_aload_n C (i := 2) dL_law_283 rfl (sl_ldcw C (x := nI 83233) dL_law_284 wu_1030 (sl_cN C ok_L_alike ⟨by decide, by decide, wu_1007, wu_0, by decide +kernel⟩ wu_1005 wu_1006 dL_law_287 (sl_if_eq C dL_law_290 (tgt := 297) (by decide) (fun _ _ _ h => h) (sl_iconst C (x := nI 1) dL_law_293 (by decide +kernel) (sl_goto C dL_law_294 (tgt := 298) (by decide) (fun _ _ _ h => h))))))))))
    (sl_iconst C (x := nI 0) dL_law_297 (by decide +kernel) (fun _ _ _ h => h))
    hret
