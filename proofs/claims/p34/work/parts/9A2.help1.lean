theorem dL_in_0 : decode cL_in 0 = .ok (.lload_n 0, 1) := by decide +kernel
theorem dL_in_1 : decode cL_in 1 = .ok (.lload_n 2, 1) := by decide +kernel
theorem dL_in_2 : decode cL_in 2 = .ok (.lcmp, 1) := by decide +kernel
theorem dL_in_3 : decode cL_in 3 = .ok (.ifCond .lt 14, 3) := by decide +kernel
theorem dL_in_6 : decode cL_in 6 = .ok (.lload_n 0, 1) := by decide +kernel
theorem dL_in_7 : decode cL_in 7 = .ok (.lload 4, 2) := by decide +kernel
theorem dL_in_9 : decode cL_in 9 = .ok (.lcmp, 1) := by decide +kernel
theorem dL_in_10 : decode cL_in 10 = .ok (.ifCond .gt 7, 3) := by decide +kernel
theorem dL_in_13 : decode cL_in 13 = .ok (.iconst 1, 1) := by decide +kernel
theorem dL_in_14 : decode cL_in 14 = .ok (.goto 4, 3) := by decide +kernel
theorem dL_in_17 : decode cL_in 17 = .ok (.iconst 0, 1) := by decide +kernel
theorem dL_in_18 : decode cL_in 18 = .ok (.ireturn, 1) := by decide +kernel
def bL_in_0 (mc : Nat) (M : Nat → la_P) (K : Option Value → (Nat → aS) → Prop) : la_P := la_lld 0 (la_lld 2 (la_lcmp (la_if1 (fun x => x < 0) (M 17) (la_lld 0 (la_lld 4 (la_lcmp (la_if1 (fun x => 0 < x) (M 17) (la_ci (nI 1) (M 18)))))))))
def bL_in_17 (mc : Nat) (M : Nat → la_P) (K : Option Value → (Nat → aS) → Prop) : la_P := la_ci (nI 0) (M 18)
def bL_in_18 (mc : Nat) (M : Nat → la_P) (K : Option Value → (Nat → aS) → Prop) : la_P := la_zr mc K
set_option maxRecDepth 40000 in
set_option maxHeartbeats 8000000 in
theorem vc_L_in {l : Launch} (hl : l.stackTraces = false) {Y : lW} (hw : lWo Y) {A : Nat → aS} {As : List Value} {K : Option Value → (Nat → aS) → Prop} (hlen : (ab_xl As).length ≤ 6) (h : ∀ M : Nat → la_P, (∀ L st X, bL_in_0 0 M K L st X → M 0 L st X) → (∀ L st X, bL_in_17 0 M K L st X → M 17 L st X) → (∀ L st X, bL_in_18 0 M K L st X → M 18 L st X) → M 0 (ab_pd 6 (ab_xl As)) [] (A, 0)) : la_Met l yL_in (Cond.code yL_in cL_in 6 (some .boolean)) 1 (30 * 1) 0 Y A As K := by
  refine la_enter (by decide) hl hw hlen ?_
  intro p e R s m args below meth c C hr
  exact h _ (sl_lload_n C (i := 0) dL_in_0 rfl (sl_lload_n C (i := 2) dL_in_1 rfl (sl_lcmp C dL_in_2 (sl_if_lt C dL_in_3 (tgt := 17) (by decide) (fun _ _ _ h => h) (sl_lload_n C (i := 0) dL_in_6 rfl (sl_lload C dL_in_7 (sl_lcmp C dL_in_9 (sl_if_gt C dL_in_10 (tgt := 17) (by decide) (fun _ _ _ h => h) (sl_iconst C (x := nI 1) dL_in_13 (by decide +kernel) (sl_goto C dL_in_14 (tgt := 18) (by decide) (fun _ _ _ h => h)))))))))))
    (sl_iconst C (x := nI 0) dL_in_17 (by decide +kernel) (fun _ _ _ h => h))
    (sl_zr C hr dL_in_18)
theorem dL_now_0 : decode cL_now 0 = .ok (.ldc2_w 115, 3) := by decide +kernel
theorem dL_now_3 : decode cL_now 3 = .ok (.lstore_n 1, 1) := by decide +kernel
theorem dL_now_4 : decode cL_now 4 = .ok (.iconst 0, 1) := by decide +kernel
theorem dL_now_5 : decode cL_now 5 = .ok (.istore_n 3, 1) := by decide +kernel
theorem dL_now_6 : decode cL_now 6 = .ok (.iload_n 3, 1) := by decide +kernel
theorem dL_now_7 : decode cL_now 7 = .ok (.bipush 12, 2) := by decide +kernel
theorem dL_now_9 : decode cL_now 9 = .ok (.if_icmp .ge 21, 3) := by decide +kernel
theorem dL_now_12 : decode cL_now 12 = .ok (.ldc2_w 117, 3) := by decide +kernel
theorem dL_now_15 : decode cL_now 15 = .ok (.lload_n 1, 1) := by decide +kernel
theorem dL_now_16 : decode cL_now 16 = .ok (.lmul, 1) := by decide +kernel
theorem dL_now_17 : decode cL_now 17 = .ok (.aload_n 0, 1) := by decide +kernel
theorem dL_now_18 : decode cL_now 18 = .ok (.iload_n 3, 1) := by decide +kernel
theorem dL_now_19 : decode cL_now 19 = .ok (.invokestatic 119, 3) := by decide +kernel
theorem dL_now_22 : decode cL_now 22 = .ok (.ladd, 1) := by decide +kernel
theorem dL_now_23 : decode cL_now 23 = .ok (.lstore_n 1, 1) := by decide +kernel
theorem dL_now_24 : decode cL_now 24 = .ok (.iinc 3 1, 3) := by decide +kernel
theorem dL_now_27 : decode cL_now 27 = .ok (.goto (-21), 3) := by decide +kernel
theorem dL_now_30 : decode cL_now 30 = .ok (.iconst 0, 1) := by decide +kernel
theorem dL_now_31 : decode cL_now 31 = .ok (.istore_n 3, 1) := by decide +kernel
theorem dL_now_32 : decode cL_now 32 = .ok (.iload_n 3, 1) := by decide +kernel
theorem dL_now_33 : decode cL_now 33 = .ok (.iconst 5, 1) := by decide +kernel
theorem dL_now_34 : decode cL_now 34 = .ok (.if_icmp .ge 21, 3) := by decide +kernel
theorem dL_now_37 : decode cL_now 37 = .ok (.ldc2_w 117, 3) := by decide +kernel
theorem dL_now_40 : decode cL_now 40 = .ok (.lload_n 1, 1) := by decide +kernel
theorem dL_now_41 : decode cL_now 41 = .ok (.lmul, 1) := by decide +kernel
theorem dL_now_42 : decode cL_now 42 = .ok (.aload_n 0, 1) := by decide +kernel
theorem dL_now_43 : decode cL_now 43 = .ok (.iload_n 3, 1) := by decide +kernel
theorem dL_now_44 : decode cL_now 44 = .ok (.invokestatic 124, 3) := by decide +kernel
theorem dL_now_47 : decode cL_now 47 = .ok (.ladd, 1) := by decide +kernel
theorem dL_now_48 : decode cL_now 48 = .ok (.lstore_n 1, 1) := by decide +kernel
theorem dL_now_49 : decode cL_now 49 = .ok (.iinc 3 1, 3) := by decide +kernel
theorem dL_now_52 : decode cL_now 52 = .ok (.goto (-20), 3) := by decide +kernel
theorem dL_now_55 : decode cL_now 55 = .ok (.iconst 0, 1) := by decide +kernel
theorem dL_now_56 : decode cL_now 56 = .ok (.istore_n 3, 1) := by decide +kernel
theorem dL_now_57 : decode cL_now 57 = .ok (.iload_n 3, 1) := by decide +kernel
theorem dL_now_58 : decode cL_now 58 = .ok (.iconst 4, 1) := by decide +kernel
theorem dL_now_59 : decode cL_now 59 = .ok (.if_icmp .ge 21, 3) := by decide +kernel
theorem dL_now_62 : decode cL_now 62 = .ok (.ldc2_w 117, 3) := by decide +kernel
theorem dL_now_65 : decode cL_now 65 = .ok (.lload_n 1, 1) := by decide +kernel
theorem dL_now_66 : decode cL_now 66 = .ok (.lmul, 1) := by decide +kernel
theorem dL_now_67 : decode cL_now 67 = .ok (.aload_n 0, 1) := by decide +kernel
theorem dL_now_68 : decode cL_now 68 = .ok (.iload_n 3, 1) := by decide +kernel
theorem dL_now_69 : decode cL_now 69 = .ok (.invokestatic 126, 3) := by decide +kernel
theorem dL_now_72 : decode cL_now 72 = .ok (.ladd, 1) := by decide +kernel
theorem dL_now_73 : decode cL_now 73 = .ok (.lstore_n 1, 1) := by decide +kernel
theorem dL_now_74 : decode cL_now 74 = .ok (.iinc 3 1, 3) := by decide +kernel
theorem dL_now_77 : decode cL_now 77 = .ok (.goto (-20), 3) := by decide +kernel
theorem dL_now_80 : decode cL_now 80 = .ok (.aload_n 0, 1) := by decide +kernel
theorem dL_now_81 : decode cL_now 81 = .ok (.iconst 0, 1) := by decide +kernel
theorem dL_now_82 : decode cL_now 82 = .ok (.invokestatic 119, 3) := by decide +kernel
theorem dL_now_85 : decode cL_now 85 = .ok (.l2i, 1) := by decide +kernel
theorem dL_now_86 : decode cL_now 86 = .ok (.istore_n 3, 1) := by decide +kernel
theorem dL_now_87 : decode cL_now 87 = .ok (.iconst 0, 1) := by decide +kernel
theorem dL_now_88 : decode cL_now 88 = .ok (.istore 4, 2) := by decide +kernel
theorem dL_now_90 : decode cL_now 90 = .ok (.iload 4, 2) := by decide +kernel
theorem dL_now_92 : decode cL_now 92 = .ok (.bipush 8, 2) := by decide +kernel
theorem dL_now_94 : decode cL_now 94 = .ok (.iload_n 3, 1) := by decide +kernel
theorem dL_now_95 : decode cL_now 95 = .ok (.imul, 1) := by decide +kernel
theorem dL_now_96 : decode cL_now 96 = .ok (.if_icmp .ge 30, 3) := by decide +kernel
theorem dL_now_99 : decode cL_now 99 = .ok (.ldc2_w 117, 3) := by decide +kernel
theorem dL_now_102 : decode cL_now 102 = .ok (.lload_n 1, 1) := by decide +kernel
theorem dL_now_103 : decode cL_now 103 = .ok (.lmul, 1) := by decide +kernel
theorem dL_now_104 : decode cL_now 104 = .ok (.aload_n 0, 1) := by decide +kernel
theorem dL_now_105 : decode cL_now 105 = .ok (.iload 4, 2) := by decide +kernel
theorem dL_now_107 : decode cL_now 107 = .ok (.bipush 8, 2) := by decide +kernel
theorem dL_now_109 : decode cL_now 109 = .ok (.idiv, 1) := by decide +kernel
theorem dL_now_110 : decode cL_now 110 = .ok (.iload 4, 2) := by decide +kernel
theorem dL_now_112 : decode cL_now 112 = .ok (.bipush 8, 2) := by decide +kernel
theorem dL_now_114 : decode cL_now 114 = .ok (.irem, 1) := by decide +kernel
theorem dL_now_115 : decode cL_now 115 = .ok (.invokestatic 128, 3) := by decide +kernel
theorem dL_now_118 : decode cL_now 118 = .ok (.ladd, 1) := by decide +kernel
theorem dL_now_119 : decode cL_now 119 = .ok (.lstore_n 1, 1) := by decide +kernel
theorem dL_now_120 : decode cL_now 120 = .ok (.iinc 4 1, 3) := by decide +kernel
theorem dL_now_123 : decode cL_now 123 = .ok (.goto (-33), 3) := by decide +kernel
theorem dL_now_126 : decode cL_now 126 = .ok (.iconst 0, 1) := by decide +kernel
theorem dL_now_127 : decode cL_now 127 = .ok (.istore 4, 2) := by decide +kernel
theorem dL_now_129 : decode cL_now 129 = .ok (.iload 4, 2) := by decide +kernel
theorem dL_now_131 : decode cL_now 131 = .ok (.iconst 5, 1) := by decide +kernel
theorem dL_now_132 : decode cL_now 132 = .ok (.iload_n 3, 1) := by decide +kernel
theorem dL_now_133 : decode cL_now 133 = .ok (.imul, 1) := by decide +kernel
theorem dL_now_134 : decode cL_now 134 = .ok (.if_icmp .ge 28, 3) := by decide +kernel
theorem dL_now_137 : decode cL_now 137 = .ok (.ldc2_w 117, 3) := by decide +kernel
theorem dL_now_140 : decode cL_now 140 = .ok (.lload_n 1, 1) := by decide +kernel
theorem dL_now_141 : decode cL_now 141 = .ok (.lmul, 1) := by decide +kernel
theorem dL_now_142 : decode cL_now 142 = .ok (.aload_n 0, 1) := by decide +kernel
theorem dL_now_143 : decode cL_now 143 = .ok (.iload 4, 2) := by decide +kernel
theorem dL_now_145 : decode cL_now 145 = .ok (.iconst 5, 1) := by decide +kernel
theorem dL_now_146 : decode cL_now 146 = .ok (.idiv, 1) := by decide +kernel
theorem dL_now_147 : decode cL_now 147 = .ok (.iload 4, 2) := by decide +kernel
theorem dL_now_149 : decode cL_now 149 = .ok (.iconst 5, 1) := by decide +kernel
theorem dL_now_150 : decode cL_now 150 = .ok (.irem, 1) := by decide +kernel
theorem dL_now_151 : decode cL_now 151 = .ok (.invokestatic 131, 3) := by decide +kernel
theorem dL_now_154 : decode cL_now 154 = .ok (.ladd, 1) := by decide +kernel
theorem dL_now_155 : decode cL_now 155 = .ok (.lstore_n 1, 1) := by decide +kernel
theorem dL_now_156 : decode cL_now 156 = .ok (.iinc 4 1, 3) := by decide +kernel
theorem dL_now_159 : decode cL_now 159 = .ok (.goto (-30), 3) := by decide +kernel
theorem dL_now_162 : decode cL_now 162 = .ok (.aload_n 0, 1) := by decide +kernel
theorem dL_now_163 : decode cL_now 163 = .ok (.iconst 1, 1) := by decide +kernel
theorem dL_now_164 : decode cL_now 164 = .ok (.invokestatic 119, 3) := by decide +kernel
theorem dL_now_167 : decode cL_now 167 = .ok (.l2i, 1) := by decide +kernel
theorem dL_now_168 : decode cL_now 168 = .ok (.istore 4, 2) := by decide +kernel
theorem dL_now_170 : decode cL_now 170 = .ok (.iconst 0, 1) := by decide +kernel
theorem dL_now_171 : decode cL_now 171 = .ok (.istore 5, 2) := by decide +kernel
theorem dL_now_173 : decode cL_now 173 = .ok (.iload 5, 2) := by decide +kernel
theorem dL_now_175 : decode cL_now 175 = .ok (.iconst 5, 1) := by decide +kernel
theorem dL_now_176 : decode cL_now 176 = .ok (.iload 4, 2) := by decide +kernel
theorem dL_now_178 : decode cL_now 178 = .ok (.imul, 1) := by decide +kernel
theorem dL_now_179 : decode cL_now 179 = .ok (.if_icmp .ge 28, 3) := by decide +kernel
theorem dL_now_182 : decode cL_now 182 = .ok (.ldc2_w 117, 3) := by decide +kernel
theorem dL_now_185 : decode cL_now 185 = .ok (.lload_n 1, 1) := by decide +kernel
theorem dL_now_186 : decode cL_now 186 = .ok (.lmul, 1) := by decide +kernel
theorem dL_now_187 : decode cL_now 187 = .ok (.aload_n 0, 1) := by decide +kernel
theorem dL_now_188 : decode cL_now 188 = .ok (.iload 5, 2) := by decide +kernel
theorem dL_now_190 : decode cL_now 190 = .ok (.iconst 5, 1) := by decide +kernel
theorem dL_now_191 : decode cL_now 191 = .ok (.idiv, 1) := by decide +kernel
theorem dL_now_192 : decode cL_now 192 = .ok (.iload 5, 2) := by decide +kernel
theorem dL_now_194 : decode cL_now 194 = .ok (.iconst 5, 1) := by decide +kernel
theorem dL_now_195 : decode cL_now 195 = .ok (.irem, 1) := by decide +kernel
theorem dL_now_196 : decode cL_now 196 = .ok (.invokestatic 133, 3) := by decide +kernel
theorem dL_now_199 : decode cL_now 199 = .ok (.ladd, 1) := by decide +kernel
theorem dL_now_200 : decode cL_now 200 = .ok (.lstore_n 1, 1) := by decide +kernel
theorem dL_now_201 : decode cL_now 201 = .ok (.iinc 5 1, 3) := by decide +kernel
theorem dL_now_204 : decode cL_now 204 = .ok (.goto (-31), 3) := by decide +kernel
theorem dL_now_207 : decode cL_now 207 = .ok (.iconst 0, 1) := by decide +kernel
theorem dL_now_208 : decode cL_now 208 = .ok (.istore 5, 2) := by decide +kernel
theorem dL_now_210 : decode cL_now 210 = .ok (.iload 5, 2) := by decide +kernel
theorem dL_now_212 : decode cL_now 212 = .ok (.bipush 6, 2) := by decide +kernel
theorem dL_now_214 : decode cL_now 214 = .ok (.if_icmp .ge 61, 3) := by decide +kernel
theorem dL_now_217 : decode cL_now 217 = .ok (.ldc2_w 117, 3) := by decide +kernel
theorem dL_now_220 : decode cL_now 220 = .ok (.ldc2_w 117, 3) := by decide +kernel
theorem dL_now_223 : decode cL_now 223 = .ok (.lload_n 1, 1) := by decide +kernel
theorem dL_now_224 : decode cL_now 224 = .ok (.lmul, 1) := by decide +kernel
theorem dL_now_225 : decode cL_now 225 = .ok (.aload_n 0, 1) := by decide +kernel
theorem dL_now_226 : decode cL_now 226 = .ok (.iload 5, 2) := by decide +kernel
theorem dL_now_228 : decode cL_now 228 = .ok (.iconst 0, 1) := by decide +kernel
theorem dL_now_229 : decode cL_now 229 = .ok (.invokestatic 135, 3) := by decide +kernel
theorem dL_now_232 : decode cL_now 232 = .ok (.ladd, 1) := by decide +kernel
theorem dL_now_233 : decode cL_now 233 = .ok (.lmul, 1) := by decide +kernel
theorem dL_now_234 : decode cL_now 234 = .ok (.aload_n 0, 1) := by decide +kernel
theorem dL_now_235 : decode cL_now 235 = .ok (.iload 5, 2) := by decide +kernel
theorem dL_now_237 : decode cL_now 237 = .ok (.iconst 1, 1) := by decide +kernel
theorem dL_now_238 : decode cL_now 238 = .ok (.invokestatic 135, 3) := by decide +kernel
theorem dL_now_241 : decode cL_now 241 = .ok (.ladd, 1) := by decide +kernel
theorem dL_now_242 : decode cL_now 242 = .ok (.lstore_n 1, 1) := by decide +kernel
theorem dL_now_243 : decode cL_now 243 = .ok (.ldc2_w 117, 3) := by decide +kernel
theorem dL_now_246 : decode cL_now 246 = .ok (.ldc2_w 117, 3) := by decide +kernel
theorem dL_now_249 : decode cL_now 249 = .ok (.lload_n 1, 1) := by decide +kernel
theorem dL_now_250 : decode cL_now 250 = .ok (.lmul, 1) := by decide +kernel
theorem dL_now_251 : decode cL_now 251 = .ok (.aload_n 0, 1) := by decide +kernel
theorem dL_now_252 : decode cL_now 252 = .ok (.iload 5, 2) := by decide +kernel
theorem dL_now_254 : decode cL_now 254 = .ok (.iconst 0, 1) := by decide +kernel
theorem dL_now_255 : decode cL_now 255 = .ok (.invokestatic 137, 3) := by decide +kernel
theorem dL_now_258 : decode cL_now 258 = .ok (.ladd, 1) := by decide +kernel
theorem dL_now_259 : decode cL_now 259 = .ok (.lmul, 1) := by decide +kernel
theorem dL_now_260 : decode cL_now 260 = .ok (.aload_n 0, 1) := by decide +kernel
theorem dL_now_261 : decode cL_now 261 = .ok (.iload 5, 2) := by decide +kernel
theorem dL_now_263 : decode cL_now 263 = .ok (.iconst 2, 1) := by decide +kernel
theorem dL_now_264 : decode cL_now 264 = .ok (.invokestatic 137, 3) := by decide +kernel
theorem dL_now_267 : decode cL_now 267 = .ok (.ladd, 1) := by decide +kernel
theorem dL_now_268 : decode cL_now 268 = .ok (.lstore_n 1, 1) := by decide +kernel
theorem dL_now_269 : decode cL_now 269 = .ok (.iinc 5 1, 3) := by decide +kernel
theorem dL_now_272 : decode cL_now 272 = .ok (.goto (-62), 3) := by decide +kernel
theorem dL_now_275 : decode cL_now 275 = .ok (.lload_n 1, 1) := by decide +kernel
theorem dL_now_276 : decode cL_now 276 = .ok (.lreturn, 1) := by decide +kernel
def bL_now_0 (mc : Nat) (s_L_about : la_S) (s_L_setting : la_S) (s_L_windOf : la_S) (s_L_station : la_S) (s_L_stock : la_S) (s_L_finder : la_S) (s_L_gap : la_S) (s_L_back : la_S) (M : Nat → la_P) (K : Option Value → (Nat → aS) → Prop) : la_P := la_cl (163) (la_lst 1 (la_ci (nI 0) (la_ist 3 (M 6))))
def bL_now_6 (mc : Nat) (s_L_about : la_S) (s_L_setting : la_S) (s_L_windOf : la_S) (s_L_station : la_S) (s_L_stock : la_S) (s_L_finder : la_S) (s_L_gap : la_S) (s_L_back : la_S) (M : Nat → la_P) (K : Option Value → (Nat → aS) → Prop) : la_P := la_ild 3 (la_ci (nI 12) (la_if2 (fun x y => y ≤ x) (la_ci (nI 0) (la_ist 3 (M 32))) (la_cl (31) (la_lld 1 (la_l2 (fun x y => x * y) (la_ald 0 (la_ild 3 (la_cN mc 1 2 s_L_about (la_l2 (fun x y => x + y) (la_lst 1 (la_inc 3 (nI 1) (M 6))))))))))))
def bL_now_32 (mc : Nat) (s_L_about : la_S) (s_L_setting : la_S) (s_L_windOf : la_S) (s_L_station : la_S) (s_L_stock : la_S) (s_L_finder : la_S) (s_L_gap : la_S) (s_L_back : la_S) (M : Nat → la_P) (K : Option Value → (Nat → aS) → Prop) : la_P := la_ild 3 (la_ci (nI 5) (la_if2 (fun x y => y ≤ x) (la_ci (nI 0) (la_ist 3 (M 57))) (la_cl (31) (la_lld 1 (la_l2 (fun x y => x * y) (la_ald 0 (la_ild 3 (la_cN mc 1 2 s_L_setting (la_l2 (fun x y => x + y) (la_lst 1 (la_inc 3 (nI 1) (M 32))))))))))))
def bL_now_57 (mc : Nat) (s_L_about : la_S) (s_L_setting : la_S) (s_L_windOf : la_S) (s_L_station : la_S) (s_L_stock : la_S) (s_L_finder : la_S) (s_L_gap : la_S) (s_L_back : la_S) (M : Nat → la_P) (K : Option Value → (Nat → aS) → Prop) : la_P := la_ild 3 (la_ci (nI 4) (la_if2 (fun x y => y ≤ x) (la_ald 0 (la_ci (nI 0) (la_cN mc 1 2 s_L_about (la_l2i (la_ist 3 (la_ci (nI 0) (la_ist 4 (M 90)))))))) (la_cl (31) (la_lld 1 (la_l2 (fun x y => x * y) (la_ald 0 (la_ild 3 (la_cN mc 1 2 s_L_windOf (la_l2 (fun x y => x + y) (la_lst 1 (la_inc 3 (nI 1) (M 57))))))))))))
def bL_now_90 (mc : Nat) (s_L_about : la_S) (s_L_setting : la_S) (s_L_windOf : la_S) (s_L_station : la_S) (s_L_stock : la_S) (s_L_finder : la_S) (s_L_gap : la_S) (s_L_back : la_S) (M : Nat → la_P) (K : Option Value → (Nat → aS) → Prop) : la_P := la_ild 4 (la_ci (nI 8) (la_ild 3 (la_b2 (fun x y => x * y) (la_if2 (fun x y => y ≤ x) (la_ci (nI 0) (la_ist 4 (M 129))) (la_cl (31) (la_lld 1 (la_l2 (fun x y => x * y) (la_ald 0 (la_ild 4 (la_ci (nI 8) (la_d2 (fun x y => x / y) (la_ild 4 (la_ci (nI 8) (la_d2 (fun x y => x - x / y * y) (la_cN mc 1 3 s_L_station (la_l2 (fun x y => x + y) (la_lst 1 (la_inc 4 (nI 1) (M 90)))))))))))))))))))
def bL_now_129 (mc : Nat) (s_L_about : la_S) (s_L_setting : la_S) (s_L_windOf : la_S) (s_L_station : la_S) (s_L_stock : la_S) (s_L_finder : la_S) (s_L_gap : la_S) (s_L_back : la_S) (M : Nat → la_P) (K : Option Value → (Nat → aS) → Prop) : la_P := la_ild 4 (la_ci (nI 5) (la_ild 3 (la_b2 (fun x y => x * y) (la_if2 (fun x y => y ≤ x) (la_ald 0 (la_ci (nI 1) (la_cN mc 1 2 s_L_about (la_l2i (la_ist 4 (la_ci (nI 0) (la_ist 5 (M 173)))))))) (la_cl (31) (la_lld 1 (la_l2 (fun x y => x * y) (la_ald 0 (la_ild 4 (la_ci (nI 5) (la_d2 (fun x y => x / y) (la_ild 4 (la_ci (nI 5) (la_d2 (fun x y => x - x / y * y) (la_cN mc 1 3 s_L_stock (la_l2 (fun x y => x + y) (la_lst 1 (la_inc 4 (nI 1) (M 129)))))))))))))))))))
def bL_now_173 (mc : Nat) (s_L_about : la_S) (s_L_setting : la_S) (s_L_windOf : la_S) (s_L_station : la_S) (s_L_stock : la_S) (s_L_finder : la_S) (s_L_gap : la_S) (s_L_back : la_S) (M : Nat → la_P) (K : Option Value → (Nat → aS) → Prop) : la_P := la_ild 5 (la_ci (nI 5) (la_ild 4 (la_b2 (fun x y => x * y) (la_if2 (fun x y => y ≤ x) (la_ci (nI 0) (la_ist 5 (M 210))) (la_cl (31) (la_lld 1 (la_l2 (fun x y => x * y) (la_ald 0 (la_ild 5 (la_ci (nI 5) (la_d2 (fun x y => x / y) (la_ild 5 (la_ci (nI 5) (la_d2 (fun x y => x - x / y * y) (la_cN mc 1 3 s_L_finder (la_l2 (fun x y => x + y) (la_lst 1 (la_inc 5 (nI 1) (M 173)))))))))))))))))))
def bL_now_210 (mc : Nat) (s_L_about : la_S) (s_L_setting : la_S) (s_L_windOf : la_S) (s_L_station : la_S) (s_L_stock : la_S) (s_L_finder : la_S) (s_L_gap : la_S) (s_L_back : la_S) (M : Nat → la_P) (K : Option Value → (Nat → aS) → Prop) : la_P := la_ild 5 (la_ci (nI 6) (la_if2 (fun x y => y ≤ x) (la_lld 1 (la_lr mc K)) (la_cl (31) (la_cl (31) (la_lld 1 (la_l2 (fun x y => x * y) (la_ald 0 (la_ild 5 (la_ci (nI 0) (la_cN mc 1 3 s_L_gap (la_l2 (fun x y => x + y) (la_l2 (fun x y => x * y) (la_ald 0 (la_ild 5 (la_ci (nI 1) (la_cN mc 1 3 s_L_gap (la_l2 (fun x y => x + y) (la_lst 1 (la_cl (31) (la_cl (31) (la_lld 1 (la_l2 (fun x y => x * y) (la_ald 0 (la_ild 5 (la_ci (nI 0) (la_cN mc 1 3 s_L_back (la_l2 (fun x y => x + y) (la_l2 (fun x y => x * y) (la_ald 0 (la_ild 5 (la_ci (nI 2) (la_cN mc 1 3 s_L_back (la_l2 (fun x y => x + y) (la_lst 1 (la_inc 5 (nI 1) (M 210))))))))))))))))))))))))))))))))))))
set_option maxRecDepth 40000 in
set_option maxHeartbeats 8000000 in
theorem vc_L_now {l : Launch} (hl : l.stackTraces = false) {Y : lW} (hw : lWo Y) {A : Nat → aS} {As : List Value} {K : Option Value → (Nat → aS) → Prop} {s_L_about : la_S} (ok_L_about : la_Ok l yL_about (Cond.codeWith yL_about cL_about 3 (some .long) [(0, 6, 7, 15)]) 7 (30 * 7) 1 s_L_about) {s_L_setting : la_S} (ok_L_setting : la_Ok l yL_setting (Cond.codeWith yL_setting cL_setting 3 (some .long) [(0, 6, 7, 15)]) 8 (30 * 8) 1 s_L_setting) {s_L_windOf : la_S} (ok_L_windOf : la_Ok l yL_windOf (Cond.codeWith yL_windOf cL_windOf 3 (some .long) [(0, 6, 7, 15)]) 8 (30 * 8) 1 s_L_windOf) {s_L_station : la_S} (ok_L_station : la_Ok l yL_station (Cond.codeWith yL_station cL_station 4 (some .long) [(0, 7, 8, 34), (0, 7, 13, 15)]) 8 (30 * 8) 1 s_L_station) {s_L_stock : la_S} (ok_L_stock : la_Ok l yL_stock (Cond.codeWith yL_stock cL_stock 4 (some .long) [(0, 7, 8, 34), (0, 7, 13, 15)]) 8 (30 * 8) 1 s_L_stock) {s_L_finder : la_S} (ok_L_finder : la_Ok l yL_finder (Cond.codeWith yL_finder cL_finder 4 (some .long) [(0, 7, 8, 34), (0, 7, 13, 15)]) 7 (30 * 7) 1 s_L_finder) {s_L_gap : la_S} (ok_L_gap : la_Ok l yL_gap (Cond.codeWith yL_gap cL_gap 4 (some .long) [(0, 7, 8, 15)]) 8 (30 * 8) 1 s_L_gap) {s_L_back : la_S} (ok_L_back : la_Ok l yL_back (Cond.codeWith yL_back cL_back 4 (some .long) [(0, 7, 8, 15)]) 8 (30 * 8) 1 s_L_back) (hlen : (ab_xl As).length ≤ 6) (h : ∀ M : Nat → la_P, (∀ L st X, bL_now_0 200 s_L_about s_L_setting s_L_windOf s_L_station s_L_stock s_L_finder s_L_gap s_L_back M K L st X → M 0 L st X) → (∀ L st X, bL_now_6 200 s_L_about s_L_setting s_L_windOf s_L_station s_L_stock s_L_finder s_L_gap s_L_back M K L st X → M 6 L st X) → (∀ L st X, bL_now_32 200 s_L_about s_L_setting s_L_windOf s_L_station s_L_stock s_L_finder s_L_gap s_L_back M K L st X → M 32 L st X) → (∀ L st X, bL_now_57 200 s_L_about s_L_setting s_L_windOf s_L_station s_L_stock s_L_finder s_L_gap s_L_back M K L st X → M 57 L st X) → (∀ L st X, bL_now_90 200 s_L_about s_L_setting s_L_windOf s_L_station s_L_stock s_L_finder s_L_gap s_L_back M K L st X → M 90 L st X) → (∀ L st X, bL_now_129 200 s_L_about s_L_setting s_L_windOf s_L_station s_L_stock s_L_finder s_L_gap s_L_back M K L st X → M 129 L st X) → (∀ L st X, bL_now_173 200 s_L_about s_L_setting s_L_windOf s_L_station s_L_stock s_L_finder s_L_gap s_L_back M K L st X → M 173 L st X) → (∀ L st X, bL_now_210 200 s_L_about s_L_setting s_L_windOf s_L_station s_L_stock s_L_finder s_L_gap s_L_back M K L st X → M 210 L st X) → M 0 (ab_pd 6 (ab_xl As)) [] (A, 0)) : la_Met l yL_now (Cond.code yL_now cL_now 6 (some .long)) 9 (30 * 9) 200 Y A As K := by
  refine la_enter (by decide) hl hw hlen ?_
  intro p e R s m args below meth c C hr
  exact h _ (sl_ldc2 C (x := 163) dL_now_0 wu_650 (sl_lstore_n C (i := 1) dL_now_3 rfl (by decide) (sl_iconst C (x := nI 0) dL_now_4 (by decide +kernel) (sl_istore_n C (i := 3) dL_now_5 rfl (by decide) (fun _ _ _ h => h)))))
    (sl_iload_n C (i := 3) dL_now_6 rfl (sl_bipush C (x := nI 12) dL_now_7 (by decide +kernel) (sl_icmp_ge C dL_now_9 (tgt := 30) (by decide) (sl_iconst C (x := nI 0) dL_now_30 (by decide +kernel) (sl_istore_n C (i := 3) dL_now_31 rfl (by decide) (fun _ _ _ h => h))) (sl_ldc2 C (x := 31) dL_now_12 wu_651 (sl_lload_n C (i := 1) dL_now_15 rfl (sl_lmul C dL_now_16 (sl_aload_n C (i := 0) dL_now_17 rfl (sl_iload_n C (i := 3) dL_now_18 rfl (sl_cW C ok_L_about ⟨by decide, by decide, wu_654, wu_0, by decide +kernel⟩ wu_652 wu_653 dL_now_19 (sl_ladd C dL_now_22 (sl_lstore_n C (i := 1) dL_now_23 rfl (by decide) (sl_iinc C (x := nI 1) dL_now_24 (by decide +kernel) (by decide) (sl_goto C dL_now_27 (tgt := 6) (by decide) (fun _ _ _ h => h))))))))))))))
    (sl_iload_n C (i := 3) dL_now_32 rfl (sl_iconst C (x := nI 5) dL_now_33 (by decide +kernel) (sl_icmp_ge C dL_now_34 (tgt := 55) (by decide) (sl_iconst C (x := nI 0) dL_now_55 (by decide +kernel) (sl_istore_n C (i := 3) dL_now_56 rfl (by decide) (fun _ _ _ h => h))) (sl_ldc2 C (x := 31) dL_now_37 wu_651 (sl_lload_n C (i := 1) dL_now_40 rfl (sl_lmul C dL_now_41 (sl_aload_n C (i := 0) dL_now_42 rfl (sl_iload_n C (i := 3) dL_now_43 rfl (sl_cW C ok_L_setting ⟨by decide, by decide, wu_687, wu_0, by decide +kernel⟩ wu_685 wu_686 dL_now_44 (sl_ladd C dL_now_47 (sl_lstore_n C (i := 1) dL_now_48 rfl (by decide) (sl_iinc C (x := nI 1) dL_now_49 (by decide +kernel) (by decide) (sl_goto C dL_now_52 (tgt := 32) (by decide) (fun _ _ _ h => h))))))))))))))
    (sl_iload_n C (i := 3) dL_now_57 rfl (sl_iconst C (x := nI 4) dL_now_58 (by decide +kernel) (sl_icmp_ge C dL_now_59 (tgt := 80) (by decide) (sl_aload_n C (i := 0) dL_now_80 rfl (sl_iconst C (x := nI 0) dL_now_81 (by decide +kernel) (sl_cW C ok_L_about ⟨by decide, by decide, wu_654, wu_0, by decide +kernel⟩ wu_652 wu_653 dL_now_82 (sl_l2i C dL_now_85 (sl_istore_n C (i := 3) dL_now_86 rfl (by decide) (sl_iconst C (x := nI 0) dL_now_87 (by decide +kernel) (sl_istore C dL_now_88 (by decide) (fun _ _ _ h => h)))))))) (sl_ldc2 C (x := 31) dL_now_62 wu_651 (sl_lload_n C (i := 1) dL_now_65 rfl (sl_lmul C dL_now_66 (sl_aload_n C (i := 0) dL_now_67 rfl (sl_iload_n C (i := 3) dL_now_68 rfl (sl_cW C ok_L_windOf ⟨by decide, by decide, wu_698, wu_0, by decide +kernel⟩ wu_696 wu_697 dL_now_69 (sl_ladd C dL_now_72 (sl_lstore_n C (i := 1) dL_now_73 rfl (by decide) (sl_iinc C (x := nI 1) dL_now_74 (by decide +kernel) (by decide) (sl_goto C dL_now_77 (tgt := 57) (by decide) (fun _ _ _ h => h))))))))))))))
    (sl_iload C dL_now_90 (sl_bipush C (x := nI 8) dL_now_92 (by decide +kernel) (sl_iload_n C (i := 3) dL_now_94 rfl (sl_imul C dL_now_95 (sl_icmp_ge C dL_now_96 (tgt := 126) (by decide) (sl_iconst C (x := nI 0) dL_now_126 (by decide +kernel) (sl_istore C dL_now_127 (by decide) (fun _ _ _ h => h))) (sl_ldc2 C (x := 31) dL_now_99 wu_651 (sl_lload_n C (i := 1) dL_now_102 rfl (sl_lmul C dL_now_103 (sl_aload_n C (i := 0) dL_now_104 rfl (sl_iload C dL_now_105 (sl_bipush C (x := nI 8) dL_now_107 (by decide +kernel) (sl_idiv C dL_now_109 (sl_iload C dL_now_110 (sl_bipush C (x := nI 8) dL_now_112 (by decide +kernel) (sl_irem C dL_now_114 (sl_cW C ok_L_station ⟨by decide, by decide, wu_705, wu_0, by decide +kernel⟩ wu_703 wu_704 dL_now_115 (sl_ladd C dL_now_118 (sl_lstore_n C (i := 1) dL_now_119 rfl (by decide) (sl_iinc C (x := nI 1) dL_now_120 (by decide +kernel) (by decide) (sl_goto C dL_now_123 (tgt := 90) (by decide) (fun _ _ _ h => h)))))))))))))))))))))
    (sl_iload C dL_now_129 (sl_iconst C (x := nI 5) dL_now_131 (by decide +kernel) (sl_iload_n C (i := 3) dL_now_132 rfl (sl_imul C dL_now_133 (sl_icmp_ge C dL_now_134 (tgt := 162) (by decide) (sl_aload_n C (i := 0) dL_now_162 rfl (sl_iconst C (x := nI 1) dL_now_163 (by decide +kernel) (sl_cW C ok_L_about ⟨by decide, by decide, wu_654, wu_0, by decide +kernel⟩ wu_652 wu_653 dL_now_164 (sl_l2i C dL_now_167 (sl_istore C dL_now_168 (by decide) (sl_iconst C (x := nI 0) dL_now_170 (by decide +kernel) (sl_istore C dL_now_171 (by decide) (fun _ _ _ h => h)))))))) (sl_ldc2 C (x := 31) dL_now_137 wu_651 (sl_lload_n C (i := 1) dL_now_140 rfl (sl_lmul C dL_now_141 (sl_aload_n C (i := 0) dL_now_142 rfl (sl_iload C dL_now_143 (sl_iconst C (x := nI 5) dL_now_145 (by decide +kernel) (sl_idiv C dL_now_146 (sl_iload C dL_now_147 (sl_iconst C (x := nI 5) dL_now_149 (by decide +kernel) (sl_irem C dL_now_150 (sl_cW C ok_L_stock ⟨by decide, by decide, wu_726, wu_0, by decide +kernel⟩ wu_724 wu_725 dL_now_151 (sl_ladd C dL_now_154 (sl_lstore_n C (i := 1) dL_now_155 rfl (by decide) (sl_iinc C (x := nI 1) dL_now_156 (by decide +kernel) (by decide) (sl_goto C dL_now_159 (tgt := 129) (by decide) (fun _ _ _ h => h)))))))))))))))))))))
    (sl_iload C dL_now_173 (sl_iconst C (x := nI 5) dL_now_175 (by decide +kernel) (sl_iload C dL_now_176 (sl_imul C dL_now_178 (sl_icmp_ge C dL_now_179 (tgt := 207) (by decide) (sl_iconst C (x := nI 0) dL_now_207 (by decide +kernel) (sl_istore C dL_now_208 (by decide) (fun _ _ _ h => h))) (sl_ldc2 C (x := 31) dL_now_182 wu_651 (sl_lload_n C (i := 1) dL_now_185 rfl (sl_lmul C dL_now_186 (sl_aload_n C (i := 0) dL_now_187 rfl (sl_iload C dL_now_188 (sl_iconst C (x := nI 5) dL_now_190 (by decide +kernel) (sl_idiv C dL_now_191 (sl_iload C dL_now_192 (sl_iconst C (x := nI 5) dL_now_194 (by decide +kernel) (sl_irem C dL_now_195 (sl_cW C ok_L_finder ⟨by decide, by decide, wu_737, wu_0, by decide +kernel⟩ wu_735 wu_736 dL_now_196 (sl_ladd C dL_now_199 (sl_lstore_n C (i := 1) dL_now_200 rfl (by decide) (sl_iinc C (x := nI 1) dL_now_201 (by decide +kernel) (by decide) (sl_goto C dL_now_204 (tgt := 173) (by decide) (fun _ _ _ h => h)))))))))))))))))))))
    (sl_iload C dL_now_210 (sl_bipush C (x := nI 6) dL_now_212 (by decide +kernel) (sl_icmp_ge C dL_now_214 (tgt := 275) (by decide) (sl_lload_n C (i := 1) dL_now_275 rfl (sl_lr C hr dL_now_276)) (sl_ldc2 C (x := 31) dL_now_217 wu_651 (sl_ldc2 C (x := 31) dL_now_220 wu_651 (sl_lload_n C (i := 1) dL_now_223 rfl (sl_lmul C dL_now_224 (sl_aload_n C (i := 0) dL_now_225 rfl (sl_iload C dL_now_226 (sl_iconst C (x := nI 0) dL_now_228 (by decide +kernel) (sl_cW C ok_L_gap ⟨by decide, by decide, wu_751, wu_0, by decide +kernel⟩ wu_749 wu_750 dL_now_229 (sl_ladd C dL_now_232 (sl_lmul C dL_now_233 (sl_aload_n C (i := 0) dL_now_234 rfl (sl_iload C dL_now_235 (sl_iconst C (x := nI 1) dL_now_237 (by decide +kernel) (sl_cW C ok_L_gap ⟨by decide, by decide, wu_751, wu_0, by decide +kernel⟩ wu_749 wu_750 dL_now_238 (sl_ladd C dL_now_241 (sl_lstore_n C (i := 1) dL_now_242 rfl (by decide) (sl_ldc2 C (x := 31) dL_now_243 wu_651 (sl_ldc2 C (x := 31) dL_now_246 wu_651 (sl_lload_n C (i := 1) dL_now_249 rfl (sl_lmul C dL_now_250 (sl_aload_n C (i := 0) dL_now_251 rfl (sl_iload C dL_now_252 (sl_iconst C (x := nI 0) dL_now_254 (by decide +kernel) (sl_cW C ok_L_back ⟨by decide, by decide, wu_764, wu_0, by decide +kernel⟩ wu_762 wu_763 dL_now_255 (sl_ladd C dL_now_258 (sl_lmul C dL_now_259 (sl_aload_n C (i := 0) dL_now_260 rfl (sl_iload C dL_now_261 (sl_iconst C (x := nI 2) dL_now_263 (by decide +kernel) (sl_cW C ok_L_back ⟨by decide, by decide, wu_764, wu_0, by decide +kernel⟩ wu_762 wu_763 dL_now_264 (sl_ladd C dL_now_267 (sl_lstore_n C (i := 1) dL_now_268 rfl (by decide) (sl_iinc C (x := nI 1) dL_now_269 (by decide +kernel) (by decide) (sl_goto C dL_now_272 (tgt := 210) (by decide) (fun _ _ _ h => h))))))))))))))))))))))))))))))))))))))
theorem dL_says_0 : decode cL_says 0 = .ok (.aload_n 0, 1) := by decide +kernel
theorem dL_says_1 : decode cL_says 1 = .ok (.iload_n 1, 1) := by decide +kernel
theorem dL_says_2 : decode cL_says 2 = .ok (.invokestatic 187, 3) := by decide +kernel
theorem dL_says_5 : decode cL_says 5 = .ok (.lconst 0, 1) := by decide +kernel
theorem dL_says_6 : decode cL_says 6 = .ok (.lcmp, 1) := by decide +kernel
theorem dL_says_7 : decode cL_says 7 = .ok (.ifCond .le 7, 3) := by decide +kernel
theorem dL_says_10 : decode cL_says 10 = .ok (.iconst 1, 1) := by decide +kernel
theorem dL_says_11 : decode cL_says 11 = .ok (.goto 4, 3) := by decide +kernel
theorem dL_says_14 : decode cL_says 14 = .ok (.iconst 0, 1) := by decide +kernel
theorem dL_says_15 : decode cL_says 15 = .ok (.ireturn, 1) := by decide +kernel
def bL_says_0 (mc : Nat) (s_L_append : la_S) (M : Nat → la_P) (K : Option Value → (Nat → aS) → Prop) : la_P := la_ald 0 (la_ild 1 (la_cN mc 1 2 s_L_append (la_cl (lN 0) (la_lcmp (la_if1 (fun x => x ≤ 0) (la_ci (nI 0) (M 15)) (la_ci (nI 1) (M 15)))))))
def bL_says_15 (mc : Nat) (s_L_append : la_S) (M : Nat → la_P) (K : Option Value → (Nat → aS) → Prop) : la_P := la_zr mc K
set_option maxRecDepth 40000 in
set_option maxHeartbeats 8000000 in
theorem vc_L_says {l : Launch} (hl : l.stackTraces = false) {Y : lW} (hw : lWo Y) {A : Nat → aS} {As : List Value} {K : Option Value → (Nat → aS) → Prop} {s_L_append : la_S} (ok_L_append : la_Ok l yL_append (Cond.codeWith yL_append cL_append 3 (some .long) [(0, 6, 7, 15), (0, 6, 12, 19)]) 7 (30 * 7) 1 s_L_append) (hlen : (ab_xl As).length ≤ 2) (h : ∀ M : Nat → la_P, (∀ L st X, bL_says_0 1 s_L_append M K L st X → M 0 L st X) → (∀ L st X, bL_says_15 1 s_L_append M K L st X → M 15 L st X) → M 0 (ab_pd 2 (ab_xl As)) [] (A, 0)) : la_Met l yL_says (Cond.code yL_says cL_says 2 (some .boolean)) 8 (30 * 8) 1 Y A As K := by
  refine la_enter (by decide) hl hw hlen ?_
  intro p e R s m args below meth c C hr
  exact h _ (sl_aload_n C (i := 0) dL_says_0 rfl (sl_iload_n C (i := 1) dL_says_1 rfl (sl_cW C ok_L_append ⟨by decide, by decide, wu_961, wu_0, by decide +kernel⟩ wu_959 wu_960 dL_says_2 (sl_lconst C (x := lN 0) dL_says_5 (by decide +kernel) (sl_lcmp C dL_says_6 (sl_if_le C dL_says_7 (tgt := 14) (by decide) (sl_iconst C (x := nI 0) dL_says_14 (by decide +kernel) (fun _ _ _ h => h)) (sl_iconst C (x := nI 1) dL_says_10 (by decide +kernel) (sl_goto C dL_says_11 (tgt := 15) (by decide) (fun _ _ _ h => h)))))))))
    (sl_zr C hr dL_says_15)
theorem dL_two_0 : decode cL_two 0 = .ok (.aload_n 0, 1) := by decide +kernel
theorem dL_two_1 : decode cL_two 1 = .ok (.bipush 48, 2) := by decide +kernel
theorem dL_two_3 : decode cL_two 3 = .ok (.iload_n 1, 1) := by decide +kernel
theorem dL_two_4 : decode cL_two 4 = .ok (.bipush 10, 2) := by decide +kernel
theorem dL_two_6 : decode cL_two 6 = .ok (.idiv, 1) := by decide +kernel
theorem dL_two_7 : decode cL_two 7 = .ok (.iadd, 1) := by decide +kernel
theorem dL_two_8 : decode cL_two 8 = .ok (.invokestatic 219, 3) := by decide +kernel
theorem dL_two_11 : decode cL_two 11 = .ok (.ifCond .eq 21, 3) := by decide +kernel
theorem dL_two_14 : decode cL_two 14 = .ok (.aload_n 0, 1) := by decide +kernel
theorem dL_two_15 : decode cL_two 15 = .ok (.bipush 48, 2) := by decide +kernel
theorem dL_two_17 : decode cL_two 17 = .ok (.iload_n 1, 1) := by decide +kernel
theorem dL_two_18 : decode cL_two 18 = .ok (.bipush 10, 2) := by decide +kernel
theorem dL_two_20 : decode cL_two 20 = .ok (.irem, 1) := by decide +kernel
theorem dL_two_21 : decode cL_two 21 = .ok (.iadd, 1) := by decide +kernel
theorem dL_two_22 : decode cL_two 22 = .ok (.invokestatic 219, 3) := by decide +kernel
theorem dL_two_25 : decode cL_two 25 = .ok (.ifCond .eq 7, 3) := by decide +kernel
theorem dL_two_28 : decode cL_two 28 = .ok (.iconst 1, 1) := by decide +kernel
theorem dL_two_29 : decode cL_two 29 = .ok (.goto 4, 3) := by decide +kernel
theorem dL_two_32 : decode cL_two 32 = .ok (.iconst 0, 1) := by decide +kernel
theorem dL_two_33 : decode cL_two 33 = .ok (.ireturn, 1) := by decide +kernel
def bL_two_0 (mc : Nat) (s_L_says : la_S) (M : Nat → la_P) (K : Option Value → (Nat → aS) → Prop) : la_P := la_ald 0 (la_ci (nI 48) (la_ild 1 (la_ci (nI 10) (la_d2 (fun x y => x / y) (la_b2 (fun x y => x + y) (la_cN mc 1 2 s_L_says (la_if1 (fun x => x = 0) (M 32) (la_ald 0 (la_ci (nI 48) (la_ild 1 (la_ci (nI 10) (la_d2 (fun x y => x - x / y * y) (la_b2 (fun x y => x + y) (la_cN mc 1 2 s_L_says (la_if1 (fun x => x = 0) (M 32) (la_ci (nI 1) (M 33)))))))))))))))))
def bL_two_32 (mc : Nat) (s_L_says : la_S) (M : Nat → la_P) (K : Option Value → (Nat → aS) → Prop) : la_P := la_ci (nI 0) (M 33)
def bL_two_33 (mc : Nat) (s_L_says : la_S) (M : Nat → la_P) (K : Option Value → (Nat → aS) → Prop) : la_P := la_zr mc K
set_option maxRecDepth 40000 in
set_option maxHeartbeats 8000000 in
theorem vc_L_two {l : Launch} (hl : l.stackTraces = false) {Y : lW} (hw : lWo Y) {A : Nat → aS} {As : List Value} {K : Option Value → (Nat → aS) → Prop} {s_L_says : la_S} (ok_L_says : la_Ok l yL_says (Cond.code yL_says cL_says 2 (some .boolean)) 8 (30 * 8) 1 s_L_says) (hlen : (ab_xl As).length ≤ 2) (h : ∀ M : Nat → la_P, (∀ L st X, bL_two_0 2 s_L_says M K L st X → M 0 L st X) → (∀ L st X, bL_two_32 2 s_L_says M K L st X → M 32 L st X) → (∀ L st X, bL_two_33 2 s_L_says M K L st X → M 33 L st X) → M 0 (ab_pd 2 (ab_xl As)) [] (A, 0)) : la_Met l yL_two (Cond.code yL_two cL_two 2 (some .boolean)) 9 (30 * 9) 2 Y A As K := by
  refine la_enter (by decide) hl hw hlen ?_
  intro p e R s m args below meth c C hr
  exact h _ (sl_aload_n C (i := 0) dL_two_0 rfl (sl_bipush C (x := nI 48) dL_two_1 (by decide +kernel) (sl_iload_n C (i := 1) dL_two_3 rfl (sl_bipush C (x := nI 10) dL_two_4 (by decide +kernel) (sl_idiv C dL_two_6 (sl_iadd C dL_two_7 (sl_cN C ok_L_says ⟨by decide, by decide, wu_1022, wu_0, by decide +kernel⟩ wu_1020 wu_1021 dL_two_8 (sl_if_eq C dL_two_11 (tgt := 32) (by decide) (fun _ _ _ h => h) (sl_aload_n C (i := 0) dL_two_14 rfl (sl_bipush C (x := nI 48) dL_two_15 (by decide +kernel) (sl_iload_n C (i := 1) dL_two_17 rfl (sl_bipush C (x := nI 10) dL_two_18 (by decide +kernel) (sl_irem C dL_two_20 (sl_iadd C dL_two_21 (sl_cN C ok_L_says ⟨by decide, by decide, wu_1022, wu_0, by decide +kernel⟩ wu_1020 wu_1021 dL_two_22 (sl_if_eq C dL_two_25 (tgt := 32) (by decide) (fun _ _ _ h => h) (sl_iconst C (x := nI 1) dL_two_28 (by decide +kernel) (sl_goto C dL_two_29 (tgt := 33) (by decide) (fun _ _ _ h => h)))))))))))))))))))
    (sl_iconst C (x := nI 0) dL_two_32 (by decide +kernel) (fun _ _ _ h => h))
    (sl_zr C hr dL_two_33)
theorem dL_tells_0 : decode cL_tells 0 = .ok (.aload_n 0, 1) := by decide +kernel
theorem dL_tells_1 : decode cL_tells 1 = .ok (.invokevirtual 223, 3) := by decide +kernel
theorem dL_tells_4 : decode cL_tells 4 = .ok (.ifCond .lt 16, 3) := by decide +kernel
theorem dL_tells_7 : decode cL_tells 7 = .ok (.aload_n 0, 1) := by decide +kernel
theorem dL_tells_8 : decode cL_tells 8 = .ok (.bipush 78, 2) := by decide +kernel
theorem dL_tells_10 : decode cL_tells 10 = .ok (.invokestatic 219, 3) := by decide +kernel
theorem dL_tells_13 : decode cL_tells 13 = .ok (.ifCond .eq 7, 3) := by decide +kernel
theorem dL_tells_16 : decode cL_tells 16 = .ok (.iconst 1, 1) := by decide +kernel
theorem dL_tells_17 : decode cL_tells 17 = .ok (.goto 4, 3) := by decide +kernel
theorem dL_tells_20 : decode cL_tells 20 = .ok (.iconst 0, 1) := by decide +kernel
theorem dL_tells_21 : decode cL_tells 21 = .ok (.istore_n 3, 1) := by decide +kernel
theorem dL_tells_22 : decode cL_tells 22 = .ok (.iconst 0, 1) := by decide +kernel
theorem dL_tells_23 : decode cL_tells 23 = .ok (.istore 4, 2) := by decide +kernel
theorem dL_tells_25 : decode cL_tells 25 = .ok (.iload 4, 2) := by decide +kernel
theorem dL_tells_27 : decode cL_tells 27 = .ok (.iconst 3, 1) := by decide +kernel
theorem dL_tells_28 : decode cL_tells 28 = .ok (.if_icmp .ge 254, 3) := by decide +kernel
theorem dL_tells_31 : decode cL_tells 31 = .ok (.iload_n 3, 1) := by decide +kernel
theorem dL_tells_32 : decode cL_tells 32 = .ok (.ifCond .eq 250, 3) := by decide +kernel
theorem dL_tells_35 : decode cL_tells 35 = .ok (.iload_n 1, 1) := by decide +kernel
theorem dL_tells_36 : decode cL_tells 36 = .ok (.iload 4, 2) := by decide +kernel
theorem dL_tells_38 : decode cL_tells 38 = .ok (.ishr, 1) := by decide +kernel
theorem dL_tells_39 : decode cL_tells 39 = .ok (.ldc 226, 2) := by decide +kernel
theorem dL_tells_41 : decode cL_tells 41 = .ok (.irem, 1) := by decide +kernel
theorem dL_tells_42 : decode cL_tells 42 = .ok (.bipush 101, 2) := by decide +kernel
theorem dL_tells_44 : decode cL_tells 44 = .ok (.iload 4, 2) := by decide +kernel
theorem dL_tells_46 : decode cL_tells 46 = .ok (.imul, 1) := by decide +kernel
theorem dL_tells_47 : decode cL_tells 47 = .ok (.iadd, 1) := by decide +kernel
theorem dL_tells_48 : decode cL_tells 48 = .ok (.istore 5, 2) := by decide +kernel
theorem dL_tells_50 : decode cL_tells 50 = .ok (.iload_n 2, 1) := by decide +kernel
theorem dL_tells_51 : decode cL_tells 51 = .ok (.iload 4, 2) := by decide +kernel
theorem dL_tells_53 : decode cL_tells 53 = .ok (.ishr, 1) := by decide +kernel
theorem dL_tells_54 : decode cL_tells 54 = .ok (.ldc 226, 2) := by decide +kernel
theorem dL_tells_56 : decode cL_tells 56 = .ok (.irem, 1) := by decide +kernel
theorem dL_tells_57 : decode cL_tells 57 = .ok (.bipush 103, 2) := by decide +kernel
theorem dL_tells_59 : decode cL_tells 59 = .ok (.iload 4, 2) := by decide +kernel
theorem dL_tells_61 : decode cL_tells 61 = .ok (.imul, 1) := by decide +kernel
theorem dL_tells_62 : decode cL_tells 62 = .ok (.iadd, 1) := by decide +kernel
theorem dL_tells_63 : decode cL_tells 63 = .ok (.istore 6, 2) := by decide +kernel
theorem dL_tells_65 : decode cL_tells 65 = .ok (.aload_n 0, 1) := by decide +kernel
theorem dL_tells_66 : decode cL_tells 66 = .ok (.bipush 115, 2) := by decide +kernel
theorem dL_tells_68 : decode cL_tells 68 = .ok (.invokestatic 219, 3) := by decide +kernel
theorem dL_tells_71 : decode cL_tells 71 = .ok (.ifCond .eq 203, 3) := by decide +kernel
theorem dL_tells_74 : decode cL_tells 74 = .ok (.aload_n 0, 1) := by decide +kernel
theorem dL_tells_75 : decode cL_tells 75 = .ok (.iload 5, 2) := by decide +kernel
theorem dL_tells_77 : decode cL_tells 77 = .ok (.bipush 100, 2) := by decide +kernel
theorem dL_tells_79 : decode cL_tells 79 = .ok (.irem, 1) := by decide +kernel
theorem dL_tells_80 : decode cL_tells 80 = .ok (.invokestatic 227, 3) := by decide +kernel
theorem dL_tells_83 : decode cL_tells 83 = .ok (.ifCond .eq 191, 3) := by decide +kernel
theorem dL_tells_86 : decode cL_tells 86 = .ok (.aload_n 0, 1) := by decide +kernel
theorem dL_tells_87 : decode cL_tells 87 = .ok (.iload 5, 2) := by decide +kernel
theorem dL_tells_89 : decode cL_tells 89 = .ok (.bipush 100, 2) := by decide +kernel
theorem dL_tells_91 : decode cL_tells 91 = .ok (.idiv, 1) := by decide +kernel
theorem dL_tells_92 : decode cL_tells 92 = .ok (.bipush 16, 2) := by decide +kernel
theorem dL_tells_94 : decode cL_tells 94 = .ok (.irem, 1) := by decide +kernel
theorem dL_tells_95 : decode cL_tells 95 = .ok (.invokestatic 227, 3) := by decide +kernel
theorem dL_tells_98 : decode cL_tells 98 = .ok (.ifCond .eq 176, 3) := by decide +kernel
theorem dL_tells_101 : decode cL_tells 101 = .ok (.aload_n 0, 1) := by decide +kernel
theorem dL_tells_102 : decode cL_tells 102 = .ok (.bipush 49, 2) := by decide +kernel
theorem dL_tells_104 : decode cL_tells 104 = .ok (.iload 6, 2) := by decide +kernel
theorem dL_tells_106 : decode cL_tells 106 = .ok (.iconst 5, 1) := by decide +kernel
theorem dL_tells_107 : decode cL_tells 107 = .ok (.irem, 1) := by decide +kernel
theorem dL_tells_108 : decode cL_tells 108 = .ok (.iadd, 1) := by decide +kernel
theorem dL_tells_109 : decode cL_tells 109 = .ok (.invokestatic 219, 3) := by decide +kernel
theorem dL_tells_112 : decode cL_tells 112 = .ok (.ifCond .eq 162, 3) := by decide +kernel
theorem dL_tells_115 : decode cL_tells 115 = .ok (.aload_n 0, 1) := by decide +kernel
theorem dL_tells_116 : decode cL_tells 116 = .ok (.iload 6, 2) := by decide +kernel
theorem dL_tells_118 : decode cL_tells 118 = .ok (.iconst 5, 1) := by decide +kernel
theorem dL_tells_119 : decode cL_tells 119 = .ok (.idiv, 1) := by decide +kernel
theorem dL_tells_120 : decode cL_tells 120 = .ok (.bipush 80, 2) := by decide +kernel
theorem dL_tells_122 : decode cL_tells 122 = .ok (.irem, 1) := by decide +kernel
theorem dL_tells_123 : decode cL_tells 123 = .ok (.invokestatic 227, 3) := by decide +kernel
theorem dL_tells_126 : decode cL_tells 126 = .ok (.ifCond .eq 148, 3) := by decide +kernel
theorem dL_tells_129 : decode cL_tells 129 = .ok (.aload_n 0, 1) := by decide +kernel
theorem dL_tells_130 : decode cL_tells 130 = .ok (.bipush 48, 2) := by decide +kernel
theorem dL_tells_132 : decode cL_tells 132 = .ok (.iload 6, 2) := by decide +kernel
theorem dL_tells_134 : decode cL_tells 134 = .ok (.sipush 400, 3) := by decide +kernel
theorem dL_tells_137 : decode cL_tells 137 = .ok (.idiv, 1) := by decide +kernel
theorem dL_tells_138 : decode cL_tells 138 = .ok (.bipush 6, 2) := by decide +kernel
theorem dL_tells_140 : decode cL_tells 140 = .ok (.irem, 1) := by decide +kernel
theorem dL_tells_141 : decode cL_tells 141 = .ok (.iadd, 1) := by decide +kernel
theorem dL_tells_142 : decode cL_tells 142 = .ok (.invokestatic 219, 3) := by decide +kernel
theorem dL_tells_145 : decode cL_tells 145 = .ok (.ifCond .eq 129, 3) := by decide +kernel
theorem dL_tells_148 : decode cL_tells 148 = .ok (.aload_n 0, 1) := by decide +kernel
theorem dL_tells_149 : decode cL_tells 149 = .ok (.bipush 102, 2) := by decide +kernel
theorem dL_tells_151 : decode cL_tells 151 = .ok (.invokestatic 219, 3) := by decide +kernel
theorem dL_tells_154 : decode cL_tells 154 = .ok (.ifCond .eq 120, 3) := by decide +kernel
theorem dL_tells_157 : decode cL_tells 157 = .ok (.aload_n 0, 1) := by decide +kernel
theorem dL_tells_158 : decode cL_tells 158 = .ok (.iload 5, 2) := by decide +kernel
theorem dL_tells_160 : decode cL_tells 160 = .ok (.bipush 100, 2) := by decide +kernel
theorem dL_tells_162 : decode cL_tells 162 = .ok (.irem, 1) := by decide +kernel
theorem dL_tells_163 : decode cL_tells 163 = .ok (.iload 6, 2) := by decide +kernel
theorem dL_tells_165 : decode cL_tells 165 = .ok (.bipush 15, 2) := by decide +kernel
theorem dL_tells_167 : decode cL_tells 167 = .ok (.irem, 1) := by decide +kernel
theorem dL_tells_168 : decode cL_tells 168 = .ok (.iadd, 1) := by decide +kernel
theorem dL_tells_169 : decode cL_tells 169 = .ok (.bipush 100, 2) := by decide +kernel
theorem dL_tells_171 : decode cL_tells 171 = .ok (.irem, 1) := by decide +kernel
theorem dL_tells_172 : decode cL_tells 172 = .ok (.invokestatic 227, 3) := by decide +kernel
theorem dL_tells_175 : decode cL_tells 175 = .ok (.ifCond .eq 99, 3) := by decide +kernel
theorem dL_tells_178 : decode cL_tells 178 = .ok (.aload_n 0, 1) := by decide +kernel
theorem dL_tells_179 : decode cL_tells 179 = .ok (.bipush 6, 2) := by decide +kernel
theorem dL_tells_181 : decode cL_tells 181 = .ok (.iload 5, 2) := by decide +kernel
theorem dL_tells_183 : decode cL_tells 183 = .ok (.bipush 7, 2) := by decide +kernel
theorem dL_tells_185 : decode cL_tells 185 = .ok (.idiv, 1) := by decide +kernel
theorem dL_tells_186 : decode cL_tells 186 = .ok (.bipush 15, 2) := by decide +kernel
theorem dL_tells_188 : decode cL_tells 188 = .ok (.irem, 1) := by decide +kernel
theorem dL_tells_189 : decode cL_tells 189 = .ok (.iadd, 1) := by decide +kernel
theorem dL_tells_190 : decode cL_tells 190 = .ok (.invokestatic 227, 3) := by decide +kernel
theorem dL_tells_193 : decode cL_tells 193 = .ok (.ifCond .eq 81, 3) := by decide +kernel
theorem dL_tells_196 : decode cL_tells 196 = .ok (.aload_n 0, 1) := by decide +kernel
theorem dL_tells_197 : decode cL_tells 197 = .ok (.iconst 1, 1) := by decide +kernel
theorem dL_tells_198 : decode cL_tells 198 = .ok (.iload 6, 2) := by decide +kernel
theorem dL_tells_200 : decode cL_tells 200 = .ok (.bipush 9, 2) := by decide +kernel
theorem dL_tells_202 : decode cL_tells 202 = .ok (.idiv, 1) := by decide +kernel
theorem dL_tells_203 : decode cL_tells 203 = .ok (.bipush 9, 2) := by decide +kernel
theorem dL_tells_205 : decode cL_tells 205 = .ok (.irem, 1) := by decide +kernel
theorem dL_tells_206 : decode cL_tells 206 = .ok (.iadd, 1) := by decide +kernel
theorem dL_tells_207 : decode cL_tells 207 = .ok (.invokestatic 227, 3) := by decide +kernel
theorem dL_tells_210 : decode cL_tells 210 = .ok (.ifCond .eq 64, 3) := by decide +kernel
theorem dL_tells_213 : decode cL_tells 213 = .ok (.aload_n 0, 1) := by decide +kernel
theorem dL_tells_214 : decode cL_tells 214 = .ok (.bipush 119, 2) := by decide +kernel
theorem dL_tells_216 : decode cL_tells 216 = .ok (.invokestatic 219, 3) := by decide +kernel
theorem dL_tells_219 : decode cL_tells 219 = .ok (.ifCond .eq 55, 3) := by decide +kernel
theorem dL_tells_222 : decode cL_tells 222 = .ok (.aload_n 0, 1) := by decide +kernel
theorem dL_tells_223 : decode cL_tells 223 = .ok (.bipush 48, 2) := by decide +kernel
theorem dL_tells_225 : decode cL_tells 225 = .ok (.iload 4, 2) := by decide +kernel
theorem dL_tells_227 : decode cL_tells 227 = .ok (.iadd, 1) := by decide +kernel
theorem dL_tells_228 : decode cL_tells 228 = .ok (.invokestatic 219, 3) := by decide +kernel
theorem dL_tells_231 : decode cL_tells 231 = .ok (.ifCond .eq 43, 3) := by decide +kernel
theorem dL_tells_234 : decode cL_tells 234 = .ok (.aload_n 0, 1) := by decide +kernel
theorem dL_tells_235 : decode cL_tells 235 = .ok (.iload 6, 2) := by decide +kernel
theorem dL_tells_237 : decode cL_tells 237 = .ok (.iconst 2, 1) := by decide +kernel
theorem dL_tells_238 : decode cL_tells 238 = .ok (.irem, 1) := by decide +kernel
theorem dL_tells_239 : decode cL_tells 239 = .ok (.ifCond .ne 8, 3) := by decide +kernel
theorem dL_tells_242 : decode cL_tells 242 = .ok (.bipush 45, 2) := by decide +kernel
theorem dL_tells_244 : decode cL_tells 244 = .ok (.goto 5, 3) := by decide +kernel
theorem dL_tells_247 : decode cL_tells 247 = .ok (.bipush 43, 2) := by decide +kernel
theorem dL_tells_249 : decode cL_tells 249 = .ok (.invokestatic 219, 3) := by decide +kernel
theorem dL_tells_252 : decode cL_tells 252 = .ok (.ifCond .eq 22, 3) := by decide +kernel
theorem dL_tells_255 : decode cL_tells 255 = .ok (.aload_n 0, 1) := by decide +kernel
theorem dL_tells_256 : decode cL_tells 256 = .ok (.iload 5, 2) := by decide +kernel
theorem dL_tells_258 : decode cL_tells 258 = .ok (.bipush 13, 2) := by decide +kernel
theorem dL_tells_260 : decode cL_tells 260 = .ok (.idiv, 1) := by decide +kernel
theorem dL_tells_261 : decode cL_tells 261 = .ok (.bipush 9, 2) := by decide +kernel
theorem dL_tells_263 : decode cL_tells 263 = .ok (.irem, 1) := by decide +kernel
theorem dL_tells_264 : decode cL_tells 264 = .ok (.invokestatic 227, 3) := by decide +kernel
theorem dL_tells_267 : decode cL_tells 267 = .ok (.ifCond .eq 7, 3) := by decide +kernel
theorem dL_tells_270 : decode cL_tells 270 = .ok (.iconst 1, 1) := by decide +kernel
theorem dL_tells_271 : decode cL_tells 271 = .ok (.goto 4, 3) := by decide +kernel
theorem dL_tells_274 : decode cL_tells 274 = .ok (.iconst 0, 1) := by decide +kernel
theorem dL_tells_275 : decode cL_tells 275 = .ok (.istore_n 3, 1) := by decide +kernel
theorem dL_tells_276 : decode cL_tells 276 = .ok (.iinc 4 1, 3) := by decide +kernel
theorem dL_tells_279 : decode cL_tells 279 = .ok (.goto (-254), 3) := by decide +kernel
theorem dL_tells_282 : decode cL_tells 282 = .ok (.iload_n 3, 1) := by decide +kernel
theorem dL_tells_283 : decode cL_tells 283 = .ok (.ifCond .eq 87, 3) := by decide +kernel
theorem dL_tells_286 : decode cL_tells 286 = .ok (.aload_n 0, 1) := by decide +kernel
theorem dL_tells_287 : decode cL_tells 287 = .ok (.bipush 100, 2) := by decide +kernel
theorem dL_tells_289 : decode cL_tells 289 = .ok (.invokestatic 219, 3) := by decide +kernel
theorem dL_tells_292 : decode cL_tells 292 = .ok (.ifCond .eq 78, 3) := by decide +kernel
theorem dL_tells_295 : decode cL_tells 295 = .ok (.aload_n 0, 1) := by decide +kernel
theorem dL_tells_296 : decode cL_tells 296 = .ok (.bipush 48, 2) := by decide +kernel
theorem dL_tells_298 : decode cL_tells 298 = .ok (.iload_n 1, 1) := by decide +kernel
theorem dL_tells_299 : decode cL_tells 299 = .ok (.iconst 3, 1) := by decide +kernel
theorem dL_tells_300 : decode cL_tells 300 = .ok (.irem, 1) := by decide +kernel
theorem dL_tells_301 : decode cL_tells 301 = .ok (.iadd, 1) := by decide +kernel
theorem dL_tells_302 : decode cL_tells 302 = .ok (.invokestatic 219, 3) := by decide +kernel
theorem dL_tells_305 : decode cL_tells 305 = .ok (.ifCond .eq 65, 3) := by decide +kernel
theorem dL_tells_308 : decode cL_tells 308 = .ok (.aload_n 0, 1) := by decide +kernel
theorem dL_tells_309 : decode cL_tells 309 = .ok (.iconst 1, 1) := by decide +kernel
theorem dL_tells_310 : decode cL_tells 310 = .ok (.iload_n 2, 1) := by decide +kernel
theorem dL_tells_311 : decode cL_tells 311 = .ok (.bipush 60, 2) := by decide +kernel
theorem dL_tells_313 : decode cL_tells 313 = .ok (.irem, 1) := by decide +kernel
theorem dL_tells_314 : decode cL_tells 314 = .ok (.iadd, 1) := by decide +kernel
theorem dL_tells_315 : decode cL_tells 315 = .ok (.invokestatic 227, 3) := by decide +kernel
theorem dL_tells_318 : decode cL_tells 318 = .ok (.ifCond .eq 52, 3) := by decide +kernel
theorem dL_tells_321 : decode cL_tells 321 = .ok (.aload_n 0, 1) := by decide +kernel
theorem dL_tells_322 : decode cL_tells 322 = .ok (.bipush 48, 2) := by decide +kernel
theorem dL_tells_324 : decode cL_tells 324 = .ok (.iload_n 1, 1) := by decide +kernel
theorem dL_tells_325 : decode cL_tells 325 = .ok (.iconst 3, 1) := by decide +kernel
theorem dL_tells_326 : decode cL_tells 326 = .ok (.idiv, 1) := by decide +kernel
theorem dL_tells_327 : decode cL_tells 327 = .ok (.iconst 4, 1) := by decide +kernel
theorem dL_tells_328 : decode cL_tells 328 = .ok (.irem, 1) := by decide +kernel
theorem dL_tells_329 : decode cL_tells 329 = .ok (.iadd, 1) := by decide +kernel
theorem dL_tells_330 : decode cL_tells 330 = .ok (.invokestatic 219, 3) := by decide +kernel
theorem dL_tells_333 : decode cL_tells 333 = .ok (.ifCond .eq 37, 3) := by decide +kernel
theorem dL_tells_336 : decode cL_tells 336 = .ok (.aload_n 0, 1) := by decide +kernel
theorem dL_tells_337 : decode cL_tells 337 = .ok (.bipush 114, 2) := by decide +kernel
theorem dL_tells_339 : decode cL_tells 339 = .ok (.invokestatic 219, 3) := by decide +kernel
theorem dL_tells_342 : decode cL_tells 342 = .ok (.ifCond .eq 28, 3) := by decide +kernel
theorem dL_tells_345 : decode cL_tells 345 = .ok (.aload_n 0, 1) := by decide +kernel
theorem dL_tells_346 : decode cL_tells 346 = .ok (.bipush 49, 2) := by decide +kernel
theorem dL_tells_348 : decode cL_tells 348 = .ok (.iload_n 2, 1) := by decide +kernel
theorem dL_tells_349 : decode cL_tells 349 = .ok (.iconst 5, 1) := by decide +kernel
theorem dL_tells_350 : decode cL_tells 350 = .ok (.irem, 1) := by decide +kernel
theorem dL_tells_351 : decode cL_tells 351 = .ok (.iadd, 1) := by decide +kernel
theorem dL_tells_352 : decode cL_tells 352 = .ok (.invokestatic 219, 3) := by decide +kernel
theorem dL_tells_355 : decode cL_tells 355 = .ok (.ifCond .eq 15, 3) := by decide +kernel
theorem dL_tells_358 : decode cL_tells 358 = .ok (.aload_n 0, 1) := by decide +kernel
theorem dL_tells_359 : decode cL_tells 359 = .ok (.invokevirtual 214, 3) := by decide +kernel
theorem dL_tells_362 : decode cL_tells 362 = .ok (.iconst (-1), 1) := by decide +kernel
theorem dL_tells_363 : decode cL_tells 363 = .ok (.if_icmp .ne 7, 3) := by decide +kernel
theorem dL_tells_366 : decode cL_tells 366 = .ok (.iconst 1, 1) := by decide +kernel
theorem dL_tells_367 : decode cL_tells 367 = .ok (.goto 4, 3) := by decide +kernel
theorem dL_tells_370 : decode cL_tells 370 = .ok (.iconst 0, 1) := by decide +kernel
theorem dL_tells_371 : decode cL_tells 371 = .ok (.ireturn, 1) := by decide +kernel
def bL_tells_0 (mc : Nat) (s_L_says : la_S) (s_L_two : la_S) (M : Nat → la_P) (K : Option Value → (Nat → aS) → Prop) : la_P := la_ald 0 (la_cV mc c_clearText (la_if1 (fun x => x < 0) (M 20) (la_ald 0 (la_ci (nI 78) (la_cN mc 1 2 s_L_says (la_if1 (fun x => x = 0) (M 20) (la_ci (nI 1) (M 21))))))))
def bL_tells_20 (mc : Nat) (s_L_says : la_S) (s_L_two : la_S) (M : Nat → la_P) (K : Option Value → (Nat → aS) → Prop) : la_P := la_ci (nI 0) (M 21)
def bL_tells_21 (mc : Nat) (s_L_says : la_S) (s_L_two : la_S) (M : Nat → la_P) (K : Option Value → (Nat → aS) → Prop) : la_P := la_ist 3 (la_ci (nI 0) (la_ist 4 (M 25)))
def bL_tells_25 (mc : Nat) (s_L_says : la_S) (s_L_two : la_S) (M : Nat → la_P) (K : Option Value → (Nat → aS) → Prop) : la_P := la_ild 4 (la_ci (nI 3) (la_if2 (fun x y => y ≤ x) (M 282) (la_ild 3 (la_if1 (fun x => x = 0) (M 282) (la_ild 1 (la_ild 4 (la_b2 (fun x y => x >>> (y &&& 31)) (la_ci (nI 100000) (la_d2 (fun x y => x - x / y * y) (la_ci (nI 101) (la_ild 4 (la_b2 (fun x y => x * y) (la_b2 (fun x y => x + y) (la_ist 5 (la_ild 2 (la_ild 4 (la_b2 (fun x y => x >>> (y &&& 31)) (la_ci (nI 100000) (la_d2 (fun x y => x - x / y * y) (la_ci (nI 103) (la_ild 4 (la_b2 (fun x y => x * y) (la_b2 (fun x y => x + y) (la_ist 6 (la_ald 0 (la_ci (nI 115) (la_cN mc 1 2 s_L_says (la_if1 (fun x => x = 0) (M 274) (la_ald 0 (la_ild 5 (la_ci (nI 100) (la_d2 (fun x y => x - x / y * y) (la_cN mc 2 2 s_L_two (la_if1 (fun x => x = 0) (M 274) (la_ald 0 (la_ild 5 (la_ci (nI 100) (la_d2 (fun x y => x / y) (la_ci (nI 16) (la_d2 (fun x y => x - x / y * y) (la_cN mc 2 2 s_L_two (la_if1 (fun x => x = 0) (M 274) (la_ald 0 (la_ci (nI 49) (la_ild 6 (la_ci (nI 5) (la_d2 (fun x y => x - x / y * y) (la_b2 (fun x y => x + y) (la_cN mc 1 2 s_L_says (la_if1 (fun x => x = 0) (M 274) (M 115)))))))))))))))))))))))))))))))))))))))))))))))))))
def bL_tells_115 (mc : Nat) (s_L_says : la_S) (s_L_two : la_S) (M : Nat → la_P) (K : Option Value → (Nat → aS) → Prop) : la_P := la_ald 0 (la_ild 6 (la_ci (nI 5) (la_d2 (fun x y => x / y) (la_ci (nI 80) (la_d2 (fun x y => x - x / y * y) (la_cN mc 2 2 s_L_two (la_if1 (fun x => x = 0) (M 274) (la_ald 0 (la_ci (nI 48) (la_ild 6 (la_ci (nI 400) (la_d2 (fun x y => x / y) (la_ci (nI 6) (la_d2 (fun x y => x - x / y * y) (la_b2 (fun x y => x + y) (la_cN mc 1 2 s_L_says (la_if1 (fun x => x = 0) (M 274) (la_ald 0 (la_ci (nI 102) (la_cN mc 1 2 s_L_says (la_if1 (fun x => x = 0) (M 274) (la_ald 0 (la_ild 5 (la_ci (nI 100) (la_d2 (fun x y => x - x / y * y) (la_ild 6 (la_ci (nI 15) (la_d2 (fun x y => x - x / y * y) (la_b2 (fun x y => x + y) (la_ci (nI 100) (la_d2 (fun x y => x - x / y * y) (la_cN mc 2 2 s_L_two (la_if1 (fun x => x = 0) (M 274) (la_ald 0 (la_ci (nI 6) (la_ild 5 (la_ci (nI 7) (la_d2 (fun x y => x / y) (la_ci (nI 15) (la_d2 (fun x y => x - x / y * y) (la_b2 (fun x y => x + y) (la_cN mc 2 2 s_L_two (la_if1 (fun x => x = 0) (M 274) (la_ald 0 (la_ci (nI 1) (la_ild 6 (la_ci (nI 9) (la_d2 (fun x y => x / y) (la_ci (nI 9) (la_d2 (fun x y => x - x / y * y) (la_b2 (fun x y => x + y) (la_cN mc 2 2 s_L_two (la_if1 (fun x => x = 0) (M 274) (M 213))))))))))))))))))))))))))))))))))))))))))))))))))))))
def bL_tells_213 (mc : Nat) (s_L_says : la_S) (s_L_two : la_S) (M : Nat → la_P) (K : Option Value → (Nat → aS) → Prop) : la_P := la_ald 0 (la_ci (nI 119) (la_cN mc 1 2 s_L_says (la_if1 (fun x => x = 0) (M 274) (la_ald 0 (la_ci (nI 48) (la_ild 4 (la_b2 (fun x y => x + y) (la_cN mc 1 2 s_L_says (la_if1 (fun x => x = 0) (M 274) (la_ald 0 (la_ild 6 (la_ci (nI 2) (la_d2 (fun x y => x - x / y * y) (la_if1 (fun x => ¬ x = 0) (la_ci (nI 43) (M 249)) (la_ci (nI 45) (M 249))))))))))))))))
def bL_tells_249 (mc : Nat) (s_L_says : la_S) (s_L_two : la_S) (M : Nat → la_P) (K : Option Value → (Nat → aS) → Prop) : la_P := la_cN mc 1 2 s_L_says (la_if1 (fun x => x = 0) (M 274) (la_ald 0 (la_ild 5 (la_ci (nI 13) (la_d2 (fun x y => x / y) (la_ci (nI 9) (la_d2 (fun x y => x - x / y * y) (la_cN mc 2 2 s_L_two (la_if1 (fun x => x = 0) (M 274) (la_ci (nI 1) (M 275)))))))))))
def bL_tells_274 (mc : Nat) (s_L_says : la_S) (s_L_two : la_S) (M : Nat → la_P) (K : Option Value → (Nat → aS) → Prop) : la_P := la_ci (nI 0) (M 275)
def bL_tells_275 (mc : Nat) (s_L_says : la_S) (s_L_two : la_S) (M : Nat → la_P) (K : Option Value → (Nat → aS) → Prop) : la_P := la_ist 3 (la_inc 4 (nI 1) (M 25))
def bL_tells_282 (mc : Nat) (s_L_says : la_S) (s_L_two : la_S) (M : Nat → la_P) (K : Option Value → (Nat → aS) → Prop) : la_P := la_ild 3 (la_if1 (fun x => x = 0) (M 370) (la_ald 0 (la_ci (nI 100) (la_cN mc 1 2 s_L_says (la_if1 (fun x => x = 0) (M 370) (la_ald 0 (la_ci (nI 48) (la_ild 1 (la_ci (nI 3) (la_d2 (fun x y => x - x / y * y) (la_b2 (fun x y => x + y) (la_cN mc 1 2 s_L_says (la_if1 (fun x => x = 0) (M 370) (la_ald 0 (la_ci (nI 1) (la_ild 2 (la_ci (nI 60) (la_d2 (fun x y => x - x / y * y) (la_b2 (fun x y => x + y) (la_cN mc 2 2 s_L_two (la_if1 (fun x => x = 0) (M 370) (la_ald 0 (la_ci (nI 48) (la_ild 1 (la_ci (nI 3) (la_d2 (fun x y => x / y) (la_ci (nI 4) (la_d2 (fun x y => x - x / y * y) (la_b2 (fun x y => x + y) (la_cN mc 1 2 s_L_says (la_if1 (fun x => x = 0) (M 370) (la_ald 0 (la_ci (nI 114) (la_cN mc 1 2 s_L_says (la_if1 (fun x => x = 0) (M 370) (la_ald 0 (la_ci (nI 49) (la_ild 2 (la_ci (nI 5) (la_d2 (fun x y => x - x / y * y) (la_b2 (fun x y => x + y) (la_cN mc 1 2 s_L_says (la_if1 (fun x => x = 0) (M 370) (la_ald 0 (la_cV mc c_errorPosition (la_ci (-1) (la_if2 (fun x y => ¬ x = y) (M 370) (M 366))))))))))))))))))))))))))))))))))))))))))))))))
def bL_tells_366 (mc : Nat) (s_L_says : la_S) (s_L_two : la_S) (M : Nat → la_P) (K : Option Value → (Nat → aS) → Prop) : la_P := la_ci (nI 1) (M 371)
def bL_tells_370 (mc : Nat) (s_L_says : la_S) (s_L_two : la_S) (M : Nat → la_P) (K : Option Value → (Nat → aS) → Prop) : la_P := la_ci (nI 0) (M 371)
def bL_tells_371 (mc : Nat) (s_L_says : la_S) (s_L_two : la_S) (M : Nat → la_P) (K : Option Value → (Nat → aS) → Prop) : la_P := la_zr mc K
set_option maxRecDepth 40000 in
set_option maxHeartbeats 8000000 in
theorem vc_L_tells {l : Launch} (hl : l.stackTraces = false) {Y : lW} (hw : lWo Y) {A : Nat → aS} {As : List Value} {K : Option Value → (Nat → aS) → Prop} {s_L_says : la_S} (ok_L_says : la_Ok l yL_says (Cond.code yL_says cL_says 2 (some .boolean)) 8 (30 * 8) 1 s_L_says) {s_L_two : la_S} (ok_L_two : la_Ok l yL_two (Cond.code yL_two cL_two 2 (some .boolean)) 9 (30 * 9) 2 s_L_two) (hlen : (ab_xl As).length ≤ 7) (h : ∀ M : Nat → la_P, (∀ L st X, bL_tells_0 150 s_L_says s_L_two M K L st X → M 0 L st X) → (∀ L st X, bL_tells_20 150 s_L_says s_L_two M K L st X → M 20 L st X) → (∀ L st X, bL_tells_21 150 s_L_says s_L_two M K L st X → M 21 L st X) → (∀ L st X, bL_tells_25 150 s_L_says s_L_two M K L st X → M 25 L st X) → (∀ L st X, bL_tells_115 150 s_L_says s_L_two M K L st X → M 115 L st X) → (∀ L st X, bL_tells_213 150 s_L_says s_L_two M K L st X → M 213 L st X) → (∀ L st X, bL_tells_249 150 s_L_says s_L_two M K L st X → M 249 L st X) → (∀ L st X, bL_tells_274 150 s_L_says s_L_two M K L st X → M 274 L st X) → (∀ L st X, bL_tells_275 150 s_L_says s_L_two M K L st X → M 275 L st X) → (∀ L st X, bL_tells_282 150 s_L_says s_L_two M K L st X → M 282 L st X) → (∀ L st X, bL_tells_366 150 s_L_says s_L_two M K L st X → M 366 L st X) → (∀ L st X, bL_tells_370 150 s_L_says s_L_two M K L st X → M 370 L st X) → (∀ L st X, bL_tells_371 150 s_L_says s_L_two M K L st X → M 371 L st X) → M 0 (ab_pd 7 (ab_xl As)) [] (A, 0)) : la_Met l yL_tells (Cond.code yL_tells cL_tells 7 (some .boolean)) 10 (30 * 10) 150 Y A As K := by
  refine la_enter (by decide) hl hw hlen ?_
  intro p e R s m args below meth c C hr
  exact h _ (sl_aload_n C (i := 0) dL_tells_0 rfl (sl_cV C (d' := 1) rfl ⟨by decide, by decide, wu_1019, wu_1, by decide +kernel⟩ wu_1016 wu_1017 wu_1018 dL_tells_1 (cV_clearText hl) (sl_if_lt C dL_tells_4 (tgt := 20) (by decide) (fun _ _ _ h => h) (sl_aload_n C (i := 0) dL_tells_7 rfl (sl_bipush C (x := nI 78) dL_tells_8 (by decide +kernel) (sl_cN C ok_L_says ⟨by decide, by decide, wu_1022, wu_0, by decide +kernel⟩ wu_1020 wu_1021 dL_tells_10 (sl_if_eq C dL_tells_13 (tgt := 20) (by decide) (fun _ _ _ h => h) (sl_iconst C (x := nI 1) dL_tells_16 (by decide +kernel) (sl_goto C dL_tells_17 (tgt := 21) (by decide) (fun _ _ _ h => h))))))))))
    (sl_iconst C (x := nI 0) dL_tells_20 (by decide +kernel) (fun _ _ _ h => h))
    (sl_istore_n C (i := 3) dL_tells_21 rfl (by decide) (sl_iconst C (x := nI 0) dL_tells_22 (by decide +kernel) (sl_istore C dL_tells_23 (by decide) (fun _ _ _ h => h))))
    (sl_iload C dL_tells_25 (sl_iconst C (x := nI 3) dL_tells_27 (by decide +kernel) (sl_icmp_ge C dL_tells_28 (tgt := 282) (by decide) (fun _ _ _ h => h) (sl_iload_n C (i := 3) dL_tells_31 rfl (sl_if_eq C dL_tells_32 (tgt := 282) (by decide) (fun _ _ _ h => h) (sl_iload_n C (i := 1) dL_tells_35 rfl (sl_iload C dL_tells_36 (sl_ishr C dL_tells_38 (sl_ldc C (x := nI 100000) dL_tells_39 wu_1023 (sl_irem C dL_tells_41 (sl_bipush C (x := nI 101) dL_tells_42 (by decide +kernel) (sl_iload C dL_tells_44 (sl_imul C dL_tells_46 (sl_iadd C dL_tells_47 (sl_istore C dL_tells_48 (by decide) (sl_iload_n C (i := 2) dL_tells_50 rfl (sl_iload C dL_tells_51 (sl_ishr C dL_tells_53 (sl_ldc C (x := nI 100000) dL_tells_54 wu_1023 (sl_irem C dL_tells_56 (sl_bipush C (x := nI 103) dL_tells_57 (by decide +kernel) (sl_iload C dL_tells_59 (sl_imul C dL_tells_61 (sl_iadd C dL_tells_62 (sl_istore C dL_tells_63 (by decide) (sl_aload_n C (i := 0) dL_tells_65 rfl (sl_bipush C (x := nI 115) dL_tells_66 (by decide +kernel) (sl_cN C ok_L_says ⟨by decide, by decide, wu_1022, wu_0, by decide +kernel⟩ wu_1020 wu_1021 dL_tells_68 (sl_if_eq C dL_tells_71 (tgt := 274) (by decide) (fun _ _ _ h => h) (sl_aload_n C (i := 0) dL_tells_74 rfl (sl_iload C dL_tells_75 (sl_bipush C (x := nI 100) dL_tells_77 (by decide +kernel) (sl_irem C dL_tells_79 (sl_cN C ok_L_two ⟨by decide, by decide, wu_1026, wu_0, by decide +kernel⟩ wu_1024 wu_1025 dL_tells_80 (sl_if_eq C dL_tells_83 (tgt := 274) (by decide) (fun _ _ _ h => h) (sl_aload_n C (i := 0) dL_tells_86 rfl (sl_iload C dL_tells_87 (sl_bipush C (x := nI 100) dL_tells_89 (by decide +kernel) (sl_idiv C dL_tells_91 (sl_bipush C (x := nI 16) dL_tells_92 (by decide +kernel) (sl_irem C dL_tells_94 (sl_cN C ok_L_two ⟨by decide, by decide, wu_1026, wu_0, by decide +kernel⟩ wu_1024 wu_1025 dL_tells_95 (sl_if_eq C dL_tells_98 (tgt := 274) (by decide) (fun _ _ _ h => h) (sl_aload_n C (i := 0) dL_tells_101 rfl (sl_bipush C (x := nI 49) dL_tells_102 (by decide +kernel) (sl_iload C dL_tells_104 (sl_iconst C (x := nI 5) dL_tells_106 (by decide +kernel) (sl_irem C dL_tells_107 (sl_iadd C dL_tells_108 (sl_cN C ok_L_says ⟨by decide, by decide, wu_1022, wu_0, by decide +kernel⟩ wu_1020 wu_1021 dL_tells_109 (sl_if_eq C dL_tells_112 (tgt := 274) (by decide) (fun _ _ _ h => h) (fun _ _ _ h => h))))))))))))))))))))))))))))))))))))))))))))))))))))
    (sl_aload_n C (i := 0) dL_tells_115 rfl (sl_iload C dL_tells_116 (sl_iconst C (x := nI 5) dL_tells_118 (by decide +kernel) (sl_idiv C dL_tells_119 (sl_bipush C (x := nI 80) dL_tells_120 (by decide +kernel) (sl_irem C dL_tells_122 (sl_cN C ok_L_two ⟨by decide, by decide, wu_1026, wu_0, by decide +kernel⟩ wu_1024 wu_1025 dL_tells_123 (sl_if_eq C dL_tells_126 (tgt := 274) (by decide) (fun _ _ _ h => h) (sl_aload_n C (i := 0) dL_tells_129 rfl (sl_bipush C (x := nI 48) dL_tells_130 (by decide +kernel) (sl_iload C dL_tells_132 (sl_sipush C (x := nI 400) dL_tells_134 (by decide +kernel) (sl_idiv C dL_tells_137 (sl_bipush C (x := nI 6) dL_tells_138 (by decide +kernel) (sl_irem C dL_tells_140 (sl_iadd C dL_tells_141 (sl_cN C ok_L_says ⟨by decide, by decide, wu_1022, wu_0, by decide +kernel⟩ wu_1020 wu_1021 dL_tells_142 (sl_if_eq C dL_tells_145 (tgt := 274) (by decide) (fun _ _ _ h => h) (sl_aload_n C (i := 0) dL_tells_148 rfl (sl_bipush C (x := nI 102) dL_tells_149 (by decide +kernel) (sl_cN C ok_L_says ⟨by decide, by decide, wu_1022, wu_0, by decide +kernel⟩ wu_1020 wu_1021 dL_tells_151 (sl_if_eq C dL_tells_154 (tgt := 274) (by decide) (fun _ _ _ h => h) (sl_aload_n C (i := 0) dL_tells_157 rfl (sl_iload C dL_tells_158 (sl_bipush C (x := nI 100) dL_tells_160 (by decide +kernel) (sl_irem C dL_tells_162 (sl_iload C dL_tells_163 (sl_bipush C (x := nI 15) dL_tells_165 (by decide +kernel) (sl_irem C dL_tells_167 (sl_iadd C dL_tells_168 (sl_bipush C (x := nI 100) dL_tells_169 (by decide +kernel) (sl_irem C dL_tells_171 (sl_cN C ok_L_two ⟨by decide, by decide, wu_1026, wu_0, by decide +kernel⟩ wu_1024 wu_1025 dL_tells_172 (sl_if_eq C dL_tells_175 (tgt := 274) (by decide) (fun _ _ _ h => h) (sl_aload_n C (i := 0) dL_tells_178 rfl (sl_bipush C (x := nI 6) dL_tells_179 (by decide +kernel) (sl_iload C dL_tells_181 (sl_bipush C (x := nI 7) dL_tells_183 (by decide +kernel) (sl_idiv C dL_tells_185 (sl_bipush C (x := nI 15) dL_tells_186 (by decide +kernel) (sl_irem C dL_tells_188 (sl_iadd C dL_tells_189 (sl_cN C ok_L_two ⟨by decide, by decide, wu_1026, wu_0, by decide +kernel⟩ wu_1024 wu_1025 dL_tells_190 (sl_if_eq C dL_tells_193 (tgt := 274) (by decide) (fun _ _ _ h => h) (sl_aload_n C (i := 0) dL_tells_196 rfl (sl_iconst C (x := nI 1) dL_tells_197 (by decide +kernel) (sl_iload C dL_tells_198 (sl_bipush C (x := nI 9) dL_tells_200 (by decide +kernel) (sl_idiv C dL_tells_202 (sl_bipush C (x := nI 9) dL_tells_203 (by decide +kernel) (sl_irem C dL_tells_205 (sl_iadd C dL_tells_206 (sl_cN C ok_L_two ⟨by decide, by decide, wu_1026, wu_0, by decide +kernel⟩ wu_1024 wu_1025 dL_tells_207 (sl_if_eq C dL_tells_210 (tgt := 274) (by decide) (fun _ _ _ h => h) (fun _ _ _ h => h)))))))))))))))))))))))))))))))))))))))))))))))))))))))
    (sl_aload_n C (i := 0) dL_tells_213 rfl (sl_bipush C (x := nI 119) dL_tells_214 (by decide +kernel) (sl_cN C ok_L_says ⟨by decide, by decide, wu_1022, wu_0, by decide +kernel⟩ wu_1020 wu_1021 dL_tells_216 (sl_if_eq C dL_tells_219 (tgt := 274) (by decide) (fun _ _ _ h => h) (sl_aload_n C (i := 0) dL_tells_222 rfl (sl_bipush C (x := nI 48) dL_tells_223 (by decide +kernel) (sl_iload C dL_tells_225 (sl_iadd C dL_tells_227 (sl_cN C ok_L_says ⟨by decide, by decide, wu_1022, wu_0, by decide +kernel⟩ wu_1020 wu_1021 dL_tells_228 (sl_if_eq C dL_tells_231 (tgt := 274) (by decide) (fun _ _ _ h => h) (sl_aload_n C (i := 0) dL_tells_234 rfl (sl_iload C dL_tells_235 (sl_iconst C (x := nI 2) dL_tells_237 (by decide +kernel) (sl_irem C dL_tells_238 (sl_if_ne C dL_tells_239 (tgt := 247) (by decide) (sl_bipush C (x := nI 43) dL_tells_247 (by decide +kernel) (fun _ _ _ h => h)) (sl_bipush C (x := nI 45) dL_tells_242 (by decide +kernel) (sl_goto C dL_tells_244 (tgt := 249) (by decide) (fun _ _ _ h => h))))))))))))))))))
    (sl_cN C ok_L_says ⟨by decide, by decide, wu_1022, wu_0, by decide +kernel⟩ wu_1020 wu_1021 dL_tells_249 (sl_if_eq C dL_tells_252 (tgt := 274) (by decide) (fun _ _ _ h => h) (sl_aload_n C (i := 0) dL_tells_255 rfl (sl_iload C dL_tells_256 (sl_bipush C (x := nI 13) dL_tells_258 (by decide +kernel) (sl_idiv C dL_tells_260 (sl_bipush C (x := nI 9) dL_tells_261 (by decide +kernel) (sl_irem C dL_tells_263 (sl_cN C ok_L_two ⟨by decide, by decide, wu_1026, wu_0, by decide +kernel⟩ wu_1024 wu_1025 dL_tells_264 (sl_if_eq C dL_tells_267 (tgt := 274) (by decide) (fun _ _ _ h => h) (sl_iconst C (x := nI 1) dL_tells_270 (by decide +kernel) (sl_goto C dL_tells_271 (tgt := 275) (by decide) (fun _ _ _ h => h)))))))))))))
    (sl_iconst C (x := nI 0) dL_tells_274 (by decide +kernel) (fun _ _ _ h => h))
    (sl_istore_n C (i := 3) dL_tells_275 rfl (by decide) (sl_iinc C (x := nI 1) dL_tells_276 (by decide +kernel) (by decide) (sl_goto C dL_tells_279 (tgt := 25) (by decide) (fun _ _ _ h => h))))
    (sl_iload_n C (i := 3) dL_tells_282 rfl (sl_if_eq C dL_tells_283 (tgt := 370) (by decide) (fun _ _ _ h => h) (sl_aload_n C (i := 0) dL_tells_286 rfl (sl_bipush C (x := nI 100) dL_tells_287 (by decide +kernel) (sl_cN C ok_L_says ⟨by decide, by decide, wu_1022, wu_0, by decide +kernel⟩ wu_1020 wu_1021 dL_tells_289 (sl_if_eq C dL_tells_292 (tgt := 370) (by decide) (fun _ _ _ h => h) (sl_aload_n C (i := 0) dL_tells_295 rfl (sl_bipush C (x := nI 48) dL_tells_296 (by decide +kernel) (sl_iload_n C (i := 1) dL_tells_298 rfl (sl_iconst C (x := nI 3) dL_tells_299 (by decide +kernel) (sl_irem C dL_tells_300 (sl_iadd C dL_tells_301 (sl_cN C ok_L_says ⟨by decide, by decide, wu_1022, wu_0, by decide +kernel⟩ wu_1020 wu_1021 dL_tells_302 (sl_if_eq C dL_tells_305 (tgt := 370) (by decide) (fun _ _ _ h => h) (sl_aload_n C (i := 0) dL_tells_308 rfl (sl_iconst C (x := nI 1) dL_tells_309 (by decide +kernel) (sl_iload_n C (i := 2) dL_tells_310 rfl (sl_bipush C (x := nI 60) dL_tells_311 (by decide +kernel) (sl_irem C dL_tells_313 (sl_iadd C dL_tells_314 (sl_cN C ok_L_two ⟨by decide, by decide, wu_1026, wu_0, by decide +kernel⟩ wu_1024 wu_1025 dL_tells_315 (sl_if_eq C dL_tells_318 (tgt := 370) (by decide) (fun _ _ _ h => h) (sl_aload_n C (i := 0) dL_tells_321 rfl (sl_bipush C (x := nI 48) dL_tells_322 (by decide +kernel) (sl_iload_n C (i := 1) dL_tells_324 rfl (sl_iconst C (x := nI 3) dL_tells_325 (by decide +kernel) (sl_idiv C dL_tells_326 (sl_iconst C (x := nI 4) dL_tells_327 (by decide +kernel) (sl_irem C dL_tells_328 (sl_iadd C dL_tells_329 (sl_cN C ok_L_says ⟨by decide, by decide, wu_1022, wu_0, by decide +kernel⟩ wu_1020 wu_1021 dL_tells_330 (sl_if_eq C dL_tells_333 (tgt := 370) (by decide) (fun _ _ _ h => h) (sl_aload_n C (i := 0) dL_tells_336 rfl (sl_bipush C (x := nI 114) dL_tells_337 (by decide +kernel) (sl_cN C ok_L_says ⟨by decide, by decide, wu_1022, wu_0, by decide +kernel⟩ wu_1020 wu_1021 dL_tells_339 (sl_if_eq C dL_tells_342 (tgt := 370) (by decide) (fun _ _ _ h => h) (sl_aload_n C (i := 0) dL_tells_345 rfl (sl_bipush C (x := nI 49) dL_tells_346 (by decide +kernel) (sl_iload_n C (i := 2) dL_tells_348 rfl (sl_iconst C (x := nI 5) dL_tells_349 (by decide +kernel) (sl_irem C dL_tells_350 (sl_iadd C dL_tells_351 (sl_cN C ok_L_says ⟨by decide, by decide, wu_1022, wu_0, by decide +kernel⟩ wu_1020 wu_1021 dL_tells_352 (sl_if_eq C dL_tells_355 (tgt := 370) (by decide) (fun _ _ _ h => h) (sl_aload_n C (i := 0) dL_tells_358 rfl (sl_cV C (d' := 5) rfl ⟨by decide, by decide, wu_1011, wu_1, by decide +kernel⟩ wu_1008 wu_1009 wu_1010 dL_tells_359 (cV_errorPosition hl) (sl_iconst C (x := -1) dL_tells_362 (by decide +kernel) (sl_icmp_ne C dL_tells_363 (tgt := 370) (by decide) (fun _ _ _ h => h) (fun _ _ _ h => h)))))))))))))))))))))))))))))))))))))))))))))))))
    (sl_iconst C (x := nI 1) dL_tells_366 (by decide +kernel) (sl_goto C dL_tells_367 (tgt := 371) (by decide) (fun _ _ _ h => h)))
    (sl_iconst C (x := nI 0) dL_tells_370 (by decide +kernel) (fun _ _ _ h => h))
    (sl_zr C hr dL_tells_371)
theorem dL_alike_0 : decode cL_alike 0 = .ok (.aload_n 0, 1) := by decide +kernel
theorem dL_alike_1 : decode cL_alike 1 = .ok (.invokestatic 139, 3) := by decide +kernel
theorem dL_alike_4 : decode cL_alike 4 = .ok (.aload_n 1, 1) := by decide +kernel
theorem dL_alike_5 : decode cL_alike 5 = .ok (.invokestatic 139, 3) := by decide +kernel
theorem dL_alike_8 : decode cL_alike 8 = .ok (.lcmp, 1) := by decide +kernel
theorem dL_alike_9 : decode cL_alike 9 = .ok (.ifCond .ne 229, 3) := by decide +kernel
theorem dL_alike_12 : decode cL_alike 12 = .ok (.aload_n 0, 1) := by decide +kernel
theorem dL_alike_13 : decode cL_alike 13 = .ok (.invokevirtual 214, 3) := by decide +kernel
theorem dL_alike_16 : decode cL_alike 16 = .ok (.aload_n 1, 1) := by decide +kernel
theorem dL_alike_17 : decode cL_alike 17 = .ok (.invokevirtual 214, 3) := by decide +kernel
theorem dL_alike_20 : decode cL_alike 20 = .ok (.if_icmp .ne 218, 3) := by decide +kernel
theorem dL_alike_23 : decode cL_alike 23 = .ok (.aload_n 0, 1) := by decide +kernel
theorem dL_alike_24 : decode cL_alike 24 = .ok (.iconst 1, 1) := by decide +kernel
theorem dL_alike_25 : decode cL_alike 25 = .ok (.iload_n 2, 1) := by decide +kernel
theorem dL_alike_26 : decode cL_alike 26 = .ok (.bipush 50, 2) := by decide +kernel
theorem dL_alike_28 : decode cL_alike 28 = .ok (.irem, 1) := by decide +kernel
theorem dL_alike_29 : decode cL_alike 29 = .ok (.iadd, 1) := by decide +kernel
theorem dL_alike_30 : decode cL_alike 30 = .ok (.iload_n 2, 1) := by decide +kernel
theorem dL_alike_31 : decode cL_alike 31 = .ok (.iconst 4, 1) := by decide +kernel
theorem dL_alike_32 : decode cL_alike 32 = .ok (.irem, 1) := by decide +kernel
theorem dL_alike_33 : decode cL_alike 33 = .ok (.invokestatic 165, 3) := by decide +kernel
theorem dL_alike_36 : decode cL_alike 36 = .ok (.aload_n 1, 1) := by decide +kernel
theorem dL_alike_37 : decode cL_alike 37 = .ok (.iconst 1, 1) := by decide +kernel
theorem dL_alike_38 : decode cL_alike 38 = .ok (.iload_n 2, 1) := by decide +kernel
theorem dL_alike_39 : decode cL_alike 39 = .ok (.bipush 50, 2) := by decide +kernel
theorem dL_alike_41 : decode cL_alike 41 = .ok (.irem, 1) := by decide +kernel
theorem dL_alike_42 : decode cL_alike 42 = .ok (.iadd, 1) := by decide +kernel
theorem dL_alike_43 : decode cL_alike 43 = .ok (.iload_n 2, 1) := by decide +kernel
theorem dL_alike_44 : decode cL_alike 44 = .ok (.iconst 4, 1) := by decide +kernel
theorem dL_alike_45 : decode cL_alike 45 = .ok (.irem, 1) := by decide +kernel
theorem dL_alike_46 : decode cL_alike 46 = .ok (.invokestatic 165, 3) := by decide +kernel
theorem dL_alike_49 : decode cL_alike 49 = .ok (.lcmp, 1) := by decide +kernel
theorem dL_alike_50 : decode cL_alike 50 = .ok (.ifCond .ne 188, 3) := by decide +kernel
theorem dL_alike_53 : decode cL_alike 53 = .ok (.aload_n 0, 1) := by decide +kernel
theorem dL_alike_54 : decode cL_alike 54 = .ok (.invokevirtual 209, 3) := by decide +kernel
theorem dL_alike_57 : decode cL_alike 57 = .ok (.aload_n 1, 1) := by decide +kernel
theorem dL_alike_58 : decode cL_alike 58 = .ok (.invokevirtual 209, 3) := by decide +kernel
theorem dL_alike_61 : decode cL_alike 61 = .ok (.if_icmp .ne 177, 3) := by decide +kernel
theorem dL_alike_64 : decode cL_alike 64 = .ok (.aload_n 0, 1) := by decide +kernel
theorem dL_alike_65 : decode cL_alike 65 = .ok (.iload_n 2, 1) := by decide +kernel
theorem dL_alike_66 : decode cL_alike 66 = .ok (.iconst 5, 1) := by decide +kernel
theorem dL_alike_67 : decode cL_alike 67 = .ok (.irem, 1) := by decide +kernel
theorem dL_alike_68 : decode cL_alike 68 = .ok (.bipush 20, 2) := by decide +kernel
theorem dL_alike_70 : decode cL_alike 70 = .ok (.invokestatic 167, 3) := by decide +kernel
theorem dL_alike_73 : decode cL_alike 73 = .ok (.aload_n 1, 1) := by decide +kernel
theorem dL_alike_74 : decode cL_alike 74 = .ok (.iload_n 2, 1) := by decide +kernel
theorem dL_alike_75 : decode cL_alike 75 = .ok (.iconst 5, 1) := by decide +kernel
theorem dL_alike_76 : decode cL_alike 76 = .ok (.irem, 1) := by decide +kernel
theorem dL_alike_77 : decode cL_alike 77 = .ok (.bipush 20, 2) := by decide +kernel
theorem dL_alike_79 : decode cL_alike 79 = .ok (.invokestatic 167, 3) := by decide +kernel
theorem dL_alike_82 : decode cL_alike 82 = .ok (.lcmp, 1) := by decide +kernel
theorem dL_alike_83 : decode cL_alike 83 = .ok (.ifCond .ne 155, 3) := by decide +kernel
theorem dL_alike_86 : decode cL_alike 86 = .ok (.aload_n 0, 1) := by decide +kernel
theorem dL_alike_87 : decode cL_alike 87 = .ok (.iload_n 2, 1) := by decide +kernel
theorem dL_alike_88 : decode cL_alike 88 = .ok (.iconst 5, 1) := by decide +kernel
theorem dL_alike_89 : decode cL_alike 89 = .ok (.irem, 1) := by decide +kernel
theorem dL_alike_90 : decode cL_alike 90 = .ok (.iload_n 2, 1) := by decide +kernel
theorem dL_alike_91 : decode cL_alike 91 = .ok (.bipush 50, 2) := by decide +kernel
theorem dL_alike_93 : decode cL_alike 93 = .ok (.irem, 1) := by decide +kernel
theorem dL_alike_94 : decode cL_alike 94 = .ok (.iload_n 2, 1) := by decide +kernel
theorem dL_alike_95 : decode cL_alike 95 = .ok (.bipush 7, 2) := by decide +kernel
theorem dL_alike_97 : decode cL_alike 97 = .ok (.irem, 1) := by decide +kernel
theorem dL_alike_98 : decode cL_alike 98 = .ok (.bipush 15, 2) := by decide +kernel
theorem dL_alike_100 : decode cL_alike 100 = .ok (.invokestatic 169, 3) := by decide +kernel
theorem dL_alike_103 : decode cL_alike 103 = .ok (.aload_n 1, 1) := by decide +kernel
theorem dL_alike_104 : decode cL_alike 104 = .ok (.iload_n 2, 1) := by decide +kernel
theorem dL_alike_105 : decode cL_alike 105 = .ok (.iconst 5, 1) := by decide +kernel
theorem dL_alike_106 : decode cL_alike 106 = .ok (.irem, 1) := by decide +kernel
theorem dL_alike_107 : decode cL_alike 107 = .ok (.iload_n 2, 1) := by decide +kernel
theorem dL_alike_108 : decode cL_alike 108 = .ok (.bipush 50, 2) := by decide +kernel
theorem dL_alike_110 : decode cL_alike 110 = .ok (.irem, 1) := by decide +kernel
theorem dL_alike_111 : decode cL_alike 111 = .ok (.iload_n 2, 1) := by decide +kernel
theorem dL_alike_112 : decode cL_alike 112 = .ok (.bipush 7, 2) := by decide +kernel
theorem dL_alike_114 : decode cL_alike 114 = .ok (.irem, 1) := by decide +kernel
theorem dL_alike_115 : decode cL_alike 115 = .ok (.bipush 15, 2) := by decide +kernel
theorem dL_alike_117 : decode cL_alike 117 = .ok (.invokestatic 169, 3) := by decide +kernel
theorem dL_alike_120 : decode cL_alike 120 = .ok (.lcmp, 1) := by decide +kernel
theorem dL_alike_121 : decode cL_alike 121 = .ok (.ifCond .ne 117, 3) := by decide +kernel
theorem dL_alike_124 : decode cL_alike 124 = .ok (.aload_n 0, 1) := by decide +kernel
theorem dL_alike_125 : decode cL_alike 125 = .ok (.iload_n 2, 1) := by decide +kernel
theorem dL_alike_126 : decode cL_alike 126 = .ok (.iconst 5, 1) := by decide +kernel
theorem dL_alike_127 : decode cL_alike 127 = .ok (.irem, 1) := by decide +kernel
theorem dL_alike_128 : decode cL_alike 128 = .ok (.iload_n 2, 1) := by decide +kernel
theorem dL_alike_129 : decode cL_alike 129 = .ok (.iconst 4, 1) := by decide +kernel
theorem dL_alike_130 : decode cL_alike 130 = .ok (.irem, 1) := by decide +kernel
theorem dL_alike_131 : decode cL_alike 131 = .ok (.invokestatic 161, 3) := by decide +kernel
theorem dL_alike_134 : decode cL_alike 134 = .ok (.aload_n 1, 1) := by decide +kernel
theorem dL_alike_135 : decode cL_alike 135 = .ok (.iload_n 2, 1) := by decide +kernel
theorem dL_alike_136 : decode cL_alike 136 = .ok (.iconst 5, 1) := by decide +kernel
theorem dL_alike_137 : decode cL_alike 137 = .ok (.irem, 1) := by decide +kernel
theorem dL_alike_138 : decode cL_alike 138 = .ok (.iload_n 2, 1) := by decide +kernel
theorem dL_alike_139 : decode cL_alike 139 = .ok (.iconst 4, 1) := by decide +kernel
theorem dL_alike_140 : decode cL_alike 140 = .ok (.irem, 1) := by decide +kernel
theorem dL_alike_141 : decode cL_alike 141 = .ok (.invokestatic 161, 3) := by decide +kernel
theorem dL_alike_144 : decode cL_alike 144 = .ok (.lcmp, 1) := by decide +kernel
theorem dL_alike_145 : decode cL_alike 145 = .ok (.ifCond .ne 93, 3) := by decide +kernel
theorem dL_alike_148 : decode cL_alike 148 = .ok (.aload_n 0, 1) := by decide +kernel
theorem dL_alike_149 : decode cL_alike 149 = .ok (.iload_n 2, 1) := by decide +kernel
theorem dL_alike_150 : decode cL_alike 150 = .ok (.bipush 100, 2) := by decide +kernel
theorem dL_alike_152 : decode cL_alike 152 = .ok (.irem, 1) := by decide +kernel
theorem dL_alike_153 : decode cL_alike 153 = .ok (.invokestatic 163, 3) := by decide +kernel
theorem dL_alike_156 : decode cL_alike 156 = .ok (.aload_n 1, 1) := by decide +kernel
theorem dL_alike_157 : decode cL_alike 157 = .ok (.iload_n 2, 1) := by decide +kernel
theorem dL_alike_158 : decode cL_alike 158 = .ok (.bipush 100, 2) := by decide +kernel
theorem dL_alike_160 : decode cL_alike 160 = .ok (.irem, 1) := by decide +kernel
theorem dL_alike_161 : decode cL_alike 161 = .ok (.invokestatic 163, 3) := by decide +kernel
theorem dL_alike_164 : decode cL_alike 164 = .ok (.lcmp, 1) := by decide +kernel
theorem dL_alike_165 : decode cL_alike 165 = .ok (.ifCond .ne 73, 3) := by decide +kernel
theorem dL_alike_168 : decode cL_alike 168 = .ok (.aload_n 0, 1) := by decide +kernel
theorem dL_alike_169 : decode cL_alike 169 = .ok (.iload_n 2, 1) := by decide +kernel
theorem dL_alike_170 : decode cL_alike 170 = .ok (.bipush 9, 2) := by decide +kernel
theorem dL_alike_172 : decode cL_alike 172 = .ok (.irem, 1) := by decide +kernel
theorem dL_alike_173 : decode cL_alike 173 = .ok (.iload_n 2, 1) := by decide +kernel
theorem dL_alike_174 : decode cL_alike 174 = .ok (.iconst 3, 1) := by decide +kernel
theorem dL_alike_175 : decode cL_alike 175 = .ok (.irem, 1) := by decide +kernel
theorem dL_alike_176 : decode cL_alike 176 = .ok (.invokestatic 137, 3) := by decide +kernel
theorem dL_alike_179 : decode cL_alike 179 = .ok (.aload_n 1, 1) := by decide +kernel
theorem dL_alike_180 : decode cL_alike 180 = .ok (.iload_n 2, 1) := by decide +kernel
theorem dL_alike_181 : decode cL_alike 181 = .ok (.bipush 9, 2) := by decide +kernel
theorem dL_alike_183 : decode cL_alike 183 = .ok (.irem, 1) := by decide +kernel
theorem dL_alike_184 : decode cL_alike 184 = .ok (.iload_n 2, 1) := by decide +kernel
theorem dL_alike_185 : decode cL_alike 185 = .ok (.iconst 3, 1) := by decide +kernel
theorem dL_alike_186 : decode cL_alike 186 = .ok (.irem, 1) := by decide +kernel
theorem dL_alike_187 : decode cL_alike 187 = .ok (.invokestatic 137, 3) := by decide +kernel
theorem dL_alike_190 : decode cL_alike 190 = .ok (.lcmp, 1) := by decide +kernel
theorem dL_alike_191 : decode cL_alike 191 = .ok (.ifCond .ne 47, 3) := by decide +kernel
theorem dL_alike_194 : decode cL_alike 194 = .ok (.aload_n 0, 1) := by decide +kernel
theorem dL_alike_195 : decode cL_alike 195 = .ok (.iload_n 2, 1) := by decide +kernel
theorem dL_alike_196 : decode cL_alike 196 = .ok (.i2l, 1) := by decide +kernel
theorem dL_alike_197 : decode cL_alike 197 = .ok (.bipush 15, 2) := by decide +kernel
theorem dL_alike_199 : decode cL_alike 199 = .ok (.invokestatic 180, 3) := by decide +kernel
theorem dL_alike_202 : decode cL_alike 202 = .ok (.aload_n 1, 1) := by decide +kernel
theorem dL_alike_203 : decode cL_alike 203 = .ok (.iload_n 2, 1) := by decide +kernel
theorem dL_alike_204 : decode cL_alike 204 = .ok (.i2l, 1) := by decide +kernel
theorem dL_alike_205 : decode cL_alike 205 = .ok (.bipush 15, 2) := by decide +kernel
theorem dL_alike_207 : decode cL_alike 207 = .ok (.invokestatic 180, 3) := by decide +kernel
theorem dL_alike_210 : decode cL_alike 210 = .ok (.lcmp, 1) := by decide +kernel
theorem dL_alike_211 : decode cL_alike 211 = .ok (.ifCond .ne 27, 3) := by decide +kernel
theorem dL_alike_214 : decode cL_alike 214 = .ok (.aload_n 0, 1) := by decide +kernel
theorem dL_alike_215 : decode cL_alike 215 = .ok (.iconst 3, 1) := by decide +kernel
theorem dL_alike_216 : decode cL_alike 216 = .ok (.ldc2_w 217, 3) := by decide +kernel
theorem dL_alike_219 : decode cL_alike 219 = .ok (.invokestatic 174, 3) := by decide +kernel
theorem dL_alike_222 : decode cL_alike 222 = .ok (.aload_n 1, 1) := by decide +kernel
theorem dL_alike_223 : decode cL_alike 223 = .ok (.iconst 3, 1) := by decide +kernel
theorem dL_alike_224 : decode cL_alike 224 = .ok (.ldc2_w 217, 3) := by decide +kernel
theorem dL_alike_227 : decode cL_alike 227 = .ok (.invokestatic 174, 3) := by decide +kernel
theorem dL_alike_230 : decode cL_alike 230 = .ok (.lcmp, 1) := by decide +kernel
theorem dL_alike_231 : decode cL_alike 231 = .ok (.ifCond .ne 7, 3) := by decide +kernel
theorem dL_alike_234 : decode cL_alike 234 = .ok (.iconst 1, 1) := by decide +kernel
theorem dL_alike_235 : decode cL_alike 235 = .ok (.goto 4, 3) := by decide +kernel
theorem dL_alike_238 : decode cL_alike 238 = .ok (.iconst 0, 1) := by decide +kernel
theorem dL_alike_239 : decode cL_alike 239 = .ok (.ireturn, 1) := by decide +kernel
def bL_alike_0 (mc : Nat) (s_L_now : la_S) (s_L_coming : la_S) (s_L_lacks : la_S) (s_L_ifDelivered : la_S) (s_L_landing : la_S) (s_L_finds : la_S) (s_L_back : la_S) (s_L_simulate : la_S) (s_L_script : la_S) (M : Nat → la_P) (K : Option Value → (Nat → aS) → Prop) : la_P := la_ald 0 (la_cN mc 200 1 s_L_now (la_ald 1 (la_cN mc 200 1 s_L_now (la_lcmp (la_if1 (fun x => ¬ x = 0) (M 238) (la_ald 0 (la_cV mc c_errorPosition (la_ald 1 (la_cV mc c_errorPosition (la_if2 (fun x y => ¬ x = y) (M 238) (la_ald 0 (la_ci (nI 1) (la_ild 2 (la_ci (nI 50) (la_d2 (fun x y => x - x / y * y) (la_b2 (fun x y => x + y) (la_ild 2 (la_ci (nI 4) (la_d2 (fun x y => x - x / y * y) (la_cN mc 1 3 s_L_coming (la_ald 1 (la_ci (nI 1) (la_ild 2 (la_ci (nI 50) (la_d2 (fun x y => x - x / y * y) (la_b2 (fun x y => x + y) (la_ild 2 (la_ci (nI 4) (la_d2 (fun x y => x - x / y * y) (la_cN mc 1 3 s_L_coming (la_lcmp (la_if1 (fun x => ¬ x = 0) (M 238) (la_ald 0 (la_cV mc c_firstGap (la_ald 1 (la_cV mc c_firstGap (la_if2 (fun x y => ¬ x = y) (M 238) (la_ald 0 (la_ild 2 (la_ci (nI 5) (la_d2 (fun x y => x - x / y * y) (la_ci (nI 20) (la_cN mc 1 3 s_L_lacks (la_ald 1 (la_ild 2 (la_ci (nI 5) (la_d2 (fun x y => x - x / y * y) (la_ci (nI 20) (la_cN mc 1 3 s_L_lacks (la_lcmp (la_if1 (fun x => ¬ x = 0) (M 238) (M 86))))))))))))))))))))))))))))))))))))))))))))))))))))
def bL_alike_86 (mc : Nat) (s_L_now : la_S) (s_L_coming : la_S) (s_L_lacks : la_S) (s_L_ifDelivered : la_S) (s_L_landing : la_S) (s_L_finds : la_S) (s_L_back : la_S) (s_L_simulate : la_S) (s_L_script : la_S) (M : Nat → la_P) (K : Option Value → (Nat → aS) → Prop) : la_P := la_ald 0 (la_ild 2 (la_ci (nI 5) (la_d2 (fun x y => x - x / y * y) (la_ild 2 (la_ci (nI 50) (la_d2 (fun x y => x - x / y * y) (la_ild 2 (la_ci (nI 7) (la_d2 (fun x y => x - x / y * y) (la_ci (nI 15) (la_cN mc 1 5 s_L_ifDelivered (la_ald 1 (la_ild 2 (la_ci (nI 5) (la_d2 (fun x y => x - x / y * y) (la_ild 2 (la_ci (nI 50) (la_d2 (fun x y => x - x / y * y) (la_ild 2 (la_ci (nI 7) (la_d2 (fun x y => x - x / y * y) (la_ci (nI 15) (la_cN mc 1 5 s_L_ifDelivered (la_lcmp (la_if1 (fun x => ¬ x = 0) (M 238) (la_ald 0 (la_ild 2 (la_ci (nI 5) (la_d2 (fun x y => x - x / y * y) (la_ild 2 (la_ci (nI 4) (la_d2 (fun x y => x - x / y * y) (la_cN mc 1 3 s_L_landing (la_ald 1 (la_ild 2 (la_ci (nI 5) (la_d2 (fun x y => x - x / y * y) (la_ild 2 (la_ci (nI 4) (la_d2 (fun x y => x - x / y * y) (la_cN mc 1 3 s_L_landing (la_lcmp (la_if1 (fun x => ¬ x = 0) (M 238) (la_ald 0 (la_ild 2 (la_ci (nI 100) (la_d2 (fun x y => x - x / y * y) (la_cN mc 1 2 s_L_finds (la_ald 1 (la_ild 2 (la_ci (nI 100) (la_d2 (fun x y => x - x / y * y) (la_cN mc 1 2 s_L_finds (la_lcmp (la_if1 (fun x => ¬ x = 0) (M 238) (M 168))))))))))))))))))))))))))))))))))))))))))))))))))))))))
def bL_alike_168 (mc : Nat) (s_L_now : la_S) (s_L_coming : la_S) (s_L_lacks : la_S) (s_L_ifDelivered : la_S) (s_L_landing : la_S) (s_L_finds : la_S) (s_L_back : la_S) (s_L_simulate : la_S) (s_L_script : la_S) (M : Nat → la_P) (K : Option Value → (Nat → aS) → Prop) : la_P := la_ald 0 (la_ild 2 (la_ci (nI 9) (la_d2 (fun x y => x - x / y * y) (la_ild 2 (la_ci (nI 3) (la_d2 (fun x y => x - x / y * y) (la_cN mc 1 3 s_L_back (la_ald 1 (la_ild 2 (la_ci (nI 9) (la_d2 (fun x y => x - x / y * y) (la_ild 2 (la_ci (nI 3) (la_d2 (fun x y => x - x / y * y) (la_cN mc 1 3 s_L_back (la_lcmp (la_if1 (fun x => ¬ x = 0) (M 238) (la_ald 0 (la_ild 2 (la_i2l (la_ci (nI 15) (la_cN mc 1 3 s_L_simulate (la_ald 1 (la_ild 2 (la_i2l (la_ci (nI 15) (la_cN mc 1 3 s_L_simulate (la_lcmp (la_if1 (fun x => ¬ x = 0) (M 238) (la_ald 0 (la_ci (nI 3) (la_cl (100523011060007) (la_cN mc 1 3 s_L_script (la_ald 1 (la_ci (nI 3) (la_cl (100523011060007) (la_cN mc 1 3 s_L_script (la_lcmp (la_if1 (fun x => ¬ x = 0) (M 238) (la_ci (nI 1) (M 239)))))))))))))))))))))))))))))))))))))))))
def bL_alike_238 (mc : Nat) (s_L_now : la_S) (s_L_coming : la_S) (s_L_lacks : la_S) (s_L_ifDelivered : la_S) (s_L_landing : la_S) (s_L_finds : la_S) (s_L_back : la_S) (s_L_simulate : la_S) (s_L_script : la_S) (M : Nat → la_P) (K : Option Value → (Nat → aS) → Prop) : la_P := la_ci (nI 0) (M 239)
def bL_alike_239 (mc : Nat) (s_L_now : la_S) (s_L_coming : la_S) (s_L_lacks : la_S) (s_L_ifDelivered : la_S) (s_L_landing : la_S) (s_L_finds : la_S) (s_L_back : la_S) (s_L_simulate : la_S) (s_L_script : la_S) (M : Nat → la_P) (K : Option Value → (Nat → aS) → Prop) : la_P := la_zr mc K
set_option maxRecDepth 40000 in
set_option maxHeartbeats 8000000 in
theorem vc_L_alike {l : Launch} (hl : l.stackTraces = false) {Y : lW} (hw : lWo Y) {A : Nat → aS} {As : List Value} {K : Option Value → (Nat → aS) → Prop} {s_L_now : la_S} (ok_L_now : la_Ok l yL_now (Cond.code yL_now cL_now 6 (some .long)) 9 (30 * 9) 200 s_L_now) {s_L_coming : la_S} (ok_L_coming : la_Ok l yL_coming (Cond.codeWith yL_coming cL_coming 4 (some .long) [(0, 7, 8, 15)]) 8 (30 * 8) 1 s_L_coming) {s_L_lacks : la_S} (ok_L_lacks : la_Ok l yL_lacks (Cond.codeWith yL_lacks cL_lacks 4 (some .long) [(0, 7, 8, 34), (0, 7, 13, 15)]) 8 (30 * 8) 1 s_L_lacks) {s_L_ifDelivered : la_S} (ok_L_ifDelivered : la_Ok l yL_ifDelivered (Cond.codeWith yL_ifDelivered cL_ifDelivered 6 (some .long) [(0, 10, 11, 34), (0, 10, 17, 15), (0, 10, 23, 19)]) 8 (30 * 8) 1 s_L_ifDelivered) {s_L_landing : la_S} (ok_L_landing : la_Ok l yL_landing (Cond.codeWith yL_landing cL_landing 4 (some .long) [(0, 7, 8, 34), (0, 7, 13, 15)]) 8 (30 * 8) 1 s_L_landing) {s_L_finds : la_S} (ok_L_finds : la_Ok l yL_finds (Cond.codeWith yL_finds cL_finds 3 (some .long) [(0, 6, 7, 15)]) 8 (30 * 8) 1 s_L_finds) {s_L_back : la_S} (ok_L_back : la_Ok l yL_back (Cond.codeWith yL_back cL_back 4 (some .long) [(0, 7, 8, 15)]) 8 (30 * 8) 1 s_L_back) {s_L_simulate : la_S} (ok_L_simulate : la_Ok l yL_simulate (Cond.codeWith yL_simulate cL_simulate 5 (some .long) [(0, 7, 8, 15)]) 8 (30 * 8) 1 s_L_simulate) {s_L_script : la_S} (ok_L_script : la_Ok l yL_script (Cond.codeWith yL_script cL_script 5 (some .long) [(0, 7, 8, 15)]) 8 (30 * 8) 1 s_L_script) (hlen : (ab_xl As).length ≤ 3) (h : ∀ M : Nat → la_P, (∀ L st X, bL_alike_0 500 s_L_now s_L_coming s_L_lacks s_L_ifDelivered s_L_landing s_L_finds s_L_back s_L_simulate s_L_script M K L st X → M 0 L st X) → (∀ L st X, bL_alike_86 500 s_L_now s_L_coming s_L_lacks s_L_ifDelivered s_L_landing s_L_finds s_L_back s_L_simulate s_L_script M K L st X → M 86 L st X) → (∀ L st X, bL_alike_168 500 s_L_now s_L_coming s_L_lacks s_L_ifDelivered s_L_landing s_L_finds s_L_back s_L_simulate s_L_script M K L st X → M 168 L st X) → (∀ L st X, bL_alike_238 500 s_L_now s_L_coming s_L_lacks s_L_ifDelivered s_L_landing s_L_finds s_L_back s_L_simulate s_L_script M K L st X → M 238 L st X) → (∀ L st X, bL_alike_239 500 s_L_now s_L_coming s_L_lacks s_L_ifDelivered s_L_landing s_L_finds s_L_back s_L_simulate s_L_script M K L st X → M 239 L st X) → M 0 (ab_pd 3 (ab_xl As)) [] (A, 0)) : la_Met l yL_alike (Cond.code yL_alike cL_alike 3 (some .boolean)) 10 (30 * 10) 500 Y A As K := by
  refine la_enter (by decide) hl hw hlen ?_
  intro p e R s m args below meth c C hr
  exact h _ (sl_aload_n C (i := 0) dL_alike_0 rfl (sl_cN C ok_L_now ⟨by decide, by decide, wu_649, wu_0, by decide +kernel⟩ wu_647 wu_648 dL_alike_1 (sl_aload_n C (i := 1) dL_alike_4 rfl (sl_cN C ok_L_now ⟨by decide, by decide, wu_649, wu_0, by decide +kernel⟩ wu_647 wu_648 dL_alike_5 (sl_lcmp C dL_alike_8 (sl_if_ne C dL_alike_9 (tgt := 238) (by decide) (fun _ _ _ h => h) (sl_aload_n C (i := 0) dL_alike_12 rfl (sl_cV C (d' := 5) rfl ⟨by decide, by decide, wu_1011, wu_1, by decide +kernel⟩ wu_1008 wu_1009 wu_1010 dL_alike_13 (cV_errorPosition hl) (sl_aload_n C (i := 1) dL_alike_16 rfl (sl_cV C (d' := 5) rfl ⟨by decide, by decide, wu_1011, wu_1, by decide +kernel⟩ wu_1008 wu_1009 wu_1010 dL_alike_17 (cV_errorPosition hl) (sl_icmp_ne C dL_alike_20 (tgt := 238) (by decide) (fun _ _ _ h => h) (sl_aload_n C (i := 0) dL_alike_23 rfl (sl_iconst C (x := nI 1) dL_alike_24 (by decide +kernel) (sl_iload_n C (i := 2) dL_alike_25 rfl (sl_bipush C (x := nI 50) dL_alike_26 (by decide +kernel) (sl_irem C dL_alike_28 (sl_iadd C dL_alike_29 (sl_iload_n C (i := 2) dL_alike_30 rfl (sl_iconst C (x := nI 4) dL_alike_31 (by decide +kernel) (sl_irem C dL_alike_32 (sl_cW C ok_L_coming ⟨by decide, by decide, wu_898, wu_0, by decide +kernel⟩ wu_896 wu_897 dL_alike_33 (sl_aload_n C (i := 1) dL_alike_36 rfl (sl_iconst C (x := nI 1) dL_alike_37 (by decide +kernel) (sl_iload_n C (i := 2) dL_alike_38 rfl (sl_bipush C (x := nI 50) dL_alike_39 (by decide +kernel) (sl_irem C dL_alike_41 (sl_iadd C dL_alike_42 (sl_iload_n C (i := 2) dL_alike_43 rfl (sl_iconst C (x := nI 4) dL_alike_44 (by decide +kernel) (sl_irem C dL_alike_45 (sl_cW C ok_L_coming ⟨by decide, by decide, wu_898, wu_0, by decide +kernel⟩ wu_896 wu_897 dL_alike_46 (sl_lcmp C dL_alike_49 (sl_if_ne C dL_alike_50 (tgt := 238) (by decide) (fun _ _ _ h => h) (sl_aload_n C (i := 0) dL_alike_53 rfl (sl_cV C (d' := 6) rfl ⟨by decide, by decide, wu_1003, wu_1, by decide +kernel⟩ wu_1000 wu_1001 wu_1002 dL_alike_54 (cV_firstGap hl) (sl_aload_n C (i := 1) dL_alike_57 rfl (sl_cV C (d' := 6) rfl ⟨by decide, by decide, wu_1003, wu_1, by decide +kernel⟩ wu_1000 wu_1001 wu_1002 dL_alike_58 (cV_firstGap hl) (sl_icmp_ne C dL_alike_61 (tgt := 238) (by decide) (fun _ _ _ h => h) (sl_aload_n C (i := 0) dL_alike_64 rfl (sl_iload_n C (i := 2) dL_alike_65 rfl (sl_iconst C (x := nI 5) dL_alike_66 (by decide +kernel) (sl_irem C dL_alike_67 (sl_bipush C (x := nI 20) dL_alike_68 (by decide +kernel) (sl_cW C ok_L_lacks ⟨by decide, by decide, wu_905, wu_0, by decide +kernel⟩ wu_903 wu_904 dL_alike_70 (sl_aload_n C (i := 1) dL_alike_73 rfl (sl_iload_n C (i := 2) dL_alike_74 rfl (sl_iconst C (x := nI 5) dL_alike_75 (by decide +kernel) (sl_irem C dL_alike_76 (sl_bipush C (x := nI 20) dL_alike_77 (by decide +kernel) (sl_cW C ok_L_lacks ⟨by decide, by decide, wu_905, wu_0, by decide +kernel⟩ wu_903 wu_904 dL_alike_79 (sl_lcmp C dL_alike_82 (sl_if_ne C dL_alike_83 (tgt := 238) (by decide) (fun _ _ _ h => h) (fun _ _ _ h => h)))))))))))))))))))))))))))))))))))))))))))))))))))))
    (sl_aload_n C (i := 0) dL_alike_86 rfl (sl_iload_n C (i := 2) dL_alike_87 rfl (sl_iconst C (x := nI 5) dL_alike_88 (by decide +kernel) (sl_irem C dL_alike_89 (sl_iload_n C (i := 2) dL_alike_90 rfl (sl_bipush C (x := nI 50) dL_alike_91 (by decide +kernel) (sl_irem C dL_alike_93 (sl_iload_n C (i := 2) dL_alike_94 rfl (sl_bipush C (x := nI 7) dL_alike_95 (by decide +kernel) (sl_irem C dL_alike_97 (sl_bipush C (x := nI 15) dL_alike_98 (by decide +kernel) (sl_cW C ok_L_ifDelivered ⟨by decide, by decide, wu_917, wu_0, by decide +kernel⟩ wu_915 wu_916 dL_alike_100 (sl_aload_n C (i := 1) dL_alike_103 rfl (sl_iload_n C (i := 2) dL_alike_104 rfl (sl_iconst C (x := nI 5) dL_alike_105 (by decide +kernel) (sl_irem C dL_alike_106 (sl_iload_n C (i := 2) dL_alike_107 rfl (sl_bipush C (x := nI 50) dL_alike_108 (by decide +kernel) (sl_irem C dL_alike_110 (sl_iload_n C (i := 2) dL_alike_111 rfl (sl_bipush C (x := nI 7) dL_alike_112 (by decide +kernel) (sl_irem C dL_alike_114 (sl_bipush C (x := nI 15) dL_alike_115 (by decide +kernel) (sl_cW C ok_L_ifDelivered ⟨by decide, by decide, wu_917, wu_0, by decide +kernel⟩ wu_915 wu_916 dL_alike_117 (sl_lcmp C dL_alike_120 (sl_if_ne C dL_alike_121 (tgt := 238) (by decide) (fun _ _ _ h => h) (sl_aload_n C (i := 0) dL_alike_124 rfl (sl_iload_n C (i := 2) dL_alike_125 rfl (sl_iconst C (x := nI 5) dL_alike_126 (by decide +kernel) (sl_irem C dL_alike_127 (sl_iload_n C (i := 2) dL_alike_128 rfl (sl_iconst C (x := nI 4) dL_alike_129 (by decide +kernel) (sl_irem C dL_alike_130 (sl_cW C ok_L_landing ⟨by decide, by decide, wu_882, wu_0, by decide +kernel⟩ wu_880 wu_881 dL_alike_131 (sl_aload_n C (i := 1) dL_alike_134 rfl (sl_iload_n C (i := 2) dL_alike_135 rfl (sl_iconst C (x := nI 5) dL_alike_136 (by decide +kernel) (sl_irem C dL_alike_137 (sl_iload_n C (i := 2) dL_alike_138 rfl (sl_iconst C (x := nI 4) dL_alike_139 (by decide +kernel) (sl_irem C dL_alike_140 (sl_cW C ok_L_landing ⟨by decide, by decide, wu_882, wu_0, by decide +kernel⟩ wu_880 wu_881 dL_alike_141 (sl_lcmp C dL_alike_144 (sl_if_ne C dL_alike_145 (tgt := 238) (by decide) (fun _ _ _ h => h) (sl_aload_n C (i := 0) dL_alike_148 rfl (sl_iload_n C (i := 2) dL_alike_149 rfl (sl_bipush C (x := nI 100) dL_alike_150 (by decide +kernel) (sl_irem C dL_alike_152 (sl_cW C ok_L_finds ⟨by decide, by decide, wu_890, wu_0, by decide +kernel⟩ wu_888 wu_889 dL_alike_153 (sl_aload_n C (i := 1) dL_alike_156 rfl (sl_iload_n C (i := 2) dL_alike_157 rfl (sl_bipush C (x := nI 100) dL_alike_158 (by decide +kernel) (sl_irem C dL_alike_160 (sl_cW C ok_L_finds ⟨by decide, by decide, wu_890, wu_0, by decide +kernel⟩ wu_888 wu_889 dL_alike_161 (sl_lcmp C dL_alike_164 (sl_if_ne C dL_alike_165 (tgt := 238) (by decide) (fun _ _ _ h => h) (fun _ _ _ h => h)))))))))))))))))))))))))))))))))))))))))))))))))))))))))
    (sl_aload_n C (i := 0) dL_alike_168 rfl (sl_iload_n C (i := 2) dL_alike_169 rfl (sl_bipush C (x := nI 9) dL_alike_170 (by decide +kernel) (sl_irem C dL_alike_172 (sl_iload_n C (i := 2) dL_alike_173 rfl (sl_iconst C (x := nI 3) dL_alike_174 (by decide +kernel) (sl_irem C dL_alike_175 (sl_cW C ok_L_back ⟨by decide, by decide, wu_764, wu_0, by decide +kernel⟩ wu_762 wu_763 dL_alike_176 (sl_aload_n C (i := 1) dL_alike_179 rfl (sl_iload_n C (i := 2) dL_alike_180 rfl (sl_bipush C (x := nI 9) dL_alike_181 (by decide +kernel) (sl_irem C dL_alike_183 (sl_iload_n C (i := 2) dL_alike_184 rfl (sl_iconst C (x := nI 3) dL_alike_185 (by decide +kernel) (sl_irem C dL_alike_186 (sl_cW C ok_L_back ⟨by decide, by decide, wu_764, wu_0, by decide +kernel⟩ wu_762 wu_763 dL_alike_187 (sl_lcmp C dL_alike_190 (sl_if_ne C dL_alike_191 (tgt := 238) (by decide) (fun _ _ _ h => h) (sl_aload_n C (i := 0) dL_alike_194 rfl (sl_iload_n C (i := 2) dL_alike_195 rfl (sl_i2l C dL_alike_196 (sl_bipush C (x := nI 15) dL_alike_197 (by decide +kernel) (sl_cW C ok_L_simulate ⟨by decide, by decide, wu_948, wu_0, by decide +kernel⟩ wu_946 wu_947 dL_alike_199 (sl_aload_n C (i := 1) dL_alike_202 rfl (sl_iload_n C (i := 2) dL_alike_203 rfl (sl_i2l C dL_alike_204 (sl_bipush C (x := nI 15) dL_alike_205 (by decide +kernel) (sl_cW C ok_L_simulate ⟨by decide, by decide, wu_948, wu_0, by decide +kernel⟩ wu_946 wu_947 dL_alike_207 (sl_lcmp C dL_alike_210 (sl_if_ne C dL_alike_211 (tgt := 238) (by decide) (fun _ _ _ h => h) (sl_aload_n C (i := 0) dL_alike_214 rfl (sl_iconst C (x := nI 3) dL_alike_215 (by decide +kernel) (sl_ldc2 C (x := 100523011060007) dL_alike_216 wu_1012 (sl_cW C ok_L_script ⟨by decide, by decide, wu_925, wu_0, by decide +kernel⟩ wu_923 wu_924 dL_alike_219 (sl_aload_n C (i := 1) dL_alike_222 rfl (sl_iconst C (x := nI 3) dL_alike_223 (by decide +kernel) (sl_ldc2 C (x := 100523011060007) dL_alike_224 wu_1012 (sl_cW C ok_L_script ⟨by decide, by decide, wu_925, wu_0, by decide +kernel⟩ wu_923 wu_924 dL_alike_227 (sl_lcmp C dL_alike_230 (sl_if_ne C dL_alike_231 (tgt := 238) (by decide) (fun _ _ _ h => h) (sl_iconst C (x := nI 1) dL_alike_234 (by decide +kernel) (sl_goto C dL_alike_235 (tgt := 239) (by decide) (fun _ _ _ h => h)))))))))))))))))))))))))))))))))))))))))))
    (sl_iconst C (x := nI 0) dL_alike_238 (by decide +kernel) (fun _ _ _ h => h))
    (sl_zr C hr dL_alike_239)
theorem dL_act_0 : decode cL_act 0 = .ok (.iload_n 2, 1) := by decide +kernel
theorem dL_act_1 : decode cL_act 1 = .ok (.iconst 4, 1) := by decide +kernel
theorem dL_act_2 : decode cL_act 2 = .ok (.idiv, 1) := by decide +kernel
theorem dL_act_3 : decode cL_act 3 = .ok (.istore_n 3, 1) := by decide +kernel
theorem dL_act_4 : decode cL_act 4 = .ok (.aload_n 0, 1) := by decide +kernel
theorem dL_act_5 : decode cL_act 5 = .ok (.iconst 0, 1) := by decide +kernel
theorem dL_act_6 : decode cL_act 6 = .ok (.invokestatic 119, 3) := by decide +kernel
theorem dL_act_9 : decode cL_act 9 = .ok (.l2i, 1) := by decide +kernel
theorem dL_act_10 : decode cL_act 10 = .ok (.istore 4, 2) := by decide +kernel
theorem dL_act_12 : decode cL_act 12 = .ok (.iload 4, 2) := by decide +kernel
theorem dL_act_14 : decode cL_act 14 = .ok (.ifCond .eq 10, 3) := by decide +kernel
theorem dL_act_17 : decode cL_act 17 = .ok (.iload_n 3, 1) := by decide +kernel
theorem dL_act_18 : decode cL_act 18 = .ok (.bipush 13, 2) := by decide +kernel
theorem dL_act_20 : decode cL_act 20 = .ok (.irem, 1) := by decide +kernel
theorem dL_act_21 : decode cL_act 21 = .ok (.ifCond .ne 9, 3) := by decide +kernel
theorem dL_act_24 : decode cL_act 24 = .ok (.iload_n 3, 1) := by decide +kernel
theorem dL_act_25 : decode cL_act 25 = .ok (.iconst 5, 1) := by decide +kernel
theorem dL_act_26 : decode cL_act 26 = .ok (.irem, 1) := by decide +kernel
theorem dL_act_27 : decode cL_act 27 = .ok (.goto 7, 3) := by decide +kernel
theorem dL_act_30 : decode cL_act 30 = .ok (.iload_n 3, 1) := by decide +kernel
theorem dL_act_31 : decode cL_act 31 = .ok (.iload 4, 2) := by decide +kernel
theorem dL_act_33 : decode cL_act 33 = .ok (.irem, 1) := by decide +kernel
theorem dL_act_34 : decode cL_act 34 = .ok (.istore 5, 2) := by decide +kernel
theorem dL_act_36 : decode cL_act 36 = .ok (.iload_n 1, 1) := by decide +kernel
theorem dL_act_37 : decode cL_act 37 = .ok (.bipush 24, 2) := by decide +kernel
theorem dL_act_39 : decode cL_act 39 = .ok (.irem, 1) := by decide +kernel
theorem dL_act_40 : decode cL_act 40 = .ok (.tableswitch 301 0 15 #[80, 120, 120, 148, 148, 148, 165, 165, 186, 186, 186, 206, 206, 218, 268, 273], 80) := by decide +kernel
theorem dL_act_120 : decode cL_act 120 = .ok (.aload_n 0, 1) := by decide +kernel
theorem dL_act_121 : decode cL_act 121 = .ok (.iload_n 3, 1) := by decide +kernel
theorem dL_act_122 : decode cL_act 122 = .ok (.bipush 100, 2) := by decide +kernel
theorem dL_act_124 : decode cL_act 124 = .ok (.irem, 1) := by decide +kernel
theorem dL_act_125 : decode cL_act 125 = .ok (.iload_n 3, 1) := by decide +kernel
theorem dL_act_126 : decode cL_act 126 = .ok (.bipush 100, 2) := by decide +kernel
theorem dL_act_128 : decode cL_act 128 = .ok (.idiv, 1) := by decide +kernel
theorem dL_act_129 : decode cL_act 129 = .ok (.bipush 16, 2) := by decide +kernel
theorem dL_act_131 : decode cL_act 131 = .ok (.irem, 1) := by decide +kernel
theorem dL_act_132 : decode cL_act 132 = .ok (.iconst 1, 1) := by decide +kernel
theorem dL_act_133 : decode cL_act 133 = .ok (.iload_n 3, 1) := by decide +kernel
theorem dL_act_134 : decode cL_act 134 = .ok (.sipush 1600, 3) := by decide +kernel
theorem dL_act_137 : decode cL_act 137 = .ok (.idiv, 1) := by decide +kernel
theorem dL_act_138 : decode cL_act 138 = .ok (.iconst 5, 1) := by decide +kernel
theorem dL_act_139 : decode cL_act 139 = .ok (.irem, 1) := by decide +kernel
theorem dL_act_140 : decode cL_act 140 = .ok (.iadd, 1) := by decide +kernel
theorem dL_act_141 : decode cL_act 141 = .ok (.iload_n 3, 1) := by decide +kernel
theorem dL_act_142 : decode cL_act 142 = .ok (.sipush 8000, 3) := by decide +kernel
theorem dL_act_145 : decode cL_act 145 = .ok (.idiv, 1) := by decide +kernel
theorem dL_act_146 : decode cL_act 146 = .ok (.bipush 100, 2) := by decide +kernel
theorem dL_act_148 : decode cL_act 148 = .ok (.irem, 1) := by decide +kernel
theorem dL_act_149 : decode cL_act 149 = .ok (.iload_n 3, 1) := by decide +kernel
theorem dL_act_150 : decode cL_act 150 = .ok (.bipush 7, 2) := by decide +kernel
theorem dL_act_152 : decode cL_act 152 = .ok (.idiv, 1) := by decide +kernel
theorem dL_act_153 : decode cL_act 153 = .ok (.bipush 6, 2) := by decide +kernel
theorem dL_act_155 : decode cL_act 155 = .ok (.irem, 1) := by decide +kernel
theorem dL_act_156 : decode cL_act 156 = .ok (.invokestatic 143, 3) := by decide +kernel
theorem dL_act_159 : decode cL_act 159 = .ok (.lreturn, 1) := by decide +kernel
theorem dL_act_160 : decode cL_act 160 = .ok (.aload_n 0, 1) := by decide +kernel
theorem dL_act_161 : decode cL_act 161 = .ok (.iload_n 3, 1) := by decide +kernel
theorem dL_act_162 : decode cL_act 162 = .ok (.bipush 100, 2) := by decide +kernel
theorem dL_act_164 : decode cL_act 164 = .ok (.irem, 1) := by decide +kernel
theorem dL_act_165 : decode cL_act 165 = .ok (.iconst 4, 1) := by decide +kernel
theorem dL_act_166 : decode cL_act 166 = .ok (.iload_n 3, 1) := by decide +kernel
theorem dL_act_167 : decode cL_act 167 = .ok (.bipush 100, 2) := by decide +kernel
theorem dL_act_169 : decode cL_act 169 = .ok (.idiv, 1) := by decide +kernel
theorem dL_act_170 : decode cL_act 170 = .ok (.bipush 17, 2) := by decide +kernel
theorem dL_act_172 : decode cL_act 172 = .ok (.irem, 1) := by decide +kernel
theorem dL_act_173 : decode cL_act 173 = .ok (.iadd, 1) := by decide +kernel
theorem dL_act_174 : decode cL_act 174 = .ok (.iconst 1, 1) := by decide +kernel
theorem dL_act_175 : decode cL_act 175 = .ok (.iload_n 3, 1) := by decide +kernel
theorem dL_act_176 : decode cL_act 176 = .ok (.sipush 1700, 3) := by decide +kernel
theorem dL_act_179 : decode cL_act 179 = .ok (.idiv, 1) := by decide +kernel
theorem dL_act_180 : decode cL_act 180 = .ok (.bipush 12, 2) := by decide +kernel
theorem dL_act_182 : decode cL_act 182 = .ok (.irem, 1) := by decide +kernel
theorem dL_act_183 : decode cL_act 183 = .ok (.iadd, 1) := by decide +kernel
theorem dL_act_184 : decode cL_act 184 = .ok (.invokestatic 146, 3) := by decide +kernel
theorem dL_act_187 : decode cL_act 187 = .ok (.lreturn, 1) := by decide +kernel
theorem dL_act_188 : decode cL_act 188 = .ok (.aload_n 0, 1) := by decide +kernel
theorem dL_act_189 : decode cL_act 189 = .ok (.iload_n 3, 1) := by decide +kernel
theorem dL_act_190 : decode cL_act 190 = .ok (.iconst 4, 1) := by decide +kernel
theorem dL_act_191 : decode cL_act 191 = .ok (.irem, 1) := by decide +kernel
theorem dL_act_192 : decode cL_act 192 = .ok (.iload_n 3, 1) := by decide +kernel
theorem dL_act_193 : decode cL_act 193 = .ok (.iconst 4, 1) := by decide +kernel
theorem dL_act_194 : decode cL_act 194 = .ok (.idiv, 1) := by decide +kernel
theorem dL_act_195 : decode cL_act 195 = .ok (.bipush 41, 2) := by decide +kernel
theorem dL_act_197 : decode cL_act 197 = .ok (.irem, 1) := by decide +kernel
theorem dL_act_198 : decode cL_act 198 = .ok (.bipush 20, 2) := by decide +kernel
theorem dL_act_200 : decode cL_act 200 = .ok (.isub, 1) := by decide +kernel
theorem dL_act_201 : decode cL_act 201 = .ok (.invokestatic 149, 3) := by decide +kernel
theorem dL_act_204 : decode cL_act 204 = .ok (.lreturn, 1) := by decide +kernel
theorem dL_act_205 : decode cL_act 205 = .ok (.aload_n 0, 1) := by decide +kernel
theorem dL_act_206 : decode cL_act 206 = .ok (.iload 5, 2) := by decide +kernel
theorem dL_act_208 : decode cL_act 208 = .ok (.iload_n 3, 1) := by decide +kernel
theorem dL_act_209 : decode cL_act 209 = .ok (.iconst 5, 1) := by decide +kernel
theorem dL_act_210 : decode cL_act 210 = .ok (.idiv, 1) := by decide +kernel
theorem dL_act_211 : decode cL_act 211 = .ok (.bipush 16, 2) := by decide +kernel
theorem dL_act_213 : decode cL_act 213 = .ok (.irem, 1) := by decide +kernel
theorem dL_act_214 : decode cL_act 214 = .ok (.iconst 1, 1) := by decide +kernel
theorem dL_act_215 : decode cL_act 215 = .ok (.iload_n 3, 1) := by decide +kernel
theorem dL_act_216 : decode cL_act 216 = .ok (.bipush 80, 2) := by decide +kernel
theorem dL_act_218 : decode cL_act 218 = .ok (.idiv, 1) := by decide +kernel
theorem dL_act_219 : decode cL_act 219 = .ok (.iconst 5, 1) := by decide +kernel
theorem dL_act_220 : decode cL_act 220 = .ok (.irem, 1) := by decide +kernel
theorem dL_act_221 : decode cL_act 221 = .ok (.iadd, 1) := by decide +kernel
theorem dL_act_222 : decode cL_act 222 = .ok (.invokestatic 151, 3) := by decide +kernel
theorem dL_act_225 : decode cL_act 225 = .ok (.lreturn, 1) := by decide +kernel
theorem dL_act_226 : decode cL_act 226 = .ok (.aload_n 0, 1) := by decide +kernel
theorem dL_act_227 : decode cL_act 227 = .ok (.iload 5, 2) := by decide +kernel
theorem dL_act_229 : decode cL_act 229 = .ok (.iload_n 3, 1) := by decide +kernel
theorem dL_act_230 : decode cL_act 230 = .ok (.iconst 5, 1) := by decide +kernel
theorem dL_act_231 : decode cL_act 231 = .ok (.idiv, 1) := by decide +kernel
theorem dL_act_232 : decode cL_act 232 = .ok (.bipush 50, 2) := by decide +kernel
theorem dL_act_234 : decode cL_act 234 = .ok (.irem, 1) := by decide +kernel
theorem dL_act_235 : decode cL_act 235 = .ok (.iload_n 3, 1) := by decide +kernel
theorem dL_act_236 : decode cL_act 236 = .ok (.sipush 250, 3) := by decide +kernel
theorem dL_act_239 : decode cL_act 239 = .ok (.idiv, 1) := by decide +kernel
theorem dL_act_240 : decode cL_act 240 = .ok (.iconst 4, 1) := by decide +kernel
theorem dL_act_241 : decode cL_act 241 = .ok (.irem, 1) := by decide +kernel
theorem dL_act_242 : decode cL_act 242 = .ok (.invokestatic 153, 3) := by decide +kernel
theorem dL_act_245 : decode cL_act 245 = .ok (.lreturn, 1) := by decide +kernel
theorem dL_act_246 : decode cL_act 246 = .ok (.aload_n 0, 1) := by decide +kernel
theorem dL_act_247 : decode cL_act 247 = .ok (.iload 5, 2) := by decide +kernel
theorem dL_act_249 : decode cL_act 249 = .ok (.iload_n 3, 1) := by decide +kernel
theorem dL_act_250 : decode cL_act 250 = .ok (.iconst 5, 1) := by decide +kernel
theorem dL_act_251 : decode cL_act 251 = .ok (.idiv, 1) := by decide +kernel
theorem dL_act_252 : decode cL_act 252 = .ok (.iconst 5, 1) := by decide +kernel
theorem dL_act_253 : decode cL_act 253 = .ok (.irem, 1) := by decide +kernel
theorem dL_act_254 : decode cL_act 254 = .ok (.invokestatic 155, 3) := by decide +kernel
theorem dL_act_257 : decode cL_act 257 = .ok (.lreturn, 1) := by decide +kernel
theorem dL_act_258 : decode cL_act 258 = .ok (.iload_n 3, 1) := by decide +kernel
theorem dL_act_259 : decode cL_act 259 = .ok (.iconst 5, 1) := by decide +kernel
theorem dL_act_260 : decode cL_act 260 = .ok (.irem, 1) := by decide +kernel
theorem dL_act_261 : decode cL_act 261 = .ok (.istore 6, 2) := by decide +kernel
theorem dL_act_263 : decode cL_act 263 = .ok (.aload_n 0, 1) := by decide +kernel
theorem dL_act_264 : decode cL_act 264 = .ok (.iload 6, 2) := by decide +kernel
theorem dL_act_266 : decode cL_act 266 = .ok (.iload 6, 2) := by decide +kernel
theorem dL_act_268 : decode cL_act 268 = .ok (.ifCond .ne 14, 3) := by decide +kernel
theorem dL_act_271 : decode cL_act 271 = .ok (.iconst 1, 1) := by decide +kernel
theorem dL_act_272 : decode cL_act 272 = .ok (.iload_n 3, 1) := by decide +kernel
theorem dL_act_273 : decode cL_act 273 = .ok (.iconst 5, 1) := by decide +kernel
theorem dL_act_274 : decode cL_act 274 = .ok (.idiv, 1) := by decide +kernel
theorem dL_act_275 : decode cL_act 275 = .ok (.bipush 9, 2) := by decide +kernel
theorem dL_act_277 : decode cL_act 277 = .ok (.irem, 1) := by decide +kernel
theorem dL_act_278 : decode cL_act 278 = .ok (.iadd, 1) := by decide +kernel
theorem dL_act_279 : decode cL_act 279 = .ok (.goto 25, 3) := by decide +kernel
theorem dL_act_282 : decode cL_act 282 = .ok (.iload 6, 2) := by decide +kernel
theorem dL_act_284 : decode cL_act 284 = .ok (.iconst 1, 1) := by decide +kernel
theorem dL_act_285 : decode cL_act 285 = .ok (.if_icmp .ne 13, 3) := by decide +kernel
theorem dL_act_288 : decode cL_act 288 = .ok (.iconst 1, 1) := by decide +kernel
theorem dL_act_289 : decode cL_act 289 = .ok (.iload_n 3, 1) := by decide +kernel
theorem dL_act_290 : decode cL_act 290 = .ok (.iconst 5, 1) := by decide +kernel
theorem dL_act_291 : decode cL_act 291 = .ok (.idiv, 1) := by decide +kernel
theorem dL_act_292 : decode cL_act 292 = .ok (.iconst 5, 1) := by decide +kernel
theorem dL_act_293 : decode cL_act 293 = .ok (.irem, 1) := by decide +kernel
theorem dL_act_294 : decode cL_act 294 = .ok (.iadd, 1) := by decide +kernel
theorem dL_act_295 : decode cL_act 295 = .ok (.goto 9, 3) := by decide +kernel
theorem dL_act_298 : decode cL_act 298 = .ok (.iload_n 3, 1) := by decide +kernel
theorem dL_act_299 : decode cL_act 299 = .ok (.iconst 5, 1) := by decide +kernel
theorem dL_act_300 : decode cL_act 300 = .ok (.idiv, 1) := by decide +kernel
theorem dL_act_301 : decode cL_act 301 = .ok (.bipush 40, 2) := by decide +kernel
theorem dL_act_303 : decode cL_act 303 = .ok (.irem, 1) := by decide +kernel
theorem dL_act_304 : decode cL_act 304 = .ok (.invokestatic 159, 3) := by decide +kernel
theorem dL_act_307 : decode cL_act 307 = .ok (.lreturn, 1) := by decide +kernel
theorem dL_act_308 : decode cL_act 308 = .ok (.aload_n 0, 1) := by decide +kernel
theorem dL_act_309 : decode cL_act 309 = .ok (.invokestatic 207, 3) := by decide +kernel
theorem dL_act_312 : decode cL_act 312 = .ok (.lreturn, 1) := by decide +kernel
theorem dL_act_313 : decode cL_act 313 = .ok (.iload_n 3, 1) := by decide +kernel
theorem dL_act_314 : decode cL_act 314 = .ok (.iconst 2, 1) := by decide +kernel
theorem dL_act_315 : decode cL_act 315 = .ok (.irem, 1) := by decide +kernel
theorem dL_act_316 : decode cL_act 316 = .ok (.ifCond .ne 15, 3) := by decide +kernel
theorem dL_act_319 : decode cL_act 319 = .ok (.aload_n 0, 1) := by decide +kernel
theorem dL_act_320 : decode cL_act 320 = .ok (.iload_n 3, 1) := by decide +kernel
theorem dL_act_321 : decode cL_act 321 = .ok (.iconst 2, 1) := by decide +kernel
theorem dL_act_322 : decode cL_act 322 = .ok (.idiv, 1) := by decide +kernel
theorem dL_act_323 : decode cL_act 323 = .ok (.iconst 1, 1) := by decide +kernel
theorem dL_act_324 : decode cL_act 324 = .ok (.iand, 1) := by decide +kernel
theorem dL_act_325 : decode cL_act 325 = .ok (.invokestatic 183, 3) := by decide +kernel
theorem dL_act_328 : decode cL_act 328 = .ok (.goto 12, 3) := by decide +kernel
theorem dL_act_331 : decode cL_act 331 = .ok (.aload_n 0, 1) := by decide +kernel
theorem dL_act_332 : decode cL_act 332 = .ok (.iload_n 3, 1) := by decide +kernel
theorem dL_act_333 : decode cL_act 333 = .ok (.iconst 2, 1) := by decide +kernel
theorem dL_act_334 : decode cL_act 334 = .ok (.idiv, 1) := by decide +kernel
theorem dL_act_335 : decode cL_act 335 = .ok (.iconst 1, 1) := by decide +kernel
theorem dL_act_336 : decode cL_act 336 = .ok (.iand, 1) := by decide +kernel
theorem dL_act_337 : decode cL_act 337 = .ok (.invokestatic 185, 3) := by decide +kernel
theorem dL_act_340 : decode cL_act 340 = .ok (.lreturn, 1) := by decide +kernel
theorem dL_act_341 : decode cL_act 341 = .ok (.aload_n 0, 1) := by decide +kernel
theorem dL_act_342 : decode cL_act 342 = .ok (.iconst 1, 1) := by decide +kernel
theorem dL_act_343 : decode cL_act 343 = .ok (.iload_n 3, 1) := by decide +kernel
theorem dL_act_344 : decode cL_act 344 = .ok (.iload_n 3, 1) := by decide +kernel
theorem dL_act_345 : decode cL_act 345 = .ok (.iconst 4, 1) := by decide +kernel
theorem dL_act_346 : decode cL_act 346 = .ok (.irem, 1) := by decide +kernel
theorem dL_act_347 : decode cL_act 347 = .ok (.ifCond .ne 8, 3) := by decide +kernel
theorem dL_act_350 : decode cL_act 350 = .ok (.bipush 40, 2) := by decide +kernel
theorem dL_act_352 : decode cL_act 352 = .ok (.goto 5, 3) := by decide +kernel
theorem dL_act_355 : decode cL_act 355 = .ok (.bipush 6, 2) := by decide +kernel
theorem dL_act_357 : decode cL_act 357 = .ok (.irem, 1) := by decide +kernel
theorem dL_act_358 : decode cL_act 358 = .ok (.iadd, 1) := by decide +kernel
theorem dL_act_359 : decode cL_act 359 = .ok (.invokestatic 157, 3) := by decide +kernel
theorem dL_act_362 : decode cL_act 362 = .ok (.lreturn, 1) := by decide +kernel
def bL_act_0 (mc : Nat) (s_L_about : la_S) (s_L_addStation : la_S) (s_L_undo : la_S) (s_L_restore : la_S) (s_L_save : la_S) (s_L_addFinder : la_S) (s_L_wind : la_S) (s_L_change : la_S) (s_L_deliver : la_S) (s_L_move : la_S) (s_L_set : la_S) (s_L_run : la_S) (M : Nat → la_P) (K : Option Value → (Nat → aS) → Prop) : la_P := la_ild 2 (la_ci (nI 4) (la_d2 (fun x y => x / y) (la_ist 3 (la_ald 0 (la_ci (nI 0) (la_cN mc 1 2 s_L_about (la_l2i (la_ist 4 (la_ild 4 (la_if1 (fun x => x = 0) (M 24) (la_ild 3 (la_ci (nI 13) (la_d2 (fun x y => x - x / y * y) (la_if1 (fun x => ¬ x = 0) (la_ild 3 (la_ild 4 (la_d2 (fun x y => x - x / y * y) (M 34)))) (M 24)))))))))))))))
def bL_act_24 (mc : Nat) (s_L_about : la_S) (s_L_addStation : la_S) (s_L_undo : la_S) (s_L_restore : la_S) (s_L_save : la_S) (s_L_addFinder : la_S) (s_L_wind : la_S) (s_L_change : la_S) (s_L_deliver : la_S) (s_L_move : la_S) (s_L_set : la_S) (s_L_run : la_S) (M : Nat → la_P) (K : Option Value → (Nat → aS) → Prop) : la_P := la_ild 3 (la_ci (nI 5) (la_d2 (fun x y => x - x / y * y) (M 34)))
def bL_act_34 (mc : Nat) (s_L_about : la_S) (s_L_addStation : la_S) (s_L_undo : la_S) (s_L_restore : la_S) (s_L_save : la_S) (s_L_addFinder : la_S) (s_L_wind : la_S) (s_L_change : la_S) (s_L_deliver : la_S) (s_L_move : la_S) (s_L_set : la_S) (s_L_run : la_S) (M : Nat → la_P) (K : Option Value → (Nat → aS) → Prop) : la_P := la_ist 5 (la_ild 1 (la_ci (nI 24) (la_d2 (fun x y => x - x / y * y) (la_sw [(nI 0, la_ald 0 (la_ild 3 (la_ci (nI 100) (la_d2 (fun x y => x - x / y * y) (la_ild 3 (la_ci (nI 100) (la_d2 (fun x y => x / y) (la_ci (nI 16) (la_d2 (fun x y => x - x / y * y) (la_ci (nI 1) (la_ild 3 (la_ci (nI 1600) (la_d2 (fun x y => x / y) (la_ci (nI 5) (la_d2 (fun x y => x - x / y * y) (la_b2 (fun x y => x + y) (la_ild 3 (la_ci (nI 8000) (la_d2 (fun x y => x / y) (la_ci (nI 100) (la_d2 (fun x y => x - x / y * y) (la_ild 3 (la_ci (nI 7) (la_d2 (fun x y => x / y) (la_ci (nI 6) (la_d2 (fun x y => x - x / y * y) (la_cN mc 1 6 s_L_addStation (la_lr mc K)))))))))))))))))))))))))))), (nI 1, M 160), (nI 2, M 160), (nI 3, M 188), (nI 4, M 188), (nI 5, M 188), (nI 6, M 205), (nI 7, M 205), (nI 8, M 226), (nI 9, M 226), (nI 10, M 226), (nI 11, M 246), (nI 12, M 246), (nI 13, la_ild 3 (la_ci (nI 5) (la_d2 (fun x y => x - x / y * y) (la_ist 6 (la_ald 0 (la_ild 6 (la_ild 6 (la_if1 (fun x => ¬ x = 0) (la_ild 6 (la_ci (nI 1) (la_if2 (fun x y => ¬ x = y) (la_ild 3 (la_ci (nI 5) (la_d2 (fun x y => x / y) (la_ci (nI 40) (la_d2 (fun x y => x - x / y * y) (M 304)))))) (la_ci (nI 1) (la_ild 3 (la_ci (nI 5) (la_d2 (fun x y => x / y) (la_ci (nI 5) (la_d2 (fun x y => x - x / y * y) (la_b2 (fun x y => x + y) (M 304))))))))))) (la_ci (nI 1) (la_ild 3 (la_ci (nI 5) (la_d2 (fun x y => x / y) (la_ci (nI 9) (la_d2 (fun x y => x - x / y * y) (la_b2 (fun x y => x + y) (M 304)))))))))))))))), (nI 14, la_ald 0 (la_cN mc 1 1 s_L_undo (la_lr mc K))), (nI 15, la_ild 3 (la_ci (nI 2) (la_d2 (fun x y => x - x / y * y) (la_if1 (fun x => ¬ x = 0) (la_ald 0 (la_ild 3 (la_ci (nI 2) (la_d2 (fun x y => x / y) (la_ci (nI 1) (la_b2 (fun x y => x &&& y) (la_cN mc 1 2 s_L_restore (M 340)))))))) (la_ald 0 (la_ild 3 (la_ci (nI 2) (la_d2 (fun x y => x / y) (la_ci (nI 1) (la_b2 (fun x y => x &&& y) (la_cN mc 1 2 s_L_save (M 340))))))))))))] (la_ald 0 (la_ci (nI 1) (la_ild 3 (la_ild 3 (la_ci (nI 4) (la_d2 (fun x y => x - x / y * y) (la_if1 (fun x => ¬ x = 0) (la_ci (nI 6) (M 357)) (la_ci (nI 40) (M 357)))))))))))))
def bL_act_160 (mc : Nat) (s_L_about : la_S) (s_L_addStation : la_S) (s_L_undo : la_S) (s_L_restore : la_S) (s_L_save : la_S) (s_L_addFinder : la_S) (s_L_wind : la_S) (s_L_change : la_S) (s_L_deliver : la_S) (s_L_move : la_S) (s_L_set : la_S) (s_L_run : la_S) (M : Nat → la_P) (K : Option Value → (Nat → aS) → Prop) : la_P := la_ald 0 (la_ild 3 (la_ci (nI 100) (la_d2 (fun x y => x - x / y * y) (la_ci (nI 4) (la_ild 3 (la_ci (nI 100) (la_d2 (fun x y => x / y) (la_ci (nI 17) (la_d2 (fun x y => x - x / y * y) (la_b2 (fun x y => x + y) (la_ci (nI 1) (la_ild 3 (la_ci (nI 1700) (la_d2 (fun x y => x / y) (la_ci (nI 12) (la_d2 (fun x y => x - x / y * y) (la_b2 (fun x y => x + y) (la_cN mc 1 4 s_L_addFinder (la_lr mc K)))))))))))))))))))
def bL_act_188 (mc : Nat) (s_L_about : la_S) (s_L_addStation : la_S) (s_L_undo : la_S) (s_L_restore : la_S) (s_L_save : la_S) (s_L_addFinder : la_S) (s_L_wind : la_S) (s_L_change : la_S) (s_L_deliver : la_S) (s_L_move : la_S) (s_L_set : la_S) (s_L_run : la_S) (M : Nat → la_P) (K : Option Value → (Nat → aS) → Prop) : la_P := la_ald 0 (la_ild 3 (la_ci (nI 4) (la_d2 (fun x y => x - x / y * y) (la_ild 3 (la_ci (nI 4) (la_d2 (fun x y => x / y) (la_ci (nI 41) (la_d2 (fun x y => x - x / y * y) (la_ci (nI 20) (la_b2 (fun x y => x - y) (la_cN mc 1 3 s_L_wind (la_lr mc K))))))))))))
def bL_act_205 (mc : Nat) (s_L_about : la_S) (s_L_addStation : la_S) (s_L_undo : la_S) (s_L_restore : la_S) (s_L_save : la_S) (s_L_addFinder : la_S) (s_L_wind : la_S) (s_L_change : la_S) (s_L_deliver : la_S) (s_L_move : la_S) (s_L_set : la_S) (s_L_run : la_S) (M : Nat → la_P) (K : Option Value → (Nat → aS) → Prop) : la_P := la_ald 0 (la_ild 5 (la_ild 3 (la_ci (nI 5) (la_d2 (fun x y => x / y) (la_ci (nI 16) (la_d2 (fun x y => x - x / y * y) (la_ci (nI 1) (la_ild 3 (la_ci (nI 80) (la_d2 (fun x y => x / y) (la_ci (nI 5) (la_d2 (fun x y => x - x / y * y) (la_b2 (fun x y => x + y) (la_cN mc 1 4 s_L_change (la_lr mc K)))))))))))))))
def bL_act_226 (mc : Nat) (s_L_about : la_S) (s_L_addStation : la_S) (s_L_undo : la_S) (s_L_restore : la_S) (s_L_save : la_S) (s_L_addFinder : la_S) (s_L_wind : la_S) (s_L_change : la_S) (s_L_deliver : la_S) (s_L_move : la_S) (s_L_set : la_S) (s_L_run : la_S) (M : Nat → la_P) (K : Option Value → (Nat → aS) → Prop) : la_P := la_ald 0 (la_ild 5 (la_ild 3 (la_ci (nI 5) (la_d2 (fun x y => x / y) (la_ci (nI 50) (la_d2 (fun x y => x - x / y * y) (la_ild 3 (la_ci (nI 250) (la_d2 (fun x y => x / y) (la_ci (nI 4) (la_d2 (fun x y => x - x / y * y) (la_cN mc 1 4 s_L_deliver (la_lr mc K)))))))))))))
def bL_act_246 (mc : Nat) (s_L_about : la_S) (s_L_addStation : la_S) (s_L_undo : la_S) (s_L_restore : la_S) (s_L_save : la_S) (s_L_addFinder : la_S) (s_L_wind : la_S) (s_L_change : la_S) (s_L_deliver : la_S) (s_L_move : la_S) (s_L_set : la_S) (s_L_run : la_S) (M : Nat → la_P) (K : Option Value → (Nat → aS) → Prop) : la_P := la_ald 0 (la_ild 5 (la_ild 3 (la_ci (nI 5) (la_d2 (fun x y => x / y) (la_ci (nI 5) (la_d2 (fun x y => x - x / y * y) (la_cN mc 1 3 s_L_move (la_lr mc K))))))))
def bL_act_304 (mc : Nat) (s_L_about : la_S) (s_L_addStation : la_S) (s_L_undo : la_S) (s_L_restore : la_S) (s_L_save : la_S) (s_L_addFinder : la_S) (s_L_wind : la_S) (s_L_change : la_S) (s_L_deliver : la_S) (s_L_move : la_S) (s_L_set : la_S) (s_L_run : la_S) (M : Nat → la_P) (K : Option Value → (Nat → aS) → Prop) : la_P := la_cN mc 1 3 s_L_set (la_lr mc K)
def bL_act_340 (mc : Nat) (s_L_about : la_S) (s_L_addStation : la_S) (s_L_undo : la_S) (s_L_restore : la_S) (s_L_save : la_S) (s_L_addFinder : la_S) (s_L_wind : la_S) (s_L_change : la_S) (s_L_deliver : la_S) (s_L_move : la_S) (s_L_set : la_S) (s_L_run : la_S) (M : Nat → la_P) (K : Option Value → (Nat → aS) → Prop) : la_P := la_lr mc K
def bL_act_357 (mc : Nat) (s_L_about : la_S) (s_L_addStation : la_S) (s_L_undo : la_S) (s_L_restore : la_S) (s_L_save : la_S) (s_L_addFinder : la_S) (s_L_wind : la_S) (s_L_change : la_S) (s_L_deliver : la_S) (s_L_move : la_S) (s_L_set : la_S) (s_L_run : la_S) (M : Nat → la_P) (K : Option Value → (Nat → aS) → Prop) : la_P := la_d2 (fun x y => x - x / y * y) (la_b2 (fun x y => x + y) (la_cN mc 1 2 s_L_run (la_lr mc K)))
set_option maxRecDepth 40000 in
set_option maxHeartbeats 8000000 in
theorem vc_L_act {l : Launch} (hl : l.stackTraces = false) {Y : lW} (hw : lWo Y) {A : Nat → aS} {As : List Value} {K : Option Value → (Nat → aS) → Prop} {s_L_about : la_S} (ok_L_about : la_Ok l yL_about (Cond.codeWith yL_about cL_about 3 (some .long) [(0, 6, 7, 15)]) 7 (30 * 7) 1 s_L_about) {s_L_addStation : la_S} (ok_L_addStation : la_Ok l yL_addStation (Cond.codeWith yL_addStation cL_addStation 7 (some .long) [(0, 12, 13, 15), (0, 12, 19, 19)]) 9 (30 * 9) 1 s_L_addStation) {s_L_undo : la_S} (ok_L_undo : la_Ok l yL_undo (Cond.codeWith yL_undo cL_undo 2 (some .long) [(0, 5, 6, 19)]) 7 (30 * 7) 1 s_L_undo) {s_L_restore : la_S} (ok_L_restore : la_Ok l yL_restore (Cond.codeWith yL_restore cL_restore 3 (some .long) [(0, 6, 7, 34), (0, 6, 12, 19)]) 8 (30 * 8) 1 s_L_restore) {s_L_save : la_S} (ok_L_save : la_Ok l yL_save (Cond.codeWith yL_save cL_save 3 (some .long) [(0, 6, 7, 34)]) 8 (30 * 8) 1 s_L_save) {s_L_addFinder : la_S} (ok_L_addFinder : la_Ok l yL_addFinder (Cond.codeWith yL_addFinder cL_addFinder 5 (some .long) [(0, 8, 9, 15), (0, 8, 15, 19)]) 9 (30 * 9) 1 s_L_addFinder) {s_L_wind : la_S} (ok_L_wind : la_Ok l yL_wind (Cond.codeWith yL_wind cL_wind 4 (some .long) [(0, 7, 8, 15)]) 9 (30 * 9) 1 s_L_wind) {s_L_change : la_S} (ok_L_change : la_Ok l yL_change (Cond.codeWith yL_change cL_change 5 (some .long) [(0, 8, 9, 34), (0, 8, 15, 15)]) 9 (30 * 9) 1 s_L_change) {s_L_deliver : la_S} (ok_L_deliver : la_Ok l yL_deliver (Cond.codeWith yL_deliver cL_deliver 5 (some .long) [(0, 8, 9, 34), (0, 8, 15, 15), (0, 8, 21, 19)]) 9 (30 * 9) 1 s_L_deliver) {s_L_move : la_S} (ok_L_move : la_Ok l yL_move (Cond.codeWith yL_move cL_move 4 (some .long) [(0, 7, 8, 34), (0, 7, 13, 19)]) 9 (30 * 9) 1 s_L_move) {s_L_set : la_S} (ok_L_set : la_Ok l yL_set (Cond.codeWith yL_set cL_set 4 (some .long) [(0, 7, 8, 15)]) 9 (30 * 9) 1 s_L_set) {s_L_run : la_S} (ok_L_run : la_Ok l yL_run (Cond.codeWith yL_run cL_run 3 (some .long) [(0, 6, 7, 15)]) 9 (30 * 9) 1 s_L_run) (hlen : (ab_xl As).length ≤ 7) (h : ∀ M : Nat → la_P, (∀ L st X, bL_act_0 3 s_L_about s_L_addStation s_L_undo s_L_restore s_L_save s_L_addFinder s_L_wind s_L_change s_L_deliver s_L_move s_L_set s_L_run M K L st X → M 0 L st X) → (∀ L st X, bL_act_24 3 s_L_about s_L_addStation s_L_undo s_L_restore s_L_save s_L_addFinder s_L_wind s_L_change s_L_deliver s_L_move s_L_set s_L_run M K L st X → M 24 L st X) → (∀ L st X, bL_act_34 3 s_L_about s_L_addStation s_L_undo s_L_restore s_L_save s_L_addFinder s_L_wind s_L_change s_L_deliver s_L_move s_L_set s_L_run M K L st X → M 34 L st X) → (∀ L st X, bL_act_160 3 s_L_about s_L_addStation s_L_undo s_L_restore s_L_save s_L_addFinder s_L_wind s_L_change s_L_deliver s_L_move s_L_set s_L_run M K L st X → M 160 L st X) → (∀ L st X, bL_act_188 3 s_L_about s_L_addStation s_L_undo s_L_restore s_L_save s_L_addFinder s_L_wind s_L_change s_L_deliver s_L_move s_L_set s_L_run M K L st X → M 188 L st X) → (∀ L st X, bL_act_205 3 s_L_about s_L_addStation s_L_undo s_L_restore s_L_save s_L_addFinder s_L_wind s_L_change s_L_deliver s_L_move s_L_set s_L_run M K L st X → M 205 L st X) → (∀ L st X, bL_act_226 3 s_L_about s_L_addStation s_L_undo s_L_restore s_L_save s_L_addFinder s_L_wind s_L_change s_L_deliver s_L_move s_L_set s_L_run M K L st X → M 226 L st X) → (∀ L st X, bL_act_246 3 s_L_about s_L_addStation s_L_undo s_L_restore s_L_save s_L_addFinder s_L_wind s_L_change s_L_deliver s_L_move s_L_set s_L_run M K L st X → M 246 L st X) → (∀ L st X, bL_act_304 3 s_L_about s_L_addStation s_L_undo s_L_restore s_L_save s_L_addFinder s_L_wind s_L_change s_L_deliver s_L_move s_L_set s_L_run M K L st X → M 304 L st X) → (∀ L st X, bL_act_340 3 s_L_about s_L_addStation s_L_undo s_L_restore s_L_save s_L_addFinder s_L_wind s_L_change s_L_deliver s_L_move s_L_set s_L_run M K L st X → M 340 L st X) → (∀ L st X, bL_act_357 3 s_L_about s_L_addStation s_L_undo s_L_restore s_L_save s_L_addFinder s_L_wind s_L_change s_L_deliver s_L_move s_L_set s_L_run M K L st X → M 357 L st X) → M 0 (ab_pd 7 (ab_xl As)) [] (A, 0)) : la_Met l yL_act (Cond.code yL_act cL_act 7 (some .long)) 10 (30 * 10) 3 Y A As K := by
  refine la_enter (by decide) hl hw hlen ?_
  intro p e R s m args below meth c C hr
  exact h _ (sl_iload_n C (i := 2) dL_act_0 rfl (sl_iconst C (x := nI 4) dL_act_1 (by decide +kernel) (sl_idiv C dL_act_2 (sl_istore_n C (i := 3) dL_act_3 rfl (by decide) (sl_aload_n C (i := 0) dL_act_4 rfl (sl_iconst C (x := nI 0) dL_act_5 (by decide +kernel) (sl_cW C ok_L_about ⟨by decide, by decide, wu_654, wu_0, by decide +kernel⟩ wu_652 wu_653 dL_act_6 (sl_l2i C dL_act_9 (sl_istore C dL_act_10 (by decide) (sl_iload C dL_act_12 (sl_if_eq C dL_act_14 (tgt := 24) (by decide) (fun _ _ _ h => h) (sl_iload_n C (i := 3) dL_act_17 rfl (sl_bipush C (x := nI 13) dL_act_18 (by decide +kernel) (sl_irem C dL_act_20 (sl_if_ne C dL_act_21 (tgt := 30) (by decide) (sl_iload_n C (i := 3) dL_act_30 rfl (sl_iload C dL_act_31 (sl_irem C dL_act_33 (fun _ _ _ h => h)))) (fun _ _ _ h => h))))))))))))))))
    (sl_iload_n C (i := 3) dL_act_24 rfl (sl_iconst C (x := nI 5) dL_act_25 (by decide +kernel) (sl_irem C dL_act_26 (sl_goto C dL_act_27 (tgt := 34) (by decide) (fun _ _ _ h => h)))))
    (sl_istore C dL_act_34 (by decide) (sl_iload_n C (i := 1) dL_act_36 rfl (sl_bipush C (x := nI 24) dL_act_37 (by decide +kernel) (sl_irem C dL_act_39 (sl_table C (td := 341) dL_act_40 16 (by decide +kernel : ([nI 0, nI 1, nI 2, nI 3, nI 4, nI 5, nI 6, nI 7, nI 8, nI 9, nI 10, nI 11, nI 12, nI 13, nI 14, nI 15] : List Int32) = _) (by decide) (List.forall_mem_cons.mpr ⟨⟨80, 120, (by decide +kernel : ¬ (nI 0 : Int32).toInt < 0), (by decide +kernel : ¬ (15 : Int) < (nI 0 : Int32).toInt), (by decide +kernel : (#[80, 120, 120, 148, 148, 148, 165, 165, 186, 186, 186, 206, 206, 218, 268, 273] : Array Int)[((nI 0 : Int32).toInt - 0).toNat]? = some 80), (by decide), (sl_aload_n C (i := 0) dL_act_120 rfl (sl_iload_n C (i := 3) dL_act_121 rfl (sl_bipush C (x := nI 100) dL_act_122 (by decide +kernel) (sl_irem C dL_act_124 (sl_iload_n C (i := 3) dL_act_125 rfl (sl_bipush C (x := nI 100) dL_act_126 (by decide +kernel) (sl_idiv C dL_act_128 (sl_bipush C (x := nI 16) dL_act_129 (by decide +kernel) (sl_irem C dL_act_131 (sl_iconst C (x := nI 1) dL_act_132 (by decide +kernel) (sl_iload_n C (i := 3) dL_act_133 rfl (sl_sipush C (x := nI 1600) dL_act_134 (by decide +kernel) (sl_idiv C dL_act_137 (sl_iconst C (x := nI 5) dL_act_138 (by decide +kernel) (sl_irem C dL_act_139 (sl_iadd C dL_act_140 (sl_iload_n C (i := 3) dL_act_141 rfl (sl_sipush C (x := nI 8000) dL_act_142 (by decide +kernel) (sl_idiv C dL_act_145 (sl_bipush C (x := nI 100) dL_act_146 (by decide +kernel) (sl_irem C dL_act_148 (sl_iload_n C (i := 3) dL_act_149 rfl (sl_bipush C (x := nI 7) dL_act_150 (by decide +kernel) (sl_idiv C dL_act_152 (sl_bipush C (x := nI 6) dL_act_153 (by decide +kernel) (sl_irem C dL_act_155 (sl_cW C ok_L_addStation ⟨by decide, by decide, wu_776, wu_0, by decide +kernel⟩ wu_774 wu_775 dL_act_156 (sl_lr C hr dL_act_159))))))))))))))))))))))))))))⟩, (List.forall_mem_cons.mpr ⟨⟨120, 160, (by decide +kernel : ¬ (nI 1 : Int32).toInt < 0), (by decide +kernel : ¬ (15 : Int) < (nI 1 : Int32).toInt), (by decide +kernel : (#[80, 120, 120, 148, 148, 148, 165, 165, 186, 186, 186, 206, 206, 218, 268, 273] : Array Int)[((nI 1 : Int32).toInt - 0).toNat]? = some 120), (by decide), (fun _ _ _ h => h)⟩, (List.forall_mem_cons.mpr ⟨⟨120, 160, (by decide +kernel : ¬ (nI 2 : Int32).toInt < 0), (by decide +kernel : ¬ (15 : Int) < (nI 2 : Int32).toInt), (by decide +kernel : (#[80, 120, 120, 148, 148, 148, 165, 165, 186, 186, 186, 206, 206, 218, 268, 273] : Array Int)[((nI 2 : Int32).toInt - 0).toNat]? = some 120), (by decide), (fun _ _ _ h => h)⟩, (List.forall_mem_cons.mpr ⟨⟨148, 188, (by decide +kernel : ¬ (nI 3 : Int32).toInt < 0), (by decide +kernel : ¬ (15 : Int) < (nI 3 : Int32).toInt), (by decide +kernel : (#[80, 120, 120, 148, 148, 148, 165, 165, 186, 186, 186, 206, 206, 218, 268, 273] : Array Int)[((nI 3 : Int32).toInt - 0).toNat]? = some 148), (by decide), (fun _ _ _ h => h)⟩, (List.forall_mem_cons.mpr ⟨⟨148, 188, (by decide +kernel : ¬ (nI 4 : Int32).toInt < 0), (by decide +kernel : ¬ (15 : Int) < (nI 4 : Int32).toInt), (by decide +kernel : (#[80, 120, 120, 148, 148, 148, 165, 165, 186, 186, 186, 206, 206, 218, 268, 273] : Array Int)[((nI 4 : Int32).toInt - 0).toNat]? = some 148), (by decide), (fun _ _ _ h => h)⟩, (List.forall_mem_cons.mpr ⟨⟨148, 188, (by decide +kernel : ¬ (nI 5 : Int32).toInt < 0), (by decide +kernel : ¬ (15 : Int) < (nI 5 : Int32).toInt), (by decide +kernel : (#[80, 120, 120, 148, 148, 148, 165, 165, 186, 186, 186, 206, 206, 218, 268, 273] : Array Int)[((nI 5 : Int32).toInt - 0).toNat]? = some 148), (by decide), (fun _ _ _ h => h)⟩, (List.forall_mem_cons.mpr ⟨⟨165, 205, (by decide +kernel : ¬ (nI 6 : Int32).toInt < 0), (by decide +kernel : ¬ (15 : Int) < (nI 6 : Int32).toInt), (by decide +kernel : (#[80, 120, 120, 148, 148, 148, 165, 165, 186, 186, 186, 206, 206, 218, 268, 273] : Array Int)[((nI 6 : Int32).toInt - 0).toNat]? = some 165), (by decide), (fun _ _ _ h => h)⟩, (List.forall_mem_cons.mpr ⟨⟨165, 205, (by decide +kernel : ¬ (nI 7 : Int32).toInt < 0), (by decide +kernel : ¬ (15 : Int) < (nI 7 : Int32).toInt), (by decide +kernel : (#[80, 120, 120, 148, 148, 148, 165, 165, 186, 186, 186, 206, 206, 218, 268, 273] : Array Int)[((nI 7 : Int32).toInt - 0).toNat]? = some 165), (by decide), (fun _ _ _ h => h)⟩, (List.forall_mem_cons.mpr ⟨⟨186, 226, (by decide +kernel : ¬ (nI 8 : Int32).toInt < 0), (by decide +kernel : ¬ (15 : Int) < (nI 8 : Int32).toInt), (by decide +kernel : (#[80, 120, 120, 148, 148, 148, 165, 165, 186, 186, 186, 206, 206, 218, 268, 273] : Array Int)[((nI 8 : Int32).toInt - 0).toNat]? = some 186), (by decide), (fun _ _ _ h => h)⟩, (List.forall_mem_cons.mpr ⟨⟨186, 226, (by decide +kernel : ¬ (nI 9 : Int32).toInt < 0), (by decide +kernel : ¬ (15 : Int) < (nI 9 : Int32).toInt), (by decide +kernel : (#[80, 120, 120, 148, 148, 148, 165, 165, 186, 186, 186, 206, 206, 218, 268, 273] : Array Int)[((nI 9 : Int32).toInt - 0).toNat]? = some 186), (by decide), (fun _ _ _ h => h)⟩, (List.forall_mem_cons.mpr ⟨⟨186, 226, (by decide +kernel : ¬ (nI 10 : Int32).toInt < 0), (by decide +kernel : ¬ (15 : Int) < (nI 10 : Int32).toInt), (by decide +kernel : (#[80, 120, 120, 148, 148, 148, 165, 165, 186, 186, 186, 206, 206, 218, 268, 273] : Array Int)[((nI 10 : Int32).toInt - 0).toNat]? = some 186), (by decide), (fun _ _ _ h => h)⟩, (List.forall_mem_cons.mpr ⟨⟨206, 246, (by decide +kernel : ¬ (nI 11 : Int32).toInt < 0), (by decide +kernel : ¬ (15 : Int) < (nI 11 : Int32).toInt), (by decide +kernel : (#[80, 120, 120, 148, 148, 148, 165, 165, 186, 186, 186, 206, 206, 218, 268, 273] : Array Int)[((nI 11 : Int32).toInt - 0).toNat]? = some 206), (by decide), (fun _ _ _ h => h)⟩, (List.forall_mem_cons.mpr ⟨⟨206, 246, (by decide +kernel : ¬ (nI 12 : Int32).toInt < 0), (by decide +kernel : ¬ (15 : Int) < (nI 12 : Int32).toInt), (by decide +kernel : (#[80, 120, 120, 148, 148, 148, 165, 165, 186, 186, 186, 206, 206, 218, 268, 273] : Array Int)[((nI 12 : Int32).toInt - 0).toNat]? = some 206), (by decide), (fun _ _ _ h => h)⟩, (List.forall_mem_cons.mpr ⟨⟨218, 258, (by decide +kernel : ¬ (nI 13 : Int32).toInt < 0), (by decide +kernel : ¬ (15 : Int) < (nI 13 : Int32).toInt), (by decide +kernel : (#[80, 120, 120, 148, 148, 148, 165, 165, 186, 186, 186, 206, 206, 218, 268, 273] : Array Int)[((nI 13 : Int32).toInt - 0).toNat]? = some 218), (by decide), (sl_iload_n C (i := 3) dL_act_258 rfl (sl_iconst C (x := nI 5) dL_act_259 (by decide +kernel) (sl_irem C dL_act_260 (sl_istore C dL_act_261 (by decide) (sl_aload_n C (i := 0) dL_act_263 rfl (sl_iload C dL_act_264 (sl_iload C dL_act_266 (sl_if_ne C dL_act_268 (tgt := 282) (by decide) (sl_iload C dL_act_282 (sl_iconst C (x := nI 1) dL_act_284 (by decide +kernel) (sl_icmp_ne C dL_act_285 (tgt := 298) (by decide) (sl_iload_n C (i := 3) dL_act_298 rfl (sl_iconst C (x := nI 5) dL_act_299 (by decide +kernel) (sl_idiv C dL_act_300 (sl_bipush C (x := nI 40) dL_act_301 (by decide +kernel) (sl_irem C dL_act_303 (fun _ _ _ h => h)))))) (sl_iconst C (x := nI 1) dL_act_288 (by decide +kernel) (sl_iload_n C (i := 3) dL_act_289 rfl (sl_iconst C (x := nI 5) dL_act_290 (by decide +kernel) (sl_idiv C dL_act_291 (sl_iconst C (x := nI 5) dL_act_292 (by decide +kernel) (sl_irem C dL_act_293 (sl_iadd C dL_act_294 (sl_goto C dL_act_295 (tgt := 304) (by decide) (fun _ _ _ h => h)))))))))))) (sl_iconst C (x := nI 1) dL_act_271 (by decide +kernel) (sl_iload_n C (i := 3) dL_act_272 rfl (sl_iconst C (x := nI 5) dL_act_273 (by decide +kernel) (sl_idiv C dL_act_274 (sl_bipush C (x := nI 9) dL_act_275 (by decide +kernel) (sl_irem C dL_act_277 (sl_iadd C dL_act_278 (sl_goto C dL_act_279 (tgt := 304) (by decide) (fun _ _ _ h => h)))))))))))))))))⟩, (List.forall_mem_cons.mpr ⟨⟨268, 308, (by decide +kernel : ¬ (nI 14 : Int32).toInt < 0), (by decide +kernel : ¬ (15 : Int) < (nI 14 : Int32).toInt), (by decide +kernel : (#[80, 120, 120, 148, 148, 148, 165, 165, 186, 186, 186, 206, 206, 218, 268, 273] : Array Int)[((nI 14 : Int32).toInt - 0).toNat]? = some 268), (by decide), (sl_aload_n C (i := 0) dL_act_308 rfl (sl_cW C ok_L_undo ⟨by decide, by decide, wu_990, wu_0, by decide +kernel⟩ wu_988 wu_989 dL_act_309 (sl_lr C hr dL_act_312)))⟩, (List.forall_mem_cons.mpr ⟨⟨273, 313, (by decide +kernel : ¬ (nI 15 : Int32).toInt < 0), (by decide +kernel : ¬ (15 : Int) < (nI 15 : Int32).toInt), (by decide +kernel : (#[80, 120, 120, 148, 148, 148, 165, 165, 186, 186, 186, 206, 206, 218, 268, 273] : Array Int)[((nI 15 : Int32).toInt - 0).toNat]? = some 273), (by decide), (sl_iload_n C (i := 3) dL_act_313 rfl (sl_iconst C (x := nI 2) dL_act_314 (by decide +kernel) (sl_irem C dL_act_315 (sl_if_ne C dL_act_316 (tgt := 331) (by decide) (sl_aload_n C (i := 0) dL_act_331 rfl (sl_iload_n C (i := 3) dL_act_332 rfl (sl_iconst C (x := nI 2) dL_act_333 (by decide +kernel) (sl_idiv C dL_act_334 (sl_iconst C (x := nI 1) dL_act_335 (by decide +kernel) (sl_iand C dL_act_336 (sl_cW C ok_L_restore ⟨by decide, by decide, wu_638, wu_0, by decide +kernel⟩ wu_636 wu_637 dL_act_337 (fun _ _ _ h => h)))))))) (sl_aload_n C (i := 0) dL_act_319 rfl (sl_iload_n C (i := 3) dL_act_320 rfl (sl_iconst C (x := nI 2) dL_act_321 (by decide +kernel) (sl_idiv C dL_act_322 (sl_iconst C (x := nI 1) dL_act_323 (by decide +kernel) (sl_iand C dL_act_324 (sl_cW C ok_L_save ⟨by decide, by decide, wu_608, wu_0, by decide +kernel⟩ wu_606 wu_607 dL_act_325 (sl_goto C dL_act_328 (tgt := 340) (by decide) (fun _ _ _ h => h)))))))))))))⟩, (fun _ h => absurd h List.not_mem_nil)⟩)⟩)⟩)⟩)⟩)⟩)⟩)⟩)⟩)⟩)⟩)⟩)⟩)⟩)⟩)⟩) (by decide) (sl_aload_n C (i := 0) dL_act_341 rfl (sl_iconst C (x := nI 1) dL_act_342 (by decide +kernel) (sl_iload_n C (i := 3) dL_act_343 rfl (sl_iload_n C (i := 3) dL_act_344 rfl (sl_iconst C (x := nI 4) dL_act_345 (by decide +kernel) (sl_irem C dL_act_346 (sl_if_ne C dL_act_347 (tgt := 355) (by decide) (sl_bipush C (x := nI 6) dL_act_355 (by decide +kernel) (fun _ _ _ h => h)) (sl_bipush C (x := nI 40) dL_act_350 (by decide +kernel) (sl_goto C dL_act_352 (tgt := 357) (by decide) (fun _ _ _ h => h)))))))))))))))
    (sl_aload_n C (i := 0) dL_act_160 rfl (sl_iload_n C (i := 3) dL_act_161 rfl (sl_bipush C (x := nI 100) dL_act_162 (by decide +kernel) (sl_irem C dL_act_164 (sl_iconst C (x := nI 4) dL_act_165 (by decide +kernel) (sl_iload_n C (i := 3) dL_act_166 rfl (sl_bipush C (x := nI 100) dL_act_167 (by decide +kernel) (sl_idiv C dL_act_169 (sl_bipush C (x := nI 17) dL_act_170 (by decide +kernel) (sl_irem C dL_act_172 (sl_iadd C dL_act_173 (sl_iconst C (x := nI 1) dL_act_174 (by decide +kernel) (sl_iload_n C (i := 3) dL_act_175 rfl (sl_sipush C (x := nI 1700) dL_act_176 (by decide +kernel) (sl_idiv C dL_act_179 (sl_bipush C (x := nI 12) dL_act_180 (by decide +kernel) (sl_irem C dL_act_182 (sl_iadd C dL_act_183 (sl_cW C ok_L_addFinder ⟨by decide, by decide, wu_797, wu_0, by decide +kernel⟩ wu_795 wu_796 dL_act_184 (sl_lr C hr dL_act_187))))))))))))))))))))
    (sl_aload_n C (i := 0) dL_act_188 rfl (sl_iload_n C (i := 3) dL_act_189 rfl (sl_iconst C (x := nI 4) dL_act_190 (by decide +kernel) (sl_irem C dL_act_191 (sl_iload_n C (i := 3) dL_act_192 rfl (sl_iconst C (x := nI 4) dL_act_193 (by decide +kernel) (sl_idiv C dL_act_194 (sl_bipush C (x := nI 41) dL_act_195 (by decide +kernel) (sl_irem C dL_act_197 (sl_bipush C (x := nI 20) dL_act_198 (by decide +kernel) (sl_isub C dL_act_200 (sl_cW C ok_L_wind ⟨by decide, by decide, wu_805, wu_0, by decide +kernel⟩ wu_803 wu_804 dL_act_201 (sl_lr C hr dL_act_204)))))))))))))
    (sl_aload_n C (i := 0) dL_act_205 rfl (sl_iload C dL_act_206 (sl_iload_n C (i := 3) dL_act_208 rfl (sl_iconst C (x := nI 5) dL_act_209 (by decide +kernel) (sl_idiv C dL_act_210 (sl_bipush C (x := nI 16) dL_act_211 (by decide +kernel) (sl_irem C dL_act_213 (sl_iconst C (x := nI 1) dL_act_214 (by decide +kernel) (sl_iload_n C (i := 3) dL_act_215 rfl (sl_bipush C (x := nI 80) dL_act_216 (by decide +kernel) (sl_idiv C dL_act_218 (sl_iconst C (x := nI 5) dL_act_219 (by decide +kernel) (sl_irem C dL_act_220 (sl_iadd C dL_act_221 (sl_cW C ok_L_change ⟨by decide, by decide, wu_813, wu_0, by decide +kernel⟩ wu_811 wu_812 dL_act_222 (sl_lr C hr dL_act_225))))))))))))))))
    (sl_aload_n C (i := 0) dL_act_226 rfl (sl_iload C dL_act_227 (sl_iload_n C (i := 3) dL_act_229 rfl (sl_iconst C (x := nI 5) dL_act_230 (by decide +kernel) (sl_idiv C dL_act_231 (sl_bipush C (x := nI 50) dL_act_232 (by decide +kernel) (sl_irem C dL_act_234 (sl_iload_n C (i := 3) dL_act_235 rfl (sl_sipush C (x := nI 250) dL_act_236 (by decide +kernel) (sl_idiv C dL_act_239 (sl_iconst C (x := nI 4) dL_act_240 (by decide +kernel) (sl_irem C dL_act_241 (sl_cW C ok_L_deliver ⟨by decide, by decide, wu_829, wu_0, by decide +kernel⟩ wu_827 wu_828 dL_act_242 (sl_lr C hr dL_act_245))))))))))))))
    (sl_aload_n C (i := 0) dL_act_246 rfl (sl_iload C dL_act_247 (sl_iload_n C (i := 3) dL_act_249 rfl (sl_iconst C (x := nI 5) dL_act_250 (by decide +kernel) (sl_idiv C dL_act_251 (sl_iconst C (x := nI 5) dL_act_252 (by decide +kernel) (sl_irem C dL_act_253 (sl_cW C ok_L_move ⟨by decide, by decide, wu_838, wu_0, by decide +kernel⟩ wu_836 wu_837 dL_act_254 (sl_lr C hr dL_act_257)))))))))
    (sl_cW C ok_L_set ⟨by decide, by decide, wu_862, wu_0, by decide +kernel⟩ wu_860 wu_861 dL_act_304 (sl_lr C hr dL_act_307))
    (sl_lr C hr dL_act_340)
    (sl_irem C dL_act_357 (sl_iadd C dL_act_358 (sl_cW C ok_L_run ⟨by decide, by decide, wu_855, wu_0, by decide +kernel⟩ wu_853 wu_854 dL_act_359 (sl_lr C hr dL_act_362))))
