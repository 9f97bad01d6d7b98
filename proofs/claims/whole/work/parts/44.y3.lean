
-- == nhouse_b ==
theorem dX9_house_0 : xd cX9_house 0 (.iload_n 1) 1 1 := ⟨by decide +kernel, rfl⟩
theorem dX9_house_1 : xd cX9_house 1 .i2l 1 2 := ⟨by decide +kernel, rfl⟩
theorem dX9_house_2 : xd cX9_house 2 (.lconst 1) 1 3 := ⟨by decide +kernel, rfl⟩
theorem dX9_house_3 : xd cX9_house 3 (.ldc2_w 233) 3 6 := ⟨by decide +kernel, rfl⟩
theorem dX9_house_6 : xd cX9_house 6 (.invokestatic 98) 3 9 := ⟨by decide +kernel, rfl⟩
theorem dX9_house_9 : xj cX9_house 9 (.ifCond .ne) 12 20 := ⟨11, by decide +kernel, rfl, by decide⟩
theorem dX9_house_12 : xd cX9_house 12 (.aload_n 0) 1 13 := ⟨by decide +kernel, rfl⟩
theorem dX9_house_13 : xd cX9_house 13 (.ldc 87) 2 15 := ⟨by decide +kernel, rfl⟩
theorem dX9_house_15 : xd cX9_house 15 (.invokevirtual 88) 3 18 := ⟨by decide +kernel, rfl⟩
theorem dX9_house_18 : xd cX9_house 18 .i2l 1 19 := ⟨by decide +kernel, rfl⟩
theorem dX9_house_19 : xd cX9_house 19 .lreturn 1 20 := ⟨by decide +kernel, rfl⟩
theorem dX9_house_20 : xd cX9_house 20 (.aload_n 0) 1 21 := ⟨by decide +kernel, rfl⟩
theorem dX9_house_21 : xd cX9_house 21 (.invokevirtual 240) 3 24 := ⟨by decide +kernel, rfl⟩
theorem dX9_house_24 : xd cX9_house 24 (.iconst 0) 1 25 := ⟨by decide +kernel, rfl⟩
theorem dX9_house_25 : xd cX9_house 25 (.istore_n 2) 1 26 := ⟨by decide +kernel, rfl⟩
theorem dX9_house_26 : xd cX9_house 26 (.iload_n 2) 1 27 := ⟨by decide +kernel, rfl⟩
theorem dX9_house_27 : xd cX9_house 27 (.iload_n 1) 1 28 := ⟨by decide +kernel, rfl⟩
theorem dX9_house_28 : xj cX9_house 28 (.if_icmp .ge) 31 61 := ⟨33, by decide +kernel, rfl, by decide⟩
theorem dX9_house_31 : xd cX9_house 31 (.aload_n 0) 1 32 := ⟨by decide +kernel, rfl⟩
theorem dX9_house_32 : xd cX9_house 32 (.invokevirtual 243) 3 35 := ⟨by decide +kernel, rfl⟩
theorem dX9_house_35 : xd cX9_house 35 (.istore_n 3) 1 36 := ⟨by decide +kernel, rfl⟩
theorem dX9_house_36 : xd cX9_house 36 (.aload_n 0) 1 37 := ⟨by decide +kernel, rfl⟩
theorem dX9_house_37 : xd cX9_house 37 (.getfield 69) 3 40 := ⟨by decide +kernel, rfl⟩
theorem dX9_house_40 : xd cX9_house 40 (.iload_n 3) 1 41 := ⟨by decide +kernel, rfl⟩
theorem dX9_house_41 : xd cX9_house 41 (.iconst 1) 1 42 := ⟨by decide +kernel, rfl⟩
theorem dX9_house_42 : xd cX9_house 42 .bastore 1 43 := ⟨by decide +kernel, rfl⟩
theorem dX9_house_43 : xd cX9_house 43 (.aload_n 0) 1 44 := ⟨by decide +kernel, rfl⟩
theorem dX9_house_44 : xd cX9_house 44 (.getfield 73) 3 47 := ⟨by decide +kernel, rfl⟩
theorem dX9_house_47 : xd cX9_house 47 (.iload_n 2) 1 48 := ⟨by decide +kernel, rfl⟩
theorem dX9_house_48 : xd cX9_house 48 (.aload_n 0) 1 49 := ⟨by decide +kernel, rfl⟩
theorem dX9_house_49 : xd cX9_house 49 (.getfield 19) 3 52 := ⟨by decide +kernel, rfl⟩
theorem dX9_house_52 : xd cX9_house 52 (.iload_n 3) 1 53 := ⟨by decide +kernel, rfl⟩
theorem dX9_house_53 : xd cX9_house 53 .iaload 1 54 := ⟨by decide +kernel, rfl⟩
theorem dX9_house_54 : xd cX9_house 54 .iastore 1 55 := ⟨by decide +kernel, rfl⟩
theorem dX9_house_55 : xd cX9_house 55 (.iinc 2 1) 3 58 := ⟨by decide +kernel, rfl⟩
theorem dX9_house_58 : xj cX9_house 58 .goto 61 26 := ⟨(-32), by decide +kernel, rfl, by decide⟩
theorem dX9_house_61 : xd cX9_house 61 (.aload_n 0) 1 62 := ⟨by decide +kernel, rfl⟩
theorem dX9_house_62 : xd cX9_house 62 (.invokevirtual 222) 3 65 := ⟨by decide +kernel, rfl⟩
theorem dX9_house_65 : xd cX9_house 65 (.aload_n 0) 1 66 := ⟨by decide +kernel, rfl⟩
theorem dX9_house_66 : xd cX9_house 66 (.aload_n 0) 1 67 := ⟨by decide +kernel, rfl⟩
theorem dX9_house_67 : xd cX9_house 67 (.getfield 7) 3 70 := ⟨by decide +kernel, rfl⟩
theorem dX9_house_70 : xd cX9_house 70 (.bipush 17) 2 72 := ⟨by decide +kernel, rfl⟩
theorem dX9_house_72 : xd cX9_house 72 .iaload 1 73 := ⟨by decide +kernel, rfl⟩
theorem dX9_house_73 : xd cX9_house 73 (.invokevirtual 208) 3 76 := ⟨by decide +kernel, rfl⟩
theorem dX9_house_76 : xd cX9_house 76 (.lstore_n 2) 1 77 := ⟨by decide +kernel, rfl⟩
theorem dX9_house_77 : xd cX9_house 77 (.lconst 0) 1 78 := ⟨by decide +kernel, rfl⟩
theorem dX9_house_78 : xd cX9_house 78 (.lstore 4) 2 80 := ⟨by decide +kernel, rfl⟩
theorem dX9_house_80 : xd cX9_house 80 (.iconst 0) 1 81 := ⟨by decide +kernel, rfl⟩
theorem dX9_house_81 : xd cX9_house 81 (.istore 6) 2 83 := ⟨by decide +kernel, rfl⟩
theorem dX9_house_83 : xd cX9_house 83 (.iload 6) 2 85 := ⟨by decide +kernel, rfl⟩
theorem dX9_house_85 : xd cX9_house 85 (.sipush 495) 3 88 := ⟨by decide +kernel, rfl⟩
theorem dX9_house_88 : xj cX9_house 88 (.if_icmp .ge) 91 241 := ⟨153, by decide +kernel, rfl, by decide⟩
theorem dX9_house_91 : xd cX9_house 91 (.iconst 0) 1 92 := ⟨by decide +kernel, rfl⟩
theorem dX9_house_92 : xd cX9_house 92 (.istore 7) 2 94 := ⟨by decide +kernel, rfl⟩
theorem dX9_house_94 : xd cX9_house 94 (.iload 7) 2 96 := ⟨by decide +kernel, rfl⟩
theorem dX9_house_96 : xd cX9_house 96 (.iconst 5) 1 97 := ⟨by decide +kernel, rfl⟩
theorem dX9_house_97 : xj cX9_house 97 (.if_icmp .ge) 100 114 := ⟨17, by decide +kernel, rfl, by decide⟩
theorem dX9_house_100 : xd cX9_house 100 (.aload_n 0) 1 101 := ⟨by decide +kernel, rfl⟩
theorem dX9_house_101 : xd cX9_house 101 (.getfield 76) 3 104 := ⟨by decide +kernel, rfl⟩
theorem dX9_house_104 : xd cX9_house 104 (.iload 7) 2 106 := ⟨by decide +kernel, rfl⟩
theorem dX9_house_106 : xd cX9_house 106 (.iconst 0) 1 107 := ⟨by decide +kernel, rfl⟩
theorem dX9_house_107 : xd cX9_house 107 .iastore 1 108 := ⟨by decide +kernel, rfl⟩
theorem dX9_house_108 : xd cX9_house 108 (.iinc 7 1) 3 111 := ⟨by decide +kernel, rfl⟩
theorem dX9_house_111 : xj cX9_house 111 .goto 114 94 := ⟨(-17), by decide +kernel, rfl, by decide⟩
theorem dX9_house_114 : xd cX9_house 114 (.iconst 0) 1 115 := ⟨by decide +kernel, rfl⟩
theorem dX9_house_115 : xd cX9_house 115 (.istore 7) 2 117 := ⟨by decide +kernel, rfl⟩
theorem dX9_house_117 : xd cX9_house 117 (.iload 7) 2 119 := ⟨by decide +kernel, rfl⟩
theorem dX9_house_119 : xd cX9_house 119 (.iload_n 1) 1 120 := ⟨by decide +kernel, rfl⟩
theorem dX9_house_120 : xj cX9_house 120 (.if_icmp .ge) 123 157 := ⟨37, by decide +kernel, rfl, by decide⟩
theorem dX9_house_123 : xd cX9_house 123 (.aload_n 0) 1 124 := ⟨by decide +kernel, rfl⟩
theorem dX9_house_124 : xd cX9_house 124 (.getfield 76) 3 127 := ⟨by decide +kernel, rfl⟩
theorem dX9_house_127 : xd cX9_house 127 (.aload_n 0) 1 128 := ⟨by decide +kernel, rfl⟩
theorem dX9_house_128 : xd cX9_house 128 (.aload_n 0) 1 129 := ⟨by decide +kernel, rfl⟩
theorem dX9_house_129 : xd cX9_house 129 (.getfield 73) 3 132 := ⟨by decide +kernel, rfl⟩
theorem dX9_house_132 : xd cX9_house 132 (.iload 7) 2 134 := ⟨by decide +kernel, rfl⟩
theorem dX9_house_134 : xd cX9_house 134 .iaload 1 135 := ⟨by decide +kernel, rfl⟩
theorem dX9_house_135 : xd cX9_house 135 (.aload_n 0) 1 136 := ⟨by decide +kernel, rfl⟩
theorem dX9_house_136 : xd cX9_house 136 (.getfield 19) 3 139 := ⟨by decide +kernel, rfl⟩
theorem dX9_house_139 : xd cX9_house 139 (.iload 6) 2 141 := ⟨by decide +kernel, rfl⟩
theorem dX9_house_141 : xd cX9_house 141 .iaload 1 142 := ⟨by decide +kernel, rfl⟩
theorem dX9_house_142 : xd cX9_house 142 .iand 1 143 := ⟨by decide +kernel, rfl⟩
theorem dX9_house_143 : xd cX9_house 143 (.invokevirtual 132) 3 146 := ⟨by decide +kernel, rfl⟩
theorem dX9_house_146 : xd cX9_house 146 .dup2 1 147 := ⟨by decide +kernel, rfl⟩
theorem dX9_house_147 : xd cX9_house 147 .iaload 1 148 := ⟨by decide +kernel, rfl⟩
theorem dX9_house_148 : xd cX9_house 148 (.iconst 1) 1 149 := ⟨by decide +kernel, rfl⟩
theorem dX9_house_149 : xd cX9_house 149 .iadd 1 150 := ⟨by decide +kernel, rfl⟩
theorem dX9_house_150 : xd cX9_house 150 .iastore 1 151 := ⟨by decide +kernel, rfl⟩
theorem dX9_house_151 : xd cX9_house 151 (.iinc 7 1) 3 154 := ⟨by decide +kernel, rfl⟩
theorem dX9_house_154 : xj cX9_house 154 .goto 157 117 := ⟨(-37), by decide +kernel, rfl, by decide⟩
theorem dX9_house_157 : xd cX9_house 157 (.iconst 2) 1 158 := ⟨by decide +kernel, rfl⟩
theorem dX9_house_158 : xd cX9_house 158 (.istore 7) 2 160 := ⟨by decide +kernel, rfl⟩
theorem dX9_house_160 : xd cX9_house 160 (.iload 7) 2 162 := ⟨by decide +kernel, rfl⟩
theorem dX9_house_162 : xd cX9_house 162 (.iconst 5) 1 163 := ⟨by decide +kernel, rfl⟩
theorem dX9_house_163 : xj cX9_house 163 (.if_icmp .ge) 166 235 := ⟨72, by decide +kernel, rfl, by decide⟩
theorem dX9_house_166 : xd cX9_house 166 (.lload 4) 2 168 := ⟨by decide +kernel, rfl⟩
theorem dX9_house_168 : xd cX9_house 168 (.aload_n 0) 1 169 := ⟨by decide +kernel, rfl⟩
theorem dX9_house_169 : xd cX9_house 169 (.getfield 76) 3 172 := ⟨by decide +kernel, rfl⟩
theorem dX9_house_172 : xd cX9_house 172 (.iload 7) 2 174 := ⟨by decide +kernel, rfl⟩
theorem dX9_house_174 : xd cX9_house 174 .iaload 1 175 := ⟨by decide +kernel, rfl⟩
theorem dX9_house_175 : xj cX9_house 175 (.ifCond .ne) 178 182 := ⟨7, by decide +kernel, rfl, by decide⟩
theorem dX9_house_178 : xd cX9_house 178 (.lconst 0) 1 179 := ⟨by decide +kernel, rfl⟩
theorem dX9_house_179 : xj cX9_house 179 .goto 182 226 := ⟨47, by decide +kernel, rfl, by decide⟩
theorem dX9_house_182 : xd cX9_house 182 (.aload_n 0) 1 183 := ⟨by decide +kernel, rfl⟩
theorem dX9_house_183 : xd cX9_house 183 (.getfield 76) 3 186 := ⟨by decide +kernel, rfl⟩
theorem dX9_house_186 : xd cX9_house 186 (.iload 7) 2 188 := ⟨by decide +kernel, rfl⟩
theorem dX9_house_188 : xd cX9_house 188 .iaload 1 189 := ⟨by decide +kernel, rfl⟩
theorem dX9_house_189 : xd cX9_house 189 .i2l 1 190 := ⟨by decide +kernel, rfl⟩
theorem dX9_house_190 : xd cX9_house 190 (.aload_n 0) 1 191 := ⟨by decide +kernel, rfl⟩
theorem dX9_house_191 : xd cX9_house 191 (.aload_n 0) 1 192 := ⟨by decide +kernel, rfl⟩
theorem dX9_house_192 : xd cX9_house 192 (.lload_n 2) 1 193 := ⟨by decide +kernel, rfl⟩
theorem dX9_house_193 : xd cX9_house 193 (.iload 7) 2 195 := ⟨by decide +kernel, rfl⟩
theorem dX9_house_195 : xd cX9_house 195 (.invokevirtual 212) 3 198 := ⟨by decide +kernel, rfl⟩
theorem dX9_house_198 : xd cX9_house 198 (.aload_n 0) 1 199 := ⟨by decide +kernel, rfl⟩
theorem dX9_house_199 : xd cX9_house 199 (.getfield 63) 3 202 := ⟨by decide +kernel, rfl⟩
theorem dX9_house_202 : xd cX9_house 202 (.iconst 3) 1 203 := ⟨by decide +kernel, rfl⟩
theorem dX9_house_203 : xd cX9_house 203 (.iload 6) 2 205 := ⟨by decide +kernel, rfl⟩
theorem dX9_house_205 : xd cX9_house 205 .imul 1 206 := ⟨by decide +kernel, rfl⟩
theorem dX9_house_206 : xd cX9_house 206 (.iload 7) 2 208 := ⟨by decide +kernel, rfl⟩
theorem dX9_house_208 : xd cX9_house 208 .iadd 1 209 := ⟨by decide +kernel, rfl⟩
theorem dX9_house_209 : xd cX9_house 209 (.iconst 2) 1 210 := ⟨by decide +kernel, rfl⟩
theorem dX9_house_210 : xd cX9_house 210 .isub 1 211 := ⟨by decide +kernel, rfl⟩
theorem dX9_house_211 : xd cX9_house 211 .iaload 1 212 := ⟨by decide +kernel, rfl⟩
theorem dX9_house_212 : xd cX9_house 212 (.aload_n 0) 1 213 := ⟨by decide +kernel, rfl⟩
theorem dX9_house_213 : xd cX9_house 213 (.getfield 76) 3 216 := ⟨by decide +kernel, rfl⟩
theorem dX9_house_216 : xd cX9_house 216 (.iload 7) 2 218 := ⟨by decide +kernel, rfl⟩
theorem dX9_house_218 : xd cX9_house 218 .iaload 1 219 := ⟨by decide +kernel, rfl⟩
theorem dX9_house_219 : xd cX9_house 219 .iadd 1 220 := ⟨by decide +kernel, rfl⟩
theorem dX9_house_220 : xd cX9_house 220 .i2l 1 221 := ⟨by decide +kernel, rfl⟩
theorem dX9_house_221 : xd cX9_house 221 .ldiv 1 222 := ⟨by decide +kernel, rfl⟩
theorem dX9_house_222 : xd cX9_house 222 (.invokevirtual 225) 3 225 := ⟨by decide +kernel, rfl⟩
theorem dX9_house_225 : xd cX9_house 225 .lmul 1 226 := ⟨by decide +kernel, rfl⟩
theorem dX9_house_226 : xd cX9_house 226 .ladd 1 227 := ⟨by decide +kernel, rfl⟩
theorem dX9_house_227 : xd cX9_house 227 (.lstore 4) 2 229 := ⟨by decide +kernel, rfl⟩
theorem dX9_house_229 : xd cX9_house 229 (.iinc 7 1) 3 232 := ⟨by decide +kernel, rfl⟩
theorem dX9_house_232 : xj cX9_house 232 .goto 235 160 := ⟨(-72), by decide +kernel, rfl, by decide⟩
theorem dX9_house_235 : xd cX9_house 235 (.iinc 6 1) 3 238 := ⟨by decide +kernel, rfl⟩
theorem dX9_house_238 : xj cX9_house 238 .goto 241 83 := ⟨(-155), by decide +kernel, rfl, by decide⟩
theorem dX9_house_241 : xd cX9_house 241 (.lload 4) 2 243 := ⟨by decide +kernel, rfl⟩
theorem dX9_house_243 : xd cX9_house 243 (.ldc2_w 233) 3 246 := ⟨by decide +kernel, rfl⟩
theorem dX9_house_246 : xd cX9_house 246 .ldiv 1 247 := ⟨by decide +kernel, rfl⟩
theorem dX9_house_247 : xd cX9_house 247 (.iload_n 1) 1 248 := ⟨by decide +kernel, rfl⟩
theorem dX9_house_248 : xd cX9_house 248 .i2l 1 249 := ⟨by decide +kernel, rfl⟩
theorem dX9_house_249 : xd cX9_house 249 (.aload_n 0) 1 250 := ⟨by decide +kernel, rfl⟩
theorem dX9_house_250 : xd cX9_house 250 (.getfield 7) 3 253 := ⟨by decide +kernel, rfl⟩
theorem dX9_house_253 : xd cX9_house 253 (.bipush 10) 2 255 := ⟨by decide +kernel, rfl⟩
theorem dX9_house_255 : xd cX9_house 255 .iaload 1 256 := ⟨by decide +kernel, rfl⟩
theorem dX9_house_256 : xd cX9_house 256 .i2l 1 257 := ⟨by decide +kernel, rfl⟩
theorem dX9_house_257 : xd cX9_house 257 .lmul 1 258 := ⟨by decide +kernel, rfl⟩
theorem dX9_house_258 : xd cX9_house 258 .lsub 1 259 := ⟨by decide +kernel, rfl⟩
theorem dX9_house_259 : xd cX9_house 259 .lreturn 1 260 := ⟨by decide +kernel, rfl⟩

set_option maxRecDepth 100000 in
set_option maxHeartbeats 4000000 in
theorem ct_nhouse_b (l : Launch) (g : XG) (aN aNs aNk aNf aNr aNp aNb aNa aNt aNbo aNsz aNnu aNl aNal aNlo aNw aNtr aNis aNbg aNow nts nta nop npr nac : Nat) (nkp nbd ntp nnw nsn nwn : Int32) (fi : Nat → Nat) (n : Int32) (hb : wI n 1 495 = 0) : Ct l g 34 0 0 yX9_house cX9_house 8 (some .long) [.ref aN, .int n] [(aN, .inr (9, [.ref aNs, .ref aNk, .int nkp, .ref aNf, .ref aNr, .ref aNp, .ref aNb, .ref aNa, .ref aNt, .int (nI nts), .ref aNbo, .ref aNsz, .ref aNnu, .int (nI nta), .int (nI nop), .int nbd, .int ntp, .int (nI npr), .int nnw, .int nsn, .int nwn, .ref aNl, .ref aNal, .ref aNlo, .int (nI nac), .ref aNw, .ref aNtr, .ref aNis, .ref aNbg, .ref aNow])), (aNf, .inl (g.2.1 0, 8, .inl (nIf (fnF fi))))] (xpl ((fndI 0).toInt64) [(aN, .inr (9, [.ref aNs, .ref aNk, .int nkp, .ref aNf, .ref aNr, .ref aNp, .ref aNb, .ref aNa, .ref aNt, .int (nI nts), .ref aNbo, .ref aNsz, .ref aNnu, .int (nI nta), .int (nI nop), .int nbd, .int ntp, .int (nI npr), .int nnw, .int nsn, .int nwn, .ref aNl, .ref aNal, .ref aNlo, .int (nI nac), .ref aNw, .ref aNtr, .ref aNis, .ref aNbg, .ref aNow])), (aNf, .inl (g.2.1 0, 8, .inl (nIf (fnF (updN fi 0 (fi 0 + 1))))))]) := by
  refine Ct.ofX (lv := [some (.ref aN), some (.int n), none, none, none, none, none, none]) (by decide) rfl (Nat.le_of_ble_eq_true rfl) (fun κ => ?_)
  generalize hQ : xQ κ g 0 0 _ = Q
  refine x_iload_n dX9_house_0 rfl ?_
  refine x_i2l dX9_house_1 ?_
  refine x_lconst 1 dX9_house_2 (by decide) ?_
  refine x_ldc2 dX9_house_3 kl_X9_233 ?_
  refine x_cSi dX9_house_6 ml_X9_98 mX9_isIn (ct_X9_isIn κ.2.1 g n.toInt64 1 495) rfl (Nat.le_of_ble_eq_true rfl) (by decide) (Nat.le_refl _) (Nat.le_refl _) ?_
  refine x_rei (wI n 1 495) (inL_w n 1 495 (by first | rfl | decide) (by first | rfl | decide)) ?_
  refine x_if_ne dX9_house_9 (fun c9 => ?_) (fun c9 => ?_)
  · have c9 : ¬ ((wI n 1 495) = 0) := c9
    exact absurd hb c9
  · have c9 : (wI n 1 495) = 0 := c9
    refine x_aload_n dX9_house_12 rfl ?_
    refine x_ldc dX9_house_13 k_X9_87 ?_
    refine x_cVi (ws' := [(aN, .inr (9, [.ref aNs, .ref aNk, .int nkp, .ref aNf, .ref aNr, .ref aNp, .ref aNb, .ref aNa, .ref aNt, .int (nI nts), .ref aNbo, .ref aNsz, .ref aNnu, .int (nI nta), .int (nI nop), .int nbd, .int ntp, .int (nI npr), .int nnw, .int nsn, .int nwn, .ref aNl, .ref aNal, .ref aNlo, .int (nI nac), .ref aNw, .ref aNtr, .ref aNis, .ref aNbg, .ref aNow])), (aNf, .inl (g.2.1 0, 8, .inl (nIf (fnF (updN fi 0 (fi 0 + 1))))))]) dX9_house_15 ml_X9_88 mX9_finds (ct_finds_0 κ.2.1 g aN aNs aNk aNf aNr aNp aNb aNa aNt aNbo aNsz aNnu aNl aNal aNlo aNw aNtr aNis aNbg aNow nts nta nop npr nac nkp nbd ntp nnw nsn nwn fi) [0, 1] rfl rfl 0 rfl rfl rfl (Nat.le_of_ble_eq_true rfl) (by decide) (Nat.le_refl _) (Nat.le_refl _) (rfl : [aN, aNf] = [aN, aNf]) rfl ?_
    refine x_i2l dX9_house_18 ?_
    rw [← hQ]
    refine x_lret dX9_house_19 rfl (Nat.le_of_ble_eq_true rfl) (Nat.le_of_ble_eq_true rfl) ?_
    exact ⟨rfl, rfl⟩

-- == nhouse_o ==
set_option maxRecDepth 100000 in
set_option maxHeartbeats 4000000 in
theorem ct_nhouse_o (l : Launch) (g : XG) (aN aNs aNk aNf aNr aNp aNb aNa aNt aNbo aNsz aNnu aNl aNal aNlo aNw aNtr aNis aNbg aNow nts nta nop npr nac : Nat) (nkp nbd nnw nsn nwn : Int32) (gr wk lk sz br : Nat) (z : Int32) (ru ki ma bb hd : Nat → Nat) (ce : Nat → Int32) (tb nli nal nlo sd : Nat → Nat) (L : Nat) (ntr nwi nbg now_ : Nat → Nat) (nis : Nat → Int32) (n : Nat) (hgr : gr ≤ 12) (hki : ∀ j, ki j ≤ 7) (hma : ∀ j, ma j ≤ 99999) (hwk : wk ≤ 40) (hlat : latI ce wk = nI L) (hL : L < 4096) (hsz : sz ≤ 60) (hbb : ∀ j, bb j < 256) (hsd : ∀ p, sd p ≤ 99) (hsv : ∀ p, p < 495 → sd p = if lk = 1 then clN (txV bb sz wk L p) else 1) (hlk : lk ≤ 1) (hwo : (nnw = 1 ∧ (nsn = 1 ∨ (nsn = 0 ∧ nli = sd))) ∨ (nnw = 0 ∧ nsn = 0 ∧ nli = sd ∧ nal = crH gr ki ma hd L sd ∧ nac = toH gr ki ma hd L sd ∧ ∀ q, q < gr → nlo q = laN (ki q) (ma q) L sd)) (hwc : wnI nnw nwn = 1 ∨ (wnI nnw nwn = 0 ∧ nwi = wiF (crH gr ki ma hd L sd))) (htot : toH gr ki ma hd L sd < 2 ^ 30) (hcb : ∀ p, crH gr ki ma hd L sd p ≤ 2 ^ 30) (hn : 1 ≤ n ∧ n ≤ 495) : Ct l g 34 0 0 yX9_house cX9_house 8 (some .long) [.ref aN, .int (nI n)] [(aN, .inr (9, [.ref aNs, .ref aNk, .int nkp, .ref aNf, .ref aNr, .ref aNp, .ref aNb, .ref aNa, .ref aNt, .int (nI nts), .ref aNbo, .ref aNsz, .ref aNnu, .int (nI nta), .int (nI nop), .int nbd, .int 0, .int (nI npr), .int nnw, .int nsn, .int nwn, .ref aNl, .ref aNal, .ref aNlo, .int (nI nac), .ref aNw, .ref aNtr, .ref aNis, .ref aNbg, .ref aNow])), (aNs, .inl (g.2.1 0, 919, .inl (msF gr wk z lk sz br ru ki ma bb ce hd))), (aNt, .inl (g.2.1 0, 60, .inl (nIf tb))), (aNa, .inl (g.2.1 0, 2475, .inl (nIf fcN))), (aNr, .inl (g.2.1 0, 495, .inl (nIf rowB))), (aNb, .inl (g.2.1 0, 4096, .inl (nIf popN))), (aNl, .inl (g.2.1 0, 495, .inl (nIf nli))), (aNal, .inl (g.2.1 0, 495, .inl (nIf nal))), (aNlo, .inl (g.2.1 0, 12, .inl (nIf nlo))), (aNtr, .inl (g.2.1 0, 495, .inl (nIf ntr))), (aNis, .inl (g.2.1 3, 495, .inl nis)), (aNw, .inl (g.2.1 0, 1485, .inl (nIf nwi))), (aNbg, .inl (g.2.1 0, 495, .inl (nIf nbg))), (aNow, .inl (g.2.1 0, 5, .inl (nIf now_)))] (fun vv_ ww_ => ∃ (zat : Nat) (zop : Nat) (zbd : Int32) (zpr : Nat) (lo2 : Nat → Nat) (bg2 : Nat → Nat) (ow2 : Nat → Nat), vv_ = some (.long (hoS ru (potL ru (nI (ru 7)).toInt64 (nI (toH gr ki ma hd L sd)).toInt64) (crH gr ki ma hd L sd) n 495 / 495 - (nI n).toInt64 * (nI (ru 0)).toInt64)) ∧ ww_ = [(aN, .inr (9, [.ref aNs, .ref aNk, .int nkp, .ref aNf, .ref aNr, .ref aNp, .ref aNb, .ref aNa, .ref aNt, .int (nI nts), .ref aNbo, .ref aNsz, .ref aNnu, .int (nI zat), .int (nI zop), .int zbd, .int 0, .int (nI zpr), .int 0, .int 0, .int 0, .ref aNl, .ref aNal, .ref aNlo, .int (nI (toH gr ki ma hd L sd)), .ref aNw, .ref aNtr, .ref aNis, .ref aNbg, .ref aNow])), (aNs, .inl (g.2.1 0, 919, .inl (msF gr wk z lk sz br ru ki ma bb ce hd))), (aNt, .inl (g.2.1 0, 60, .inl (nIf tb))), (aNa, .inl (g.2.1 0, 2475, .inl (nIf fcN))), (aNr, .inl (g.2.1 0, 495, .inl (nIf rowB))), (aNb, .inl (g.2.1 0, 4096, .inl (nIf popN))), (aNl, .inl (g.2.1 0, 495, .inl (nIf sd))), (aNal, .inl (g.2.1 0, 495, .inl (nIf (crH gr ki ma hd L sd)))), (aNlo, .inl (g.2.1 0, 12, .inl (nIf lo2))), (aNtr, .inl (g.2.1 0, 495, .inl (nIf (crH gr ki ma hd L sd)))), (aNis, .inl (g.2.1 3, 495, .inl (tkS (crH gr ki ma hd L sd) n))), (aNw, .inl (g.2.1 0, 1485, .inl (nIf (wiF (crH gr ki ma hd L sd))))), (aNbg, .inl (g.2.1 0, 495, .inl (nIf bg2))), (aNow, .inl (g.2.1 0, 5, .inl (nIf ow2)))] ∧ (∀ q, q < gr → lo2 q = laN (ki q) (ma q) L sd)) := by
  refine Ct.ofX (lv := [some (.ref aN), some (.int (nI n)), none, none, none, none, none, none]) (by decide) rfl (Nat.le_of_ble_eq_true rfl) (fun κ => ?_)
  generalize hQ : xQ κ g 0 0 _ = Q
  have htt := htot
  simp only [toH] at htt
  refine x_iload_n dX9_house_0 rfl ?_
  refine x_i2l dX9_house_1 ?_
  refine x_lconst 1 dX9_house_2 (by decide) ?_
  refine x_ldc2 dX9_house_3 kl_X9_233 ?_
  refine x_cSi dX9_house_6 ml_X9_98 mX9_isIn (ct_X9_isIn κ.2.1 g ((nI n).toInt64) 1 495) rfl (Nat.le_of_ble_eq_true rfl) (by decide) (Nat.le_refl _) (Nat.le_refl _) ?_
  refine x_rei (wI (nI n) 1 495) (inL_w (nI n) 1 495 (by first | rfl | decide) (by first | rfl | decide)) ?_
  refine x_rei 1 (show wI (nI n) 1 495 = 1 from wI_nat (n := n) (a := 1) (b := 495) ⟨by omega, by omega, by omega, by omega⟩) ?_
  refine x_if_ne dX9_house_9 (fun c9 => ?_) (fun c9 => ?_)
  rotate_left
  · exact absurd c9 (by decide)
  refine x_aload_n dX9_house_20 rfl ?_
  refine x_callV dX9_house_21 ml_X9_240 mX9_begins (ct_X9_begins κ.2.1 g aN aNs aNk aNf aNr aNp aNb aNa aNt aNbo aNsz aNnu aNl aNal aNlo aNw aNtr aNis aNbg aNow nts nta nop npr nac nkp nbd nnw nsn nwn gr wk lk sz br z ru ki ma bb hd ce tb nli nal nlo sd L ntr nis (hgr) (hki) (hma) (hwk) (hlat) (hL) (hsz) (hbb) (hsd) (hsv) (hlk) (hwo)) [0, 1, 2, 3, 4, 5, 6, 7, 8, 9, 10] rfl rfl 0 rfl rfl rfl (Nat.le_of_ble_eq_true rfl) (by decide) (Nat.le_refl _) (Nat.le_refl _) (fun vv ww hp => ?_)
  obtain ⟨z1, z2, z3, z4, z5, rfl, rfl, p6⟩ := hp
  refine ⟨(rfl : [aN, aNs, aNt, aNa, aNr, aNb, aNl, aNal, aNlo, aNtr, aNis] = [aN, aNs, aNt, aNa, aNr, aNb, aNl, aNal, aNlo, aNtr, aNis]), x_eq (lv' := [some (.ref aN), some (.int (nI n)), none, none, none, none, none, none]) (st' := []) (ws' := [(aN, .inr (9, [.ref aNs, .ref aNk, .int nkp, .ref aNf, .ref aNr, .ref aNp, .ref aNb, .ref aNa, .ref aNt, .int (nI nts), .ref aNbo, .ref aNsz, .ref aNnu, .int (nI z1), .int (nI z2), .int z3, .int 0, .int (nI z4), .int 0, .int 0, .int (wnI nnw nwn), .ref aNl, .ref aNal, .ref aNlo, .int (nI (toH gr ki ma hd L sd)), .ref aNw, .ref aNtr, .ref aNis, .ref aNbg, .ref aNow])), (aNs, .inl (g.2.1 0, 919, .inl (msF gr wk z lk sz br ru ki ma bb ce hd))), (aNt, .inl (g.2.1 0, 60, .inl (nIf tb))), (aNa, .inl (g.2.1 0, 2475, .inl (nIf fcN))), (aNr, .inl (g.2.1 0, 495, .inl (nIf rowB))), (aNb, .inl (g.2.1 0, 4096, .inl (nIf popN))), (aNl, .inl (g.2.1 0, 495, .inl (nIf sd))), (aNal, .inl (g.2.1 0, 495, .inl (nIf (crH gr ki ma hd L sd)))), (aNlo, .inl (g.2.1 0, 12, .inl (nIf z5))), (aNtr, .inl (g.2.1 0, 495, .inl (nIf (crH gr ki ma hd L sd)))), (aNis, .inl (g.2.1 3, 495, .inl (fun _ => 0))), (aNw, .inl (g.2.1 0, 1485, .inl (nIf nwi))), (aNbg, .inl (g.2.1 0, 495, .inl (nIf nbg))), (aNow, .inl (g.2.1 0, 5, .inl (nIf now_)))]) ?_ rfl rfl rfl⟩
  refine x_iconst 0 dX9_house_24 (by decide) ?_
  refine x_istore_n (lv' := [some (.ref aN), some (.int (nI n)), some (.int 0), none, none, none, none, none]) dX9_house_25 (xlt rfl) rfl ?_
  have L26_7 : ∀ (k : Nat), k ≤ n → ∀ (ti : Nat → Int32), ti = tkS (crH gr ki ma hd L sd) k → ∀ (bf : Nat → Nat), bf = fillT k (fun k => rowB (pkN (crH gr ki ma hd L sd) k)) nbg → Xs κ g 34 0 0 cX9_house yX9_house (some .long) Q 0 0 26 [some (.ref aN), some (.int (nI n)), some (.int (nI k)), none, none, none, none, none] [] [(aN, .inr (9, [.ref aNs, .ref aNk, .int nkp, .ref aNf, .ref aNr, .ref aNp, .ref aNb, .ref aNa, .ref aNt, .int (nI nts), .ref aNbo, .ref aNsz, .ref aNnu, .int (nI z1), .int (nI z2), .int z3, .int 0, .int (nI z4), .int 0, .int 0, .int (wnI nnw nwn), .ref aNl, .ref aNal, .ref aNlo, .int (nI (toH gr ki ma hd L sd)), .ref aNw, .ref aNtr, .ref aNis, .ref aNbg, .ref aNow])), (aNs, .inl (g.2.1 0, 919, .inl (msF gr wk z lk sz br ru ki ma bb ce hd))), (aNt, .inl (g.2.1 0, 60, .inl (nIf tb))), (aNa, .inl (g.2.1 0, 2475, .inl (nIf fcN))), (aNr, .inl (g.2.1 0, 495, .inl (nIf rowB))), (aNb, .inl (g.2.1 0, 4096, .inl (nIf popN))), (aNl, .inl (g.2.1 0, 495, .inl (nIf sd))), (aNal, .inl (g.2.1 0, 495, .inl (nIf (crH gr ki ma hd L sd)))), (aNlo, .inl (g.2.1 0, 12, .inl (nIf z5))), (aNtr, .inl (g.2.1 0, 495, .inl (nIf (crH gr ki ma hd L sd)))), (aNis, .inl (g.2.1 3, 495, .inl ti)), (aNw, .inl (g.2.1 0, 1485, .inl (nIf nwi))), (aNbg, .inl (g.2.1 0, 495, .inl (nIf bf))), (aNow, .inl (g.2.1 0, 5, .inl (nIf now_)))] := by
    refine upTo n (fun k hi26 ih26 => ?_)
    intro ti eti
    subst eti
    intro bf ebf
    subst ebf
    refine x_iload_n dX9_house_26 rfl ?_
    refine x_iload_n dX9_house_27 rfl ?_
    refine x_icmp_ge dX9_house_28 (fun c28 => ?_) (fun c28 => ?_)
    · have c28 : (nI n) ≤ (nI k) := c28
      have c28n := (nI_leI (a := n) (b := k) (by omega) (by omega)).mp c28
      have hxc28 : k = n := by omega
      try rw [hxc28]
      refine x_aload_n dX9_house_61 rfl ?_
      refine x_cVv (ws' := [(aN, .inr (9, [.ref aNs, .ref aNk, .int nkp, .ref aNf, .ref aNr, .ref aNp, .ref aNb, .ref aNa, .ref aNt, .int (nI nts), .ref aNbo, .ref aNsz, .ref aNnu, .int (nI z1), .int (nI z2), .int z3, .int 0, .int (nI z4), .int 0, .int 0, .int 0, .ref aNl, .ref aNal, .ref aNlo, .int (nI (toH gr ki ma hd L sd)), .ref aNw, .ref aNtr, .ref aNis, .ref aNbg, .ref aNow])), (aNs, .inl (g.2.1 0, 919, .inl (msF gr wk z lk sz br ru ki ma bb ce hd))), (aNt, .inl (g.2.1 0, 60, .inl (nIf tb))), (aNa, .inl (g.2.1 0, 2475, .inl (nIf fcN))), (aNr, .inl (g.2.1 0, 495, .inl (nIf rowB))), (aNb, .inl (g.2.1 0, 4096, .inl (nIf popN))), (aNl, .inl (g.2.1 0, 495, .inl (nIf sd))), (aNal, .inl (g.2.1 0, 495, .inl (nIf (crH gr ki ma hd L sd)))), (aNlo, .inl (g.2.1 0, 12, .inl (nIf z5))), (aNtr, .inl (g.2.1 0, 495, .inl (nIf (crH gr ki ma hd L sd)))), (aNis, .inl (g.2.1 3, 495, .inl (tkS (crH gr ki ma hd L sd) n))), (aNw, .inl (g.2.1 0, 1485, .inl (nIf (wiF (crH gr ki ma hd L sd))))), (aNbg, .inl (g.2.1 0, 495, .inl (nIf (fillT n (fun n => rowB (pkN (crH gr ki ma hd L sd) n)) nbg)))), (aNow, .inl (g.2.1 0, 5, .inl (nIf now_)))]) dX9_house_62 ml_X9_222 mX9_counts (ct_X9_counts κ.2.1 g aN aNs aNk aNf aNr aNp aNb aNa aNt aNbo aNsz aNnu aNl aNal aNlo aNw aNtr aNis aNbg aNow nts z1 z2 z4 (toH gr ki ma hd L sd) nkp z3 0 0 (wnI nnw nwn) (crH gr ki ma hd L sd) nwi (hwc)) [0, 4, 5, 7, 11] rfl rfl 0 rfl rfl rfl (Nat.le_of_ble_eq_true rfl) (by decide) (Nat.le_refl _) (Nat.le_refl _) (rfl : [aN, aNr, aNb, aNal, aNw] = [aN, aNr, aNb, aNal, aNw]) rfl ?_
      refine x_aload_n dX9_house_65 rfl ?_
      refine x_aload_n dX9_house_66 rfl ?_
      refine x_get dX9_house_67 0 0 inX9 fl_X9_7 rfl rfl (by decide) rfl ?_
      refine x_bipush 17 dX9_house_70 (by decide) ?_
      refine x_iald dX9_house_72 1 17 rfl (rfl) (by decide) (by decide) ?_
      refine x_rei (nI (ru 7)) (msg_ru (x := 7) (by omega) (by omega)) ?_
      refine x_cVl0 dX9_house_73 ml_X9_208 mX9_potWith (ct_pot_o κ.2.1 g aN aNs aNk aNf aNr aNp aNb aNa aNt aNbo aNsz aNnu aNl aNal aNlo aNw aNtr aNis aNbg aNow nts z1 z2 z4 (toH gr ki ma hd L sd) nkp z3 0 0 0 gr wk lk sz br z ru ki ma bb hd ce (ru 7)) [0, 1] rfl rfl 0 rfl rfl rfl (Nat.le_of_ble_eq_true rfl) (by decide) (Nat.le_refl _) (Nat.le_refl _) ?_
      refine x_lstore_n (lv' := [some (.ref aN), some (.int (nI n)), some (.long (potL ru (nI (ru 7)).toInt64 (nI (toH gr ki ma hd L sd)).toInt64)), none, none, none, none, none]) dX9_house_76 (xlt rfl) rfl ?_
      refine x_lconst 0 dX9_house_77 (by decide) ?_
      refine x_lstore (lv' := [some (.ref aN), some (.int (nI n)), some (.long (potL ru (nI (ru 7)).toInt64 (nI (toH gr ki ma hd L sd)).toInt64)), none, some (.long 0), none, none, none]) dX9_house_78 (xlt rfl) rfl ?_
      refine x_iconst 0 dX9_house_80 (by decide) ?_
      refine x_istore (lv' := [some (.ref aN), some (.int (nI n)), some (.long (potL ru (nI (ru 7)).toInt64 (nI (toH gr ki ma hd L sd)).toInt64)), none, some (.long 0), none, some (.int 0), none]) dX9_house_81 (xlt rfl) rfl ?_
      have L83_8 : ∀ (i : Nat), i ≤ 495 → ∀ (al : Int64), al = hoS ru (potL ru (nI (ru 7)).toInt64 (nI (toH gr ki ma hd L sd)).toInt64) (crH gr ki ma hd L sd) n i → ∀ (oq : Nat → Nat), Xs κ g 34 0 0 cX9_house yX9_house (some .long) Q 0 0 83 [some (.ref aN), some (.int (nI n)), some (.long (potL ru (nI (ru 7)).toInt64 (nI (toH gr ki ma hd L sd)).toInt64)), none, some (.long al), none, some (.int (nI i)), none] [] [(aN, .inr (9, [.ref aNs, .ref aNk, .int nkp, .ref aNf, .ref aNr, .ref aNp, .ref aNb, .ref aNa, .ref aNt, .int (nI nts), .ref aNbo, .ref aNsz, .ref aNnu, .int (nI z1), .int (nI z2), .int z3, .int 0, .int (nI z4), .int 0, .int 0, .int 0, .ref aNl, .ref aNal, .ref aNlo, .int (nI (toH gr ki ma hd L sd)), .ref aNw, .ref aNtr, .ref aNis, .ref aNbg, .ref aNow])), (aNs, .inl (g.2.1 0, 919, .inl (msF gr wk z lk sz br ru ki ma bb ce hd))), (aNt, .inl (g.2.1 0, 60, .inl (nIf tb))), (aNa, .inl (g.2.1 0, 2475, .inl (nIf fcN))), (aNr, .inl (g.2.1 0, 495, .inl (nIf rowB))), (aNb, .inl (g.2.1 0, 4096, .inl (nIf popN))), (aNl, .inl (g.2.1 0, 495, .inl (nIf sd))), (aNal, .inl (g.2.1 0, 495, .inl (nIf (crH gr ki ma hd L sd)))), (aNlo, .inl (g.2.1 0, 12, .inl (nIf z5))), (aNtr, .inl (g.2.1 0, 495, .inl (nIf (crH gr ki ma hd L sd)))), (aNis, .inl (g.2.1 3, 495, .inl (tkS (crH gr ki ma hd L sd) n))), (aNw, .inl (g.2.1 0, 1485, .inl (nIf (wiF (crH gr ki ma hd L sd))))), (aNbg, .inl (g.2.1 0, 495, .inl (nIf (fillT n (fun n => rowB (pkN (crH gr ki ma hd L sd) n)) nbg)))), (aNow, .inl (g.2.1 0, 5, .inl (nIf oq)))] := by
        refine upTo 495 (fun i hi83 ih83 => ?_)
        intro al eal
        subst eal
        intro oq
        refine x_iload dX9_house_83 rfl ?_
        refine x_sipush 495 dX9_house_85 (by decide) ?_
        refine x_icmp_ge dX9_house_88 (fun c88 => ?_) (fun c88 => ?_)
        · have c88 : 495 ≤ (nI i) := c88
          have c88n := (nI_leI (a := 495) (b := i) (by omega) (by omega)).mp c88
          have hxc88 : i = 495 := by omega
          try rw [hxc88]
          refine x_lload dX9_house_241 rfl ?_
          refine x_ldc2 dX9_house_243 kl_X9_233 ?_
          refine x_ldiv dX9_house_246 (by decide) ?_
          refine x_iload_n dX9_house_247 rfl ?_
          refine x_i2l dX9_house_248 ?_
          refine x_aload_n dX9_house_249 rfl ?_
          refine x_get dX9_house_250 0 0 inX9 fl_X9_7 rfl rfl (by decide) rfl ?_
          refine x_bipush 10 dX9_house_253 (by decide) ?_
          refine x_iald dX9_house_255 1 10 rfl (rfl) (by decide) (by decide) ?_
          refine x_rei (nI (ru 0)) (msg_ru (x := 0) (by omega) (by omega)) ?_
          refine x_i2l dX9_house_256 ?_
          refine x_lmul dX9_house_257 ?_
          refine x_lsub dX9_house_258 ?_
          rw [← hQ]
          refine x_lret dX9_house_259 rfl (Nat.le_of_ble_eq_true rfl) (Nat.le_of_ble_eq_true rfl) ?_
          exact ⟨_, _, _, _, _, _, _, rfl, rfl, p6⟩
        · have c88 : ¬ (495 ≤ (nI i)) := c88
          have c88n := mt (nI_leI (a := 495) (b := i) (by omega) (by omega)).mpr c88
          refine x_iconst 0 dX9_house_91 (by decide) ?_
          refine x_istore (lv' := [some (.ref aN), some (.int (nI n)), some (.long (potL ru (nI (ru 7)).toInt64 (nI (toH gr ki ma hd L sd)).toInt64)), none, some (.long (hoS ru (potL ru (nI (ru 7)).toInt64 (nI (toH gr ki ma hd L sd)).toInt64) (crH gr ki ma hd L sd) n i)), none, some (.int (nI i)), some (.int 0)]) dX9_house_92 (xlt rfl) rfl ?_
          refine x_iload dX9_house_94 rfl ?_
          refine x_iconst 5 dX9_house_96 (by decide) ?_
          refine x_icmp_ge dX9_house_97 (fun c97 => ?_) (fun c97 => ?_)
          · exact absurd c97 (by decide)
          refine x_aload_n dX9_house_100 rfl ?_
          refine x_get dX9_house_101 0 29 inX9 fl_X9_76 rfl rfl (by decide) rfl ?_
          refine x_iload dX9_house_104 rfl ?_
          refine x_iconst 0 dX9_house_106 (by decide) ?_
          refine x_rei (nI 0) rfl ?_
          refine x_iast (ws' := [(aN, .inr (9, [.ref aNs, .ref aNk, .int nkp, .ref aNf, .ref aNr, .ref aNp, .ref aNb, .ref aNa, .ref aNt, .int (nI nts), .ref aNbo, .ref aNsz, .ref aNnu, .int (nI z1), .int (nI z2), .int z3, .int 0, .int (nI z4), .int 0, .int 0, .int 0, .ref aNl, .ref aNal, .ref aNlo, .int (nI (toH gr ki ma hd L sd)), .ref aNw, .ref aNtr, .ref aNis, .ref aNbg, .ref aNow])), (aNs, .inl (g.2.1 0, 919, .inl (msF gr wk z lk sz br ru ki ma bb ce hd))), (aNt, .inl (g.2.1 0, 60, .inl (nIf tb))), (aNa, .inl (g.2.1 0, 2475, .inl (nIf fcN))), (aNr, .inl (g.2.1 0, 495, .inl (nIf rowB))), (aNb, .inl (g.2.1 0, 4096, .inl (nIf popN))), (aNl, .inl (g.2.1 0, 495, .inl (nIf sd))), (aNal, .inl (g.2.1 0, 495, .inl (nIf (crH gr ki ma hd L sd)))), (aNlo, .inl (g.2.1 0, 12, .inl (nIf z5))), (aNtr, .inl (g.2.1 0, 495, .inl (nIf (crH gr ki ma hd L sd)))), (aNis, .inl (g.2.1 3, 495, .inl (tkS (crH gr ki ma hd L sd) n))), (aNw, .inl (g.2.1 0, 1485, .inl (nIf (wiF (crH gr ki ma hd L sd))))), (aNbg, .inl (g.2.1 0, 495, .inl (nIf (fillT n (fun n => rowB (pkN (crH gr ki ma hd L sd) n)) nbg)))), (aNow, .inl (g.2.1 0, 5, .inl (nIf (updN oq 0 0))))]) dX9_house_107 13 0 rfl (rfl) (by decide) (by decide) (by rw [upd_nIf]; rfl) ?_
          refine x_iinc (lv' := [some (.ref aN), some (.int (nI n)), some (.long (potL ru (nI (ru 7)).toInt64 (nI (toH gr ki ma hd L sd)).toInt64)), none, some (.long (hoS ru (potL ru (nI (ru 7)).toInt64 (nI (toH gr ki ma hd L sd)).toInt64) (crH gr ki ma hd L sd) n i)), none, some (.int (nI i)), some (.int 1)]) (1) dX9_house_108 rfl (by decide) rfl ?_
          refine x_goto dX9_house_111 ?_
          refine x_iload dX9_house_94 rfl ?_
          refine x_iconst 5 dX9_house_96 (by decide) ?_
          refine x_icmp_ge dX9_house_97 (fun c97 => ?_) (fun c97 => ?_)
          · exact absurd c97 (by decide)
          refine x_aload_n dX9_house_100 rfl ?_
          refine x_get dX9_house_101 0 29 inX9 fl_X9_76 rfl rfl (by decide) rfl ?_
          refine x_iload dX9_house_104 rfl ?_
          refine x_iconst 0 dX9_house_106 (by decide) ?_
          refine x_rei (nI 0) rfl ?_
          refine x_iast (ws' := [(aN, .inr (9, [.ref aNs, .ref aNk, .int nkp, .ref aNf, .ref aNr, .ref aNp, .ref aNb, .ref aNa, .ref aNt, .int (nI nts), .ref aNbo, .ref aNsz, .ref aNnu, .int (nI z1), .int (nI z2), .int z3, .int 0, .int (nI z4), .int 0, .int 0, .int 0, .ref aNl, .ref aNal, .ref aNlo, .int (nI (toH gr ki ma hd L sd)), .ref aNw, .ref aNtr, .ref aNis, .ref aNbg, .ref aNow])), (aNs, .inl (g.2.1 0, 919, .inl (msF gr wk z lk sz br ru ki ma bb ce hd))), (aNt, .inl (g.2.1 0, 60, .inl (nIf tb))), (aNa, .inl (g.2.1 0, 2475, .inl (nIf fcN))), (aNr, .inl (g.2.1 0, 495, .inl (nIf rowB))), (aNb, .inl (g.2.1 0, 4096, .inl (nIf popN))), (aNl, .inl (g.2.1 0, 495, .inl (nIf sd))), (aNal, .inl (g.2.1 0, 495, .inl (nIf (crH gr ki ma hd L sd)))), (aNlo, .inl (g.2.1 0, 12, .inl (nIf z5))), (aNtr, .inl (g.2.1 0, 495, .inl (nIf (crH gr ki ma hd L sd)))), (aNis, .inl (g.2.1 3, 495, .inl (tkS (crH gr ki ma hd L sd) n))), (aNw, .inl (g.2.1 0, 1485, .inl (nIf (wiF (crH gr ki ma hd L sd))))), (aNbg, .inl (g.2.1 0, 495, .inl (nIf (fillT n (fun n => rowB (pkN (crH gr ki ma hd L sd) n)) nbg)))), (aNow, .inl (g.2.1 0, 5, .inl (nIf (updN (updN oq 0 0) 1 0))))]) dX9_house_107 13 1 rfl (rfl) (by decide) (by decide) (by rw [upd_nIf]; rfl) ?_
          refine x_iinc (lv' := [some (.ref aN), some (.int (nI n)), some (.long (potL ru (nI (ru 7)).toInt64 (nI (toH gr ki ma hd L sd)).toInt64)), none, some (.long (hoS ru (potL ru (nI (ru 7)).toInt64 (nI (toH gr ki ma hd L sd)).toInt64) (crH gr ki ma hd L sd) n i)), none, some (.int (nI i)), some (.int 2)]) (2) dX9_house_108 rfl (by decide) rfl ?_
          refine x_goto dX9_house_111 ?_
          refine x_iload dX9_house_94 rfl ?_
          refine x_iconst 5 dX9_house_96 (by decide) ?_
          refine x_icmp_ge dX9_house_97 (fun c97 => ?_) (fun c97 => ?_)
          · exact absurd c97 (by decide)
          refine x_aload_n dX9_house_100 rfl ?_
          refine x_get dX9_house_101 0 29 inX9 fl_X9_76 rfl rfl (by decide) rfl ?_
          refine x_iload dX9_house_104 rfl ?_
          refine x_iconst 0 dX9_house_106 (by decide) ?_
          refine x_rei (nI 0) rfl ?_
          refine x_iast (ws' := [(aN, .inr (9, [.ref aNs, .ref aNk, .int nkp, .ref aNf, .ref aNr, .ref aNp, .ref aNb, .ref aNa, .ref aNt, .int (nI nts), .ref aNbo, .ref aNsz, .ref aNnu, .int (nI z1), .int (nI z2), .int z3, .int 0, .int (nI z4), .int 0, .int 0, .int 0, .ref aNl, .ref aNal, .ref aNlo, .int (nI (toH gr ki ma hd L sd)), .ref aNw, .ref aNtr, .ref aNis, .ref aNbg, .ref aNow])), (aNs, .inl (g.2.1 0, 919, .inl (msF gr wk z lk sz br ru ki ma bb ce hd))), (aNt, .inl (g.2.1 0, 60, .inl (nIf tb))), (aNa, .inl (g.2.1 0, 2475, .inl (nIf fcN))), (aNr, .inl (g.2.1 0, 495, .inl (nIf rowB))), (aNb, .inl (g.2.1 0, 4096, .inl (nIf popN))), (aNl, .inl (g.2.1 0, 495, .inl (nIf sd))), (aNal, .inl (g.2.1 0, 495, .inl (nIf (crH gr ki ma hd L sd)))), (aNlo, .inl (g.2.1 0, 12, .inl (nIf z5))), (aNtr, .inl (g.2.1 0, 495, .inl (nIf (crH gr ki ma hd L sd)))), (aNis, .inl (g.2.1 3, 495, .inl (tkS (crH gr ki ma hd L sd) n))), (aNw, .inl (g.2.1 0, 1485, .inl (nIf (wiF (crH gr ki ma hd L sd))))), (aNbg, .inl (g.2.1 0, 495, .inl (nIf (fillT n (fun n => rowB (pkN (crH gr ki ma hd L sd) n)) nbg)))), (aNow, .inl (g.2.1 0, 5, .inl (nIf (updN (updN (updN oq 0 0) 1 0) 2 0))))]) dX9_house_107 13 2 rfl (rfl) (by decide) (by decide) (by rw [upd_nIf]; rfl) ?_
          refine x_iinc (lv' := [some (.ref aN), some (.int (nI n)), some (.long (potL ru (nI (ru 7)).toInt64 (nI (toH gr ki ma hd L sd)).toInt64)), none, some (.long (hoS ru (potL ru (nI (ru 7)).toInt64 (nI (toH gr ki ma hd L sd)).toInt64) (crH gr ki ma hd L sd) n i)), none, some (.int (nI i)), some (.int 3)]) (3) dX9_house_108 rfl (by decide) rfl ?_
          refine x_goto dX9_house_111 ?_
          refine x_iload dX9_house_94 rfl ?_
          refine x_iconst 5 dX9_house_96 (by decide) ?_
          refine x_icmp_ge dX9_house_97 (fun c97 => ?_) (fun c97 => ?_)
          · exact absurd c97 (by decide)
          refine x_aload_n dX9_house_100 rfl ?_
          refine x_get dX9_house_101 0 29 inX9 fl_X9_76 rfl rfl (by decide) rfl ?_
          refine x_iload dX9_house_104 rfl ?_
          refine x_iconst 0 dX9_house_106 (by decide) ?_
          refine x_rei (nI 0) rfl ?_
          refine x_iast (ws' := [(aN, .inr (9, [.ref aNs, .ref aNk, .int nkp, .ref aNf, .ref aNr, .ref aNp, .ref aNb, .ref aNa, .ref aNt, .int (nI nts), .ref aNbo, .ref aNsz, .ref aNnu, .int (nI z1), .int (nI z2), .int z3, .int 0, .int (nI z4), .int 0, .int 0, .int 0, .ref aNl, .ref aNal, .ref aNlo, .int (nI (toH gr ki ma hd L sd)), .ref aNw, .ref aNtr, .ref aNis, .ref aNbg, .ref aNow])), (aNs, .inl (g.2.1 0, 919, .inl (msF gr wk z lk sz br ru ki ma bb ce hd))), (aNt, .inl (g.2.1 0, 60, .inl (nIf tb))), (aNa, .inl (g.2.1 0, 2475, .inl (nIf fcN))), (aNr, .inl (g.2.1 0, 495, .inl (nIf rowB))), (aNb, .inl (g.2.1 0, 4096, .inl (nIf popN))), (aNl, .inl (g.2.1 0, 495, .inl (nIf sd))), (aNal, .inl (g.2.1 0, 495, .inl (nIf (crH gr ki ma hd L sd)))), (aNlo, .inl (g.2.1 0, 12, .inl (nIf z5))), (aNtr, .inl (g.2.1 0, 495, .inl (nIf (crH gr ki ma hd L sd)))), (aNis, .inl (g.2.1 3, 495, .inl (tkS (crH gr ki ma hd L sd) n))), (aNw, .inl (g.2.1 0, 1485, .inl (nIf (wiF (crH gr ki ma hd L sd))))), (aNbg, .inl (g.2.1 0, 495, .inl (nIf (fillT n (fun n => rowB (pkN (crH gr ki ma hd L sd) n)) nbg)))), (aNow, .inl (g.2.1 0, 5, .inl (nIf (updN (updN (updN (updN oq 0 0) 1 0) 2 0) 3 0))))]) dX9_house_107 13 3 rfl (rfl) (by decide) (by decide) (by rw [upd_nIf]; rfl) ?_
          refine x_iinc (lv' := [some (.ref aN), some (.int (nI n)), some (.long (potL ru (nI (ru 7)).toInt64 (nI (toH gr ki ma hd L sd)).toInt64)), none, some (.long (hoS ru (potL ru (nI (ru 7)).toInt64 (nI (toH gr ki ma hd L sd)).toInt64) (crH gr ki ma hd L sd) n i)), none, some (.int (nI i)), some (.int 4)]) (4) dX9_house_108 rfl (by decide) rfl ?_
          refine x_goto dX9_house_111 ?_
          refine x_iload dX9_house_94 rfl ?_
          refine x_iconst 5 dX9_house_96 (by decide) ?_
          refine x_icmp_ge dX9_house_97 (fun c97 => ?_) (fun c97 => ?_)
          · exact absurd c97 (by decide)
          refine x_aload_n dX9_house_100 rfl ?_
          refine x_get dX9_house_101 0 29 inX9 fl_X9_76 rfl rfl (by decide) rfl ?_
          refine x_iload dX9_house_104 rfl ?_
          refine x_iconst 0 dX9_house_106 (by decide) ?_
          refine x_rei (nI 0) rfl ?_
          refine x_iast (ws' := [(aN, .inr (9, [.ref aNs, .ref aNk, .int nkp, .ref aNf, .ref aNr, .ref aNp, .ref aNb, .ref aNa, .ref aNt, .int (nI nts), .ref aNbo, .ref aNsz, .ref aNnu, .int (nI z1), .int (nI z2), .int z3, .int 0, .int (nI z4), .int 0, .int 0, .int 0, .ref aNl, .ref aNal, .ref aNlo, .int (nI (toH gr ki ma hd L sd)), .ref aNw, .ref aNtr, .ref aNis, .ref aNbg, .ref aNow])), (aNs, .inl (g.2.1 0, 919, .inl (msF gr wk z lk sz br ru ki ma bb ce hd))), (aNt, .inl (g.2.1 0, 60, .inl (nIf tb))), (aNa, .inl (g.2.1 0, 2475, .inl (nIf fcN))), (aNr, .inl (g.2.1 0, 495, .inl (nIf rowB))), (aNb, .inl (g.2.1 0, 4096, .inl (nIf popN))), (aNl, .inl (g.2.1 0, 495, .inl (nIf sd))), (aNal, .inl (g.2.1 0, 495, .inl (nIf (crH gr ki ma hd L sd)))), (aNlo, .inl (g.2.1 0, 12, .inl (nIf z5))), (aNtr, .inl (g.2.1 0, 495, .inl (nIf (crH gr ki ma hd L sd)))), (aNis, .inl (g.2.1 3, 495, .inl (tkS (crH gr ki ma hd L sd) n))), (aNw, .inl (g.2.1 0, 1485, .inl (nIf (wiF (crH gr ki ma hd L sd))))), (aNbg, .inl (g.2.1 0, 495, .inl (nIf (fillT n (fun n => rowB (pkN (crH gr ki ma hd L sd) n)) nbg)))), (aNow, .inl (g.2.1 0, 5, .inl (nIf (updN (updN (updN (updN (updN oq 0 0) 1 0) 2 0) 3 0) 4 0))))]) dX9_house_107 13 4 rfl (rfl) (by decide) (by decide) (by rw [upd_nIf]; rfl) ?_
          refine x_iinc (lv' := [some (.ref aN), some (.int (nI n)), some (.long (potL ru (nI (ru 7)).toInt64 (nI (toH gr ki ma hd L sd)).toInt64)), none, some (.long (hoS ru (potL ru (nI (ru 7)).toInt64 (nI (toH gr ki ma hd L sd)).toInt64) (crH gr ki ma hd L sd) n i)), none, some (.int (nI i)), some (.int 5)]) (5) dX9_house_108 rfl (by decide) rfl ?_
          refine x_goto dX9_house_111 ?_
          refine x_iload dX9_house_94 rfl ?_
          refine x_iconst 5 dX9_house_96 (by decide) ?_
          refine x_icmp_ge dX9_house_97 (fun c97 => ?_) (fun c97 => ?_)
          rotate_left
          · exact absurd c97 (by decide)
          refine x_funi (ws' := [(aN, .inr (9, [.ref aNs, .ref aNk, .int nkp, .ref aNf, .ref aNr, .ref aNp, .ref aNb, .ref aNa, .ref aNt, .int (nI nts), .ref aNbo, .ref aNsz, .ref aNnu, .int (nI z1), .int (nI z2), .int z3, .int 0, .int (nI z4), .int 0, .int 0, .int 0, .ref aNl, .ref aNal, .ref aNlo, .int (nI (toH gr ki ma hd L sd)), .ref aNw, .ref aNtr, .ref aNis, .ref aNbg, .ref aNow])), (aNs, .inl (g.2.1 0, 919, .inl (msF gr wk z lk sz br ru ki ma bb ce hd))), (aNt, .inl (g.2.1 0, 60, .inl (nIf tb))), (aNa, .inl (g.2.1 0, 2475, .inl (nIf fcN))), (aNr, .inl (g.2.1 0, 495, .inl (nIf rowB))), (aNb, .inl (g.2.1 0, 4096, .inl (nIf popN))), (aNl, .inl (g.2.1 0, 495, .inl (nIf sd))), (aNal, .inl (g.2.1 0, 495, .inl (nIf (crH gr ki ma hd L sd)))), (aNlo, .inl (g.2.1 0, 12, .inl (nIf z5))), (aNtr, .inl (g.2.1 0, 495, .inl (nIf (crH gr ki ma hd L sd)))), (aNis, .inl (g.2.1 3, 495, .inl (tkS (crH gr ki ma hd L sd) n))), (aNw, .inl (g.2.1 0, 1485, .inl (nIf (wiF (crH gr ki ma hd L sd))))), (aNbg, .inl (g.2.1 0, 495, .inl (nIf (fillT n (fun n => rowB (pkN (crH gr ki ma hd L sd) n)) nbg)))), (aNow, .inl (g.2.1 0, 5, .inl (nIf (ownN (crH gr ki ma hd L sd) i 0))))]) (q0 := 13) rfl (fun j hj => congrArg nI (own_0 (crH gr ki ma hd L sd) i _ hj)) rfl ?_
          refine x_iconst 0 dX9_house_114 (by decide) ?_
          refine x_istore (lv' := [some (.ref aN), some (.int (nI n)), some (.long (potL ru (nI (ru 7)).toInt64 (nI (toH gr ki ma hd L sd)).toInt64)), none, some (.long (hoS ru (potL ru (nI (ru 7)).toInt64 (nI (toH gr ki ma hd L sd)).toInt64) (crH gr ki ma hd L sd) n i)), none, some (.int (nI i)), some (.int 0)]) dX9_house_115 (xlt rfl) rfl ?_
          have L117_9 : ∀ (k : Nat), k ≤ n → ∀ (of : Nat → Nat), of = ownN (crH gr ki ma hd L sd) i k → Xs κ g 34 0 0 cX9_house yX9_house (some .long) Q 0 0 117 [some (.ref aN), some (.int (nI n)), some (.long (potL ru (nI (ru 7)).toInt64 (nI (toH gr ki ma hd L sd)).toInt64)), none, some (.long (hoS ru (potL ru (nI (ru 7)).toInt64 (nI (toH gr ki ma hd L sd)).toInt64) (crH gr ki ma hd L sd) n i)), none, some (.int (nI i)), some (.int (nI k))] [] [(aN, .inr (9, [.ref aNs, .ref aNk, .int nkp, .ref aNf, .ref aNr, .ref aNp, .ref aNb, .ref aNa, .ref aNt, .int (nI nts), .ref aNbo, .ref aNsz, .ref aNnu, .int (nI z1), .int (nI z2), .int z3, .int 0, .int (nI z4), .int 0, .int 0, .int 0, .ref aNl, .ref aNal, .ref aNlo, .int (nI (toH gr ki ma hd L sd)), .ref aNw, .ref aNtr, .ref aNis, .ref aNbg, .ref aNow])), (aNs, .inl (g.2.1 0, 919, .inl (msF gr wk z lk sz br ru ki ma bb ce hd))), (aNt, .inl (g.2.1 0, 60, .inl (nIf tb))), (aNa, .inl (g.2.1 0, 2475, .inl (nIf fcN))), (aNr, .inl (g.2.1 0, 495, .inl (nIf rowB))), (aNb, .inl (g.2.1 0, 4096, .inl (nIf popN))), (aNl, .inl (g.2.1 0, 495, .inl (nIf sd))), (aNal, .inl (g.2.1 0, 495, .inl (nIf (crH gr ki ma hd L sd)))), (aNlo, .inl (g.2.1 0, 12, .inl (nIf z5))), (aNtr, .inl (g.2.1 0, 495, .inl (nIf (crH gr ki ma hd L sd)))), (aNis, .inl (g.2.1 3, 495, .inl (tkS (crH gr ki ma hd L sd) n))), (aNw, .inl (g.2.1 0, 1485, .inl (nIf (wiF (crH gr ki ma hd L sd))))), (aNbg, .inl (g.2.1 0, 495, .inl (nIf (fillT n (fun n => rowB (pkN (crH gr ki ma hd L sd) n)) nbg)))), (aNow, .inl (g.2.1 0, 5, .inl (nIf of)))] := by
            refine upTo n (fun k hi117 ih117 => ?_)
            intro of eof
            subst eof
            refine x_iload dX9_house_117 rfl ?_
            refine x_iload_n dX9_house_119 rfl ?_
            refine x_icmp_ge dX9_house_120 (fun c120 => ?_) (fun c120 => ?_)
            · have c120 : (nI n) ≤ (nI k) := c120
              have c120n := (nI_leI (a := n) (b := k) (by omega) (by omega)).mp c120
              have hxc120 : k = n := by omega
              try rw [hxc120]
              have how := own_le (crH gr ki ma hd L sd) i n
              have hwl := winN_le (crH gr ki ma hd L sd) (rowB i)
              have how2 := how 2
              have how3 := how 3
              have how4 := how 4
              have hwl2 := hwl 2
              have hwl3 := hwl 3
              have hwl4 := hwl 4
              refine x_iconst 2 dX9_house_157 (by decide) ?_
              refine x_istore (lv' := [some (.ref aN), some (.int (nI n)), some (.long (potL ru (nI (ru 7)).toInt64 (nI (toH gr ki ma hd L sd)).toInt64)), none, some (.long (hoS ru (potL ru (nI (ru 7)).toInt64 (nI (toH gr ki ma hd L sd)).toInt64) (crH gr ki ma hd L sd) n i)), none, some (.int (nI i)), some (.int 2)]) dX9_house_158 (xlt rfl) rfl ?_
              refine x_iload dX9_house_160 rfl ?_
              refine x_iconst 5 dX9_house_162 (by decide) ?_
              refine x_icmp_ge dX9_house_163 (fun c163 => ?_) (fun c163 => ?_)
              · exact absurd c163 (by decide)
              refine x_lload dX9_house_166 rfl ?_
              refine x_aload_n dX9_house_168 rfl ?_
              refine x_get dX9_house_169 0 29 inX9 fl_X9_76 rfl rfl (by decide) rfl ?_
              refine x_iload dX9_house_172 rfl ?_
              refine x_iald dX9_house_174 13 2 rfl (rfl) (by decide) (by decide) ?_
              have J175_11 : ∀ (v10 : Int64), v10 = (if (nI ((ownN (crH gr ki ma hd L sd) i n) 2)) = 0 then 0 else ((nI ((ownN (crH gr ki ma hd L sd) i n) 2)).toInt64) * (txR ru ((partL ru 2 (potL ru (nI (ru 7)).toInt64 (nI (toH gr ki ma hd L sd)).toInt64)) / ((nI ((winN (crH gr ki ma hd L sd) (rowB i) 2) + ((ownN (crH gr ki ma hd L sd) i n) 2))).toInt64)))) → Xs κ g 34 0 0 cX9_house yX9_house (some .long) Q 0 0 226 [some (.ref aN), some (.int (nI n)), some (.long (potL ru (nI (ru 7)).toInt64 (nI (toH gr ki ma hd L sd)).toInt64)), none, some (.long (hoS ru (potL ru (nI (ru 7)).toInt64 (nI (toH gr ki ma hd L sd)).toInt64) (crH gr ki ma hd L sd) n i)), none, some (.int (nI i)), some (.int 2)] [.long v10, .long (hoS ru (potL ru (nI (ru 7)).toInt64 (nI (toH gr ki ma hd L sd)).toInt64) (crH gr ki ma hd L sd) n i)] [(aN, .inr (9, [.ref aNs, .ref aNk, .int nkp, .ref aNf, .ref aNr, .ref aNp, .ref aNb, .ref aNa, .ref aNt, .int (nI nts), .ref aNbo, .ref aNsz, .ref aNnu, .int (nI z1), .int (nI z2), .int z3, .int 0, .int (nI z4), .int 0, .int 0, .int 0, .ref aNl, .ref aNal, .ref aNlo, .int (nI (toH gr ki ma hd L sd)), .ref aNw, .ref aNtr, .ref aNis, .ref aNbg, .ref aNow])), (aNs, .inl (g.2.1 0, 919, .inl (msF gr wk z lk sz br ru ki ma bb ce hd))), (aNt, .inl (g.2.1 0, 60, .inl (nIf tb))), (aNa, .inl (g.2.1 0, 2475, .inl (nIf fcN))), (aNr, .inl (g.2.1 0, 495, .inl (nIf rowB))), (aNb, .inl (g.2.1 0, 4096, .inl (nIf popN))), (aNl, .inl (g.2.1 0, 495, .inl (nIf sd))), (aNal, .inl (g.2.1 0, 495, .inl (nIf (crH gr ki ma hd L sd)))), (aNlo, .inl (g.2.1 0, 12, .inl (nIf z5))), (aNtr, .inl (g.2.1 0, 495, .inl (nIf (crH gr ki ma hd L sd)))), (aNis, .inl (g.2.1 3, 495, .inl (tkS (crH gr ki ma hd L sd) n))), (aNw, .inl (g.2.1 0, 1485, .inl (nIf (wiF (crH gr ki ma hd L sd))))), (aNbg, .inl (g.2.1 0, 495, .inl (nIf (fillT n (fun n => rowB (pkN (crH gr ki ma hd L sd) n)) nbg)))), (aNow, .inl (g.2.1 0, 5, .inl (nIf (ownN (crH gr ki ma hd L sd) i n))))] := by
                intro v10 ev10
                refine x_rel (hoT ru (potL ru (nI (ru 7)).toInt64 (nI (toH gr ki ma hd L sd)).toInt64) (crH gr ki ma hd L sd) n i 2) (by (try simp only [ev10]); exact ho_if (ownN (crH gr ki ma hd L sd) i n 2) (by have := how 2; omega) _) ?_
                refine x_ladd dX9_house_226 ?_
                refine x_lstore (lv' := [some (.ref aN), some (.int (nI n)), some (.long (potL ru (nI (ru 7)).toInt64 (nI (toH gr ki ma hd L sd)).toInt64)), none, some (.long ((hoS ru (potL ru (nI (ru 7)).toInt64 (nI (toH gr ki ma hd L sd)).toInt64) (crH gr ki ma hd L sd) n i) + (hoT ru (potL ru (nI (ru 7)).toInt64 (nI (toH gr ki ma hd L sd)).toInt64) (crH gr ki ma hd L sd) n i 2))), none, some (.int (nI i)), some (.int 2)]) dX9_house_227 (xlt rfl) rfl ?_
                refine x_iinc (lv' := [some (.ref aN), some (.int (nI n)), some (.long (potL ru (nI (ru 7)).toInt64 (nI (toH gr ki ma hd L sd)).toInt64)), none, some (.long ((hoS ru (potL ru (nI (ru 7)).toInt64 (nI (toH gr ki ma hd L sd)).toInt64) (crH gr ki ma hd L sd) n i) + (hoT ru (potL ru (nI (ru 7)).toInt64 (nI (toH gr ki ma hd L sd)).toInt64) (crH gr ki ma hd L sd) n i 2))), none, some (.int (nI i)), some (.int 3)]) (3) dX9_house_229 rfl (by decide) rfl ?_
                refine x_goto dX9_house_232 ?_
                refine x_iload dX9_house_160 rfl ?_
                refine x_iconst 5 dX9_house_162 (by decide) ?_
                refine x_icmp_ge dX9_house_163 (fun c163 => ?_) (fun c163 => ?_)
                · exact absurd c163 (by decide)
                refine x_lload dX9_house_166 rfl ?_
                refine x_aload_n dX9_house_168 rfl ?_
                refine x_get dX9_house_169 0 29 inX9 fl_X9_76 rfl rfl (by decide) rfl ?_
                refine x_iload dX9_house_172 rfl ?_
                refine x_iald dX9_house_174 13 3 rfl (rfl) (by decide) (by decide) ?_
                have J175_13 : ∀ (v12 : Int64), v12 = (if (nI ((ownN (crH gr ki ma hd L sd) i n) 3)) = 0 then 0 else ((nI ((ownN (crH gr ki ma hd L sd) i n) 3)).toInt64) * (txR ru ((partL ru 3 (potL ru (nI (ru 7)).toInt64 (nI (toH gr ki ma hd L sd)).toInt64)) / ((nI ((winN (crH gr ki ma hd L sd) (rowB i) 3) + ((ownN (crH gr ki ma hd L sd) i n) 3))).toInt64)))) → Xs κ g 34 0 0 cX9_house yX9_house (some .long) Q 0 0 226 [some (.ref aN), some (.int (nI n)), some (.long (potL ru (nI (ru 7)).toInt64 (nI (toH gr ki ma hd L sd)).toInt64)), none, some (.long ((hoS ru (potL ru (nI (ru 7)).toInt64 (nI (toH gr ki ma hd L sd)).toInt64) (crH gr ki ma hd L sd) n i) + (hoT ru (potL ru (nI (ru 7)).toInt64 (nI (toH gr ki ma hd L sd)).toInt64) (crH gr ki ma hd L sd) n i 2))), none, some (.int (nI i)), some (.int 3)] [.long v12, .long ((hoS ru (potL ru (nI (ru 7)).toInt64 (nI (toH gr ki ma hd L sd)).toInt64) (crH gr ki ma hd L sd) n i) + (hoT ru (potL ru (nI (ru 7)).toInt64 (nI (toH gr ki ma hd L sd)).toInt64) (crH gr ki ma hd L sd) n i 2))] [(aN, .inr (9, [.ref aNs, .ref aNk, .int nkp, .ref aNf, .ref aNr, .ref aNp, .ref aNb, .ref aNa, .ref aNt, .int (nI nts), .ref aNbo, .ref aNsz, .ref aNnu, .int (nI z1), .int (nI z2), .int z3, .int 0, .int (nI z4), .int 0, .int 0, .int 0, .ref aNl, .ref aNal, .ref aNlo, .int (nI (toH gr ki ma hd L sd)), .ref aNw, .ref aNtr, .ref aNis, .ref aNbg, .ref aNow])), (aNs, .inl (g.2.1 0, 919, .inl (msF gr wk z lk sz br ru ki ma bb ce hd))), (aNt, .inl (g.2.1 0, 60, .inl (nIf tb))), (aNa, .inl (g.2.1 0, 2475, .inl (nIf fcN))), (aNr, .inl (g.2.1 0, 495, .inl (nIf rowB))), (aNb, .inl (g.2.1 0, 4096, .inl (nIf popN))), (aNl, .inl (g.2.1 0, 495, .inl (nIf sd))), (aNal, .inl (g.2.1 0, 495, .inl (nIf (crH gr ki ma hd L sd)))), (aNlo, .inl (g.2.1 0, 12, .inl (nIf z5))), (aNtr, .inl (g.2.1 0, 495, .inl (nIf (crH gr ki ma hd L sd)))), (aNis, .inl (g.2.1 3, 495, .inl (tkS (crH gr ki ma hd L sd) n))), (aNw, .inl (g.2.1 0, 1485, .inl (nIf (wiF (crH gr ki ma hd L sd))))), (aNbg, .inl (g.2.1 0, 495, .inl (nIf (fillT n (fun n => rowB (pkN (crH gr ki ma hd L sd) n)) nbg)))), (aNow, .inl (g.2.1 0, 5, .inl (nIf (ownN (crH gr ki ma hd L sd) i n))))] := by
                  intro v12 ev12
                  refine x_rel (hoT ru (potL ru (nI (ru 7)).toInt64 (nI (toH gr ki ma hd L sd)).toInt64) (crH gr ki ma hd L sd) n i 3) (by (try simp only [ev12]); exact ho_if (ownN (crH gr ki ma hd L sd) i n 3) (by have := how 3; omega) _) ?_
                  refine x_ladd dX9_house_226 ?_
                  refine x_lstore (lv' := [some (.ref aN), some (.int (nI n)), some (.long (potL ru (nI (ru 7)).toInt64 (nI (toH gr ki ma hd L sd)).toInt64)), none, some (.long (((hoS ru (potL ru (nI (ru 7)).toInt64 (nI (toH gr ki ma hd L sd)).toInt64) (crH gr ki ma hd L sd) n i) + (hoT ru (potL ru (nI (ru 7)).toInt64 (nI (toH gr ki ma hd L sd)).toInt64) (crH gr ki ma hd L sd) n i 2)) + (hoT ru (potL ru (nI (ru 7)).toInt64 (nI (toH gr ki ma hd L sd)).toInt64) (crH gr ki ma hd L sd) n i 3))), none, some (.int (nI i)), some (.int 3)]) dX9_house_227 (xlt rfl) rfl ?_
                  refine x_iinc (lv' := [some (.ref aN), some (.int (nI n)), some (.long (potL ru (nI (ru 7)).toInt64 (nI (toH gr ki ma hd L sd)).toInt64)), none, some (.long (((hoS ru (potL ru (nI (ru 7)).toInt64 (nI (toH gr ki ma hd L sd)).toInt64) (crH gr ki ma hd L sd) n i) + (hoT ru (potL ru (nI (ru 7)).toInt64 (nI (toH gr ki ma hd L sd)).toInt64) (crH gr ki ma hd L sd) n i 2)) + (hoT ru (potL ru (nI (ru 7)).toInt64 (nI (toH gr ki ma hd L sd)).toInt64) (crH gr ki ma hd L sd) n i 3))), none, some (.int (nI i)), some (.int 4)]) (4) dX9_house_229 rfl (by decide) rfl ?_
                  refine x_goto dX9_house_232 ?_
                  refine x_iload dX9_house_160 rfl ?_
                  refine x_iconst 5 dX9_house_162 (by decide) ?_
                  refine x_icmp_ge dX9_house_163 (fun c163 => ?_) (fun c163 => ?_)
                  · exact absurd c163 (by decide)
                  refine x_lload dX9_house_166 rfl ?_
                  refine x_aload_n dX9_house_168 rfl ?_
                  refine x_get dX9_house_169 0 29 inX9 fl_X9_76 rfl rfl (by decide) rfl ?_
                  refine x_iload dX9_house_172 rfl ?_
                  refine x_iald dX9_house_174 13 4 rfl (rfl) (by decide) (by decide) ?_
                  have J175_15 : ∀ (v14 : Int64), v14 = (if (nI ((ownN (crH gr ki ma hd L sd) i n) 4)) = 0 then 0 else ((nI ((ownN (crH gr ki ma hd L sd) i n) 4)).toInt64) * (txR ru ((partL ru 4 (potL ru (nI (ru 7)).toInt64 (nI (toH gr ki ma hd L sd)).toInt64)) / ((nI ((winN (crH gr ki ma hd L sd) (rowB i) 4) + ((ownN (crH gr ki ma hd L sd) i n) 4))).toInt64)))) → Xs κ g 34 0 0 cX9_house yX9_house (some .long) Q 0 0 226 [some (.ref aN), some (.int (nI n)), some (.long (potL ru (nI (ru 7)).toInt64 (nI (toH gr ki ma hd L sd)).toInt64)), none, some (.long (((hoS ru (potL ru (nI (ru 7)).toInt64 (nI (toH gr ki ma hd L sd)).toInt64) (crH gr ki ma hd L sd) n i) + (hoT ru (potL ru (nI (ru 7)).toInt64 (nI (toH gr ki ma hd L sd)).toInt64) (crH gr ki ma hd L sd) n i 2)) + (hoT ru (potL ru (nI (ru 7)).toInt64 (nI (toH gr ki ma hd L sd)).toInt64) (crH gr ki ma hd L sd) n i 3))), none, some (.int (nI i)), some (.int 4)] [.long v14, .long (((hoS ru (potL ru (nI (ru 7)).toInt64 (nI (toH gr ki ma hd L sd)).toInt64) (crH gr ki ma hd L sd) n i) + (hoT ru (potL ru (nI (ru 7)).toInt64 (nI (toH gr ki ma hd L sd)).toInt64) (crH gr ki ma hd L sd) n i 2)) + (hoT ru (potL ru (nI (ru 7)).toInt64 (nI (toH gr ki ma hd L sd)).toInt64) (crH gr ki ma hd L sd) n i 3))] [(aN, .inr (9, [.ref aNs, .ref aNk, .int nkp, .ref aNf, .ref aNr, .ref aNp, .ref aNb, .ref aNa, .ref aNt, .int (nI nts), .ref aNbo, .ref aNsz, .ref aNnu, .int (nI z1), .int (nI z2), .int z3, .int 0, .int (nI z4), .int 0, .int 0, .int 0, .ref aNl, .ref aNal, .ref aNlo, .int (nI (toH gr ki ma hd L sd)), .ref aNw, .ref aNtr, .ref aNis, .ref aNbg, .ref aNow])), (aNs, .inl (g.2.1 0, 919, .inl (msF gr wk z lk sz br ru ki ma bb ce hd))), (aNt, .inl (g.2.1 0, 60, .inl (nIf tb))), (aNa, .inl (g.2.1 0, 2475, .inl (nIf fcN))), (aNr, .inl (g.2.1 0, 495, .inl (nIf rowB))), (aNb, .inl (g.2.1 0, 4096, .inl (nIf popN))), (aNl, .inl (g.2.1 0, 495, .inl (nIf sd))), (aNal, .inl (g.2.1 0, 495, .inl (nIf (crH gr ki ma hd L sd)))), (aNlo, .inl (g.2.1 0, 12, .inl (nIf z5))), (aNtr, .inl (g.2.1 0, 495, .inl (nIf (crH gr ki ma hd L sd)))), (aNis, .inl (g.2.1 3, 495, .inl (tkS (crH gr ki ma hd L sd) n))), (aNw, .inl (g.2.1 0, 1485, .inl (nIf (wiF (crH gr ki ma hd L sd))))), (aNbg, .inl (g.2.1 0, 495, .inl (nIf (fillT n (fun n => rowB (pkN (crH gr ki ma hd L sd) n)) nbg)))), (aNow, .inl (g.2.1 0, 5, .inl (nIf (ownN (crH gr ki ma hd L sd) i n))))] := by
                    intro v14 ev14
                    refine x_rel (hoT ru (potL ru (nI (ru 7)).toInt64 (nI (toH gr ki ma hd L sd)).toInt64) (crH gr ki ma hd L sd) n i 4) (by (try simp only [ev14]); exact ho_if (ownN (crH gr ki ma hd L sd) i n 4) (by have := how 4; omega) _) ?_
                    refine x_ladd dX9_house_226 ?_
                    refine x_lstore (lv' := [some (.ref aN), some (.int (nI n)), some (.long (potL ru (nI (ru 7)).toInt64 (nI (toH gr ki ma hd L sd)).toInt64)), none, some (.long ((((hoS ru (potL ru (nI (ru 7)).toInt64 (nI (toH gr ki ma hd L sd)).toInt64) (crH gr ki ma hd L sd) n i) + (hoT ru (potL ru (nI (ru 7)).toInt64 (nI (toH gr ki ma hd L sd)).toInt64) (crH gr ki ma hd L sd) n i 2)) + (hoT ru (potL ru (nI (ru 7)).toInt64 (nI (toH gr ki ma hd L sd)).toInt64) (crH gr ki ma hd L sd) n i 3)) + (hoT ru (potL ru (nI (ru 7)).toInt64 (nI (toH gr ki ma hd L sd)).toInt64) (crH gr ki ma hd L sd) n i 4))), none, some (.int (nI i)), some (.int 4)]) dX9_house_227 (xlt rfl) rfl ?_
                    refine x_iinc (lv' := [some (.ref aN), some (.int (nI n)), some (.long (potL ru (nI (ru 7)).toInt64 (nI (toH gr ki ma hd L sd)).toInt64)), none, some (.long ((((hoS ru (potL ru (nI (ru 7)).toInt64 (nI (toH gr ki ma hd L sd)).toInt64) (crH gr ki ma hd L sd) n i) + (hoT ru (potL ru (nI (ru 7)).toInt64 (nI (toH gr ki ma hd L sd)).toInt64) (crH gr ki ma hd L sd) n i 2)) + (hoT ru (potL ru (nI (ru 7)).toInt64 (nI (toH gr ki ma hd L sd)).toInt64) (crH gr ki ma hd L sd) n i 3)) + (hoT ru (potL ru (nI (ru 7)).toInt64 (nI (toH gr ki ma hd L sd)).toInt64) (crH gr ki ma hd L sd) n i 4))), none, some (.int (nI i)), some (.int 5)]) (5) dX9_house_229 rfl (by decide) rfl ?_
                    refine x_goto dX9_house_232 ?_
                    refine x_iload dX9_house_160 rfl ?_
                    refine x_iconst 5 dX9_house_162 (by decide) ?_
                    refine x_icmp_ge dX9_house_163 (fun c163 => ?_) (fun c163 => ?_)
                    rotate_left
                    · exact absurd c163 (by decide)
                    refine x_iinc (lv' := [some (.ref aN), some (.int (nI n)), some (.long (potL ru (nI (ru 7)).toInt64 (nI (toH gr ki ma hd L sd)).toInt64)), none, some (.long ((((hoS ru (potL ru (nI (ru 7)).toInt64 (nI (toH gr ki ma hd L sd)).toInt64) (crH gr ki ma hd L sd) n i) + (hoT ru (potL ru (nI (ru 7)).toInt64 (nI (toH gr ki ma hd L sd)).toInt64) (crH gr ki ma hd L sd) n i 2)) + (hoT ru (potL ru (nI (ru 7)).toInt64 (nI (toH gr ki ma hd L sd)).toInt64) (crH gr ki ma hd L sd) n i 3)) + (hoT ru (potL ru (nI (ru 7)).toInt64 (nI (toH gr ki ma hd L sd)).toInt64) (crH gr ki ma hd L sd) n i 4))), none, some (.int (nI (i + 1))), some (.int 5)]) (nI (i + 1)) dX9_house_235 rfl (nI_addc i 1 rfl) rfl ?_
                    refine x_goto dX9_house_238 ?_
                    refine x_fgt (lv' := [some (.ref aN), some (.int (nI n)), some (.long (potL ru (nI (ru 7)).toInt64 (nI (toH gr ki ma hd L sd)).toInt64)), none, some (.long ((((hoS ru (potL ru (nI (ru 7)).toInt64 (nI (toH gr ki ma hd L sd)).toInt64) (crH gr ki ma hd L sd) n i) + (hoT ru (potL ru (nI (ru 7)).toInt64 (nI (toH gr ki ma hd L sd)).toInt64) (crH gr ki ma hd L sd) n i 2)) + (hoT ru (potL ru (nI (ru 7)).toInt64 (nI (toH gr ki ma hd L sd)).toInt64) (crH gr ki ma hd L sd) n i 3)) + (hoT ru (potL ru (nI (ru 7)).toInt64 (nI (toH gr ki ma hd L sd)).toInt64) (crH gr ki ma hd L sd) n i 4))), none, some (.int (nI (i + 1))), none]) ⟨Or.inr rfl, Or.inr rfl, Or.inr rfl, Or.inl rfl, Or.inr rfl, Or.inl rfl, Or.inr rfl, Or.inl rfl, trivial⟩ ?_
                    exact ih83 (by omega) _ (by rfl) (ownN (crH gr ki ma hd L sd) i n)
                  refine x_if_ne dX9_house_175 (fun c175 => ?_) (fun c175 => ?_)
                  · have c175 : ¬ ((nI ((ownN (crH gr ki ma hd L sd) i n) 4)) = 0) := c175
                    have c175n := mt (nI_eq (a := ((ownN (crH gr ki ma hd L sd) i n) 4)) (b := 0) (by omega) (by omega)).mpr c175
                    refine x_aload_n dX9_house_182 rfl ?_
                    refine x_get dX9_house_183 0 29 inX9 fl_X9_76 rfl rfl (by decide) rfl ?_
                    refine x_iload dX9_house_186 rfl ?_
                    refine x_iald dX9_house_188 13 4 rfl (rfl) (by decide) (by decide) ?_
                    refine x_i2l dX9_house_189 ?_
                    refine x_aload_n dX9_house_190 rfl ?_
                    refine x_aload_n dX9_house_191 rfl ?_
                    refine x_lload_n dX9_house_192 rfl ?_
                    refine x_iload dX9_house_193 rfl ?_
                    refine x_cVl0 dX9_house_195 ml_X9_212 mX9_shareOf (ct_X9_shareOf κ.2.1 g aN aNs aNk aNf aNr aNp aNb aNa aNt aNbo aNsz aNnu aNl aNal aNlo aNw aNtr aNis aNbg aNow nts z1 z2 z4 (toH gr ki ma hd L sd) nkp z3 0 0 0 0 gr wk lk sz br z ru ki ma bb hd ce (potL ru (nI (ru 7)).toInt64 (nI (toH gr ki ma hd L sd)).toInt64) 4 (by decide)) [0, 1] rfl rfl 0 rfl rfl rfl (Nat.le_of_ble_eq_true rfl) (by decide) (Nat.le_refl _) (Nat.le_refl _) ?_
                    refine x_aload_n dX9_house_198 rfl ?_
                    refine x_get dX9_house_199 0 25 inX9 fl_X9_63 rfl rfl (by decide) rfl ?_
                    refine x_iconst 3 dX9_house_202 (by decide) ?_
                    refine x_iload dX9_house_203 rfl ?_
                    refine x_imul dX9_house_205 ?_
                    refine x_rei (nI (3 * i)) (nI_imul 3 i) ?_
                    refine x_iload dX9_house_206 rfl ?_
                    refine x_iadd dX9_house_208 ?_
                    refine x_rei (nI ((3 * i) + 4)) (nI_addc (3 * i) 4 rfl) ?_
                    refine x_iconst 2 dX9_house_209 (by decide) ?_
                    refine x_isub dX9_house_210 ?_
                    refine x_rei (nI (((3 * i) + 4) - 2)) (nI_isub ((3 * i) + 4) 2 (by omega)) ?_
                    refine x_iald dX9_house_211 11 (((3 * i) + 4) - 2) rfl (rfl) (by omega) (by decide) ?_
                    refine x_rei (nI (winN (crH gr ki ma hd L sd) (rowB i) 4)) (congrArg nI (wiF_at _ _ (by decide) (by decide))) ?_
                    refine x_aload_n dX9_house_212 rfl ?_
                    refine x_get dX9_house_213 0 29 inX9 fl_X9_76 rfl rfl (by decide) rfl ?_
                    refine x_iload dX9_house_216 rfl ?_
                    refine x_iald dX9_house_218 13 4 rfl (rfl) (by decide) (by decide) ?_
                    refine x_iadd dX9_house_219 ?_
                    refine x_rei (nI ((winN (crH gr ki ma hd L sd) (rowB i) 4) + ((ownN (crH gr ki ma hd L sd) i n) 4))) (nI_iadd (winN (crH gr ki ma hd L sd) (rowB i) 4) ((ownN (crH gr ki ma hd L sd) i n) 4)) ?_
                    refine x_i2l dX9_house_220 ?_
                    refine x_ldiv dX9_house_221 (i64_ne0 (mt (nI_le0 (by omega)).mp (by omega))) ?_
                    refine x_cVl0 dX9_house_222 ml_X9_225 mX9_taxed (ct_X9_taxed κ.2.1 g aN aNs aNk aNf aNr aNp aNb aNa aNt aNbo aNsz aNnu aNl aNal aNlo aNw aNtr aNis aNbg aNow nts z1 z2 z4 (toH gr ki ma hd L sd) nkp z3 0 0 0 0 gr wk lk sz br z ru ki ma bb hd ce ((partL ru 4 (potL ru (nI (ru 7)).toInt64 (nI (toH gr ki ma hd L sd)).toInt64)) / ((nI ((winN (crH gr ki ma hd L sd) (rowB i) 4) + ((ownN (crH gr ki ma hd L sd) i n) 4))).toInt64))) [0, 1] rfl rfl 0 rfl rfl rfl (Nat.le_of_ble_eq_true rfl) (by decide) (Nat.le_refl _) (Nat.le_refl _) ?_
                    refine x_lmul dX9_house_225 ?_
                    exact J175_15 _ (if_neg c175).symm
                  · have c175 : (nI ((ownN (crH gr ki ma hd L sd) i n) 4)) = 0 := c175
                    have c175n := (nI_eq (a := ((ownN (crH gr ki ma hd L sd) i n) 4)) (b := 0) (by omega) (by omega)).mp c175
                    refine x_lconst 0 dX9_house_178 (by decide) ?_
                    refine x_goto dX9_house_179 ?_
                    exact J175_15 _ (if_pos c175).symm
                refine x_if_ne dX9_house_175 (fun c175 => ?_) (fun c175 => ?_)
                · have c175 : ¬ ((nI ((ownN (crH gr ki ma hd L sd) i n) 3)) = 0) := c175
                  have c175n := mt (nI_eq (a := ((ownN (crH gr ki ma hd L sd) i n) 3)) (b := 0) (by omega) (by omega)).mpr c175
                  refine x_aload_n dX9_house_182 rfl ?_
                  refine x_get dX9_house_183 0 29 inX9 fl_X9_76 rfl rfl (by decide) rfl ?_
                  refine x_iload dX9_house_186 rfl ?_
                  refine x_iald dX9_house_188 13 3 rfl (rfl) (by decide) (by decide) ?_
                  refine x_i2l dX9_house_189 ?_
                  refine x_aload_n dX9_house_190 rfl ?_
                  refine x_aload_n dX9_house_191 rfl ?_
                  refine x_lload_n dX9_house_192 rfl ?_
                  refine x_iload dX9_house_193 rfl ?_
                  refine x_cVl0 dX9_house_195 ml_X9_212 mX9_shareOf (ct_X9_shareOf κ.2.1 g aN aNs aNk aNf aNr aNp aNb aNa aNt aNbo aNsz aNnu aNl aNal aNlo aNw aNtr aNis aNbg aNow nts z1 z2 z4 (toH gr ki ma hd L sd) nkp z3 0 0 0 0 gr wk lk sz br z ru ki ma bb hd ce (potL ru (nI (ru 7)).toInt64 (nI (toH gr ki ma hd L sd)).toInt64) 3 (by decide)) [0, 1] rfl rfl 0 rfl rfl rfl (Nat.le_of_ble_eq_true rfl) (by decide) (Nat.le_refl _) (Nat.le_refl _) ?_
                  refine x_aload_n dX9_house_198 rfl ?_
                  refine x_get dX9_house_199 0 25 inX9 fl_X9_63 rfl rfl (by decide) rfl ?_
                  refine x_iconst 3 dX9_house_202 (by decide) ?_
                  refine x_iload dX9_house_203 rfl ?_
                  refine x_imul dX9_house_205 ?_
                  refine x_rei (nI (3 * i)) (nI_imul 3 i) ?_
                  refine x_iload dX9_house_206 rfl ?_
                  refine x_iadd dX9_house_208 ?_
                  refine x_rei (nI ((3 * i) + 3)) (nI_addc (3 * i) 3 rfl) ?_
                  refine x_iconst 2 dX9_house_209 (by decide) ?_
                  refine x_isub dX9_house_210 ?_
                  refine x_rei (nI (((3 * i) + 3) - 2)) (nI_isub ((3 * i) + 3) 2 (by omega)) ?_
                  refine x_iald dX9_house_211 11 (((3 * i) + 3) - 2) rfl (rfl) (by omega) (by decide) ?_
                  refine x_rei (nI (winN (crH gr ki ma hd L sd) (rowB i) 3)) (congrArg nI (wiF_at _ _ (by decide) (by decide))) ?_
                  refine x_aload_n dX9_house_212 rfl ?_
                  refine x_get dX9_house_213 0 29 inX9 fl_X9_76 rfl rfl (by decide) rfl ?_
                  refine x_iload dX9_house_216 rfl ?_
                  refine x_iald dX9_house_218 13 3 rfl (rfl) (by decide) (by decide) ?_
                  refine x_iadd dX9_house_219 ?_
                  refine x_rei (nI ((winN (crH gr ki ma hd L sd) (rowB i) 3) + ((ownN (crH gr ki ma hd L sd) i n) 3))) (nI_iadd (winN (crH gr ki ma hd L sd) (rowB i) 3) ((ownN (crH gr ki ma hd L sd) i n) 3)) ?_
                  refine x_i2l dX9_house_220 ?_
                  refine x_ldiv dX9_house_221 (i64_ne0 (mt (nI_le0 (by omega)).mp (by omega))) ?_
                  refine x_cVl0 dX9_house_222 ml_X9_225 mX9_taxed (ct_X9_taxed κ.2.1 g aN aNs aNk aNf aNr aNp aNb aNa aNt aNbo aNsz aNnu aNl aNal aNlo aNw aNtr aNis aNbg aNow nts z1 z2 z4 (toH gr ki ma hd L sd) nkp z3 0 0 0 0 gr wk lk sz br z ru ki ma bb hd ce ((partL ru 3 (potL ru (nI (ru 7)).toInt64 (nI (toH gr ki ma hd L sd)).toInt64)) / ((nI ((winN (crH gr ki ma hd L sd) (rowB i) 3) + ((ownN (crH gr ki ma hd L sd) i n) 3))).toInt64))) [0, 1] rfl rfl 0 rfl rfl rfl (Nat.le_of_ble_eq_true rfl) (by decide) (Nat.le_refl _) (Nat.le_refl _) ?_
                  refine x_lmul dX9_house_225 ?_
                  exact J175_13 _ (if_neg c175).symm
                · have c175 : (nI ((ownN (crH gr ki ma hd L sd) i n) 3)) = 0 := c175
                  have c175n := (nI_eq (a := ((ownN (crH gr ki ma hd L sd) i n) 3)) (b := 0) (by omega) (by omega)).mp c175
                  refine x_lconst 0 dX9_house_178 (by decide) ?_
                  refine x_goto dX9_house_179 ?_
                  exact J175_13 _ (if_pos c175).symm
              refine x_if_ne dX9_house_175 (fun c175 => ?_) (fun c175 => ?_)
              · have c175 : ¬ ((nI ((ownN (crH gr ki ma hd L sd) i n) 2)) = 0) := c175
                have c175n := mt (nI_eq (a := ((ownN (crH gr ki ma hd L sd) i n) 2)) (b := 0) (by omega) (by omega)).mpr c175
                refine x_aload_n dX9_house_182 rfl ?_
                refine x_get dX9_house_183 0 29 inX9 fl_X9_76 rfl rfl (by decide) rfl ?_
                refine x_iload dX9_house_186 rfl ?_
                refine x_iald dX9_house_188 13 2 rfl (rfl) (by decide) (by decide) ?_
                refine x_i2l dX9_house_189 ?_
                refine x_aload_n dX9_house_190 rfl ?_
                refine x_aload_n dX9_house_191 rfl ?_
                refine x_lload_n dX9_house_192 rfl ?_
                refine x_iload dX9_house_193 rfl ?_
                refine x_cVl0 dX9_house_195 ml_X9_212 mX9_shareOf (ct_X9_shareOf κ.2.1 g aN aNs aNk aNf aNr aNp aNb aNa aNt aNbo aNsz aNnu aNl aNal aNlo aNw aNtr aNis aNbg aNow nts z1 z2 z4 (toH gr ki ma hd L sd) nkp z3 0 0 0 0 gr wk lk sz br z ru ki ma bb hd ce (potL ru (nI (ru 7)).toInt64 (nI (toH gr ki ma hd L sd)).toInt64) 2 (by decide)) [0, 1] rfl rfl 0 rfl rfl rfl (Nat.le_of_ble_eq_true rfl) (by decide) (Nat.le_refl _) (Nat.le_refl _) ?_
                refine x_aload_n dX9_house_198 rfl ?_
                refine x_get dX9_house_199 0 25 inX9 fl_X9_63 rfl rfl (by decide) rfl ?_
                refine x_iconst 3 dX9_house_202 (by decide) ?_
                refine x_iload dX9_house_203 rfl ?_
                refine x_imul dX9_house_205 ?_
                refine x_rei (nI (3 * i)) (nI_imul 3 i) ?_
                refine x_iload dX9_house_206 rfl ?_
                refine x_iadd dX9_house_208 ?_
                refine x_rei (nI ((3 * i) + 2)) (nI_addc (3 * i) 2 rfl) ?_
                refine x_iconst 2 dX9_house_209 (by decide) ?_
                refine x_isub dX9_house_210 ?_
                refine x_rei (nI (((3 * i) + 2) - 2)) (nI_isub ((3 * i) + 2) 2 (by omega)) ?_
                refine x_iald dX9_house_211 11 (((3 * i) + 2) - 2) rfl (rfl) (by omega) (by decide) ?_
                refine x_rei (nI (winN (crH gr ki ma hd L sd) (rowB i) 2)) (congrArg nI (wiF_at _ _ (by decide) (by decide))) ?_
                refine x_aload_n dX9_house_212 rfl ?_
                refine x_get dX9_house_213 0 29 inX9 fl_X9_76 rfl rfl (by decide) rfl ?_
                refine x_iload dX9_house_216 rfl ?_
                refine x_iald dX9_house_218 13 2 rfl (rfl) (by decide) (by decide) ?_
                refine x_iadd dX9_house_219 ?_
                refine x_rei (nI ((winN (crH gr ki ma hd L sd) (rowB i) 2) + ((ownN (crH gr ki ma hd L sd) i n) 2))) (nI_iadd (winN (crH gr ki ma hd L sd) (rowB i) 2) ((ownN (crH gr ki ma hd L sd) i n) 2)) ?_
                refine x_i2l dX9_house_220 ?_
                refine x_ldiv dX9_house_221 (i64_ne0 (mt (nI_le0 (by omega)).mp (by omega))) ?_
                refine x_cVl0 dX9_house_222 ml_X9_225 mX9_taxed (ct_X9_taxed κ.2.1 g aN aNs aNk aNf aNr aNp aNb aNa aNt aNbo aNsz aNnu aNl aNal aNlo aNw aNtr aNis aNbg aNow nts z1 z2 z4 (toH gr ki ma hd L sd) nkp z3 0 0 0 0 gr wk lk sz br z ru ki ma bb hd ce ((partL ru 2 (potL ru (nI (ru 7)).toInt64 (nI (toH gr ki ma hd L sd)).toInt64)) / ((nI ((winN (crH gr ki ma hd L sd) (rowB i) 2) + ((ownN (crH gr ki ma hd L sd) i n) 2))).toInt64))) [0, 1] rfl rfl 0 rfl rfl rfl (Nat.le_of_ble_eq_true rfl) (by decide) (Nat.le_refl _) (Nat.le_refl _) ?_
                refine x_lmul dX9_house_225 ?_
                exact J175_11 _ (if_neg c175).symm
              · have c175 : (nI ((ownN (crH gr ki ma hd L sd) i n) 2)) = 0 := c175
                have c175n := (nI_eq (a := ((ownN (crH gr ki ma hd L sd) i n) 2)) (b := 0) (by omega) (by omega)).mp c175
                refine x_lconst 0 dX9_house_178 (by decide) ?_
                refine x_goto dX9_house_179 ?_
                exact J175_11 _ (if_pos c175).symm
            · have c120 : ¬ ((nI n) ≤ (nI k)) := c120
              have c120n := mt (nI_leI (a := n) (b := k) (by omega) (by omega)).mpr c120
              refine x_aload_n dX9_house_123 rfl ?_
              refine x_get dX9_house_124 0 29 inX9 fl_X9_76 rfl rfl (by decide) rfl ?_
              refine x_aload_n dX9_house_127 rfl ?_
              refine x_aload_n dX9_house_128 rfl ?_
              refine x_get dX9_house_129 0 28 inX9 fl_X9_73 rfl rfl (by decide) rfl ?_
              refine x_iload dX9_house_132 rfl ?_
              refine x_iald dX9_house_134 12 k rfl (rfl) (by omega) (by decide) ?_
              refine x_rei (nI (rowB (pkN (crH gr ki ma hd L sd) k))) (congrArg nI (fillT_in _ _ (by omega))) ?_
              refine x_aload_n dX9_house_135 rfl ?_
              refine x_get dX9_house_136 0 4 inX9 fl_X9_19 rfl rfl (by decide) rfl ?_
              refine x_iload dX9_house_139 rfl ?_
              refine x_iald dX9_house_141 4 i rfl (rfl) (by omega) (by decide) ?_
              refine x_iand dX9_house_142 ?_
              refine x_rei (nI ((rowB (pkN (crH gr ki ma hd L sd) k)) &&& (rowB i))) (nI_iand (rowB (pkN (crH gr ki ma hd L sd) k)) (rowB i)) ?_
              refine x_cVi0 dX9_house_143 ml_X9_132 mX9_ones (ct_X9_ones κ.2.1 g aN aNs aNk aNf aNr aNp aNb aNa aNt aNbo aNsz aNnu aNl aNal aNlo aNw aNtr aNis aNbg aNow nts z1 z2 z4 (toH gr ki ma hd L sd) nkp z3 0 0 0 0 ((rowB (pkN (crH gr ki ma hd L sd) k)) &&& (rowB i)) (by first | exact and_lt (by decide) | exact and_ltl (rowB_lt _) | exact rowB_lt _ | omega)) [0, 5] rfl rfl 0 rfl rfl rfl (Nat.le_of_ble_eq_true rfl) (by decide) (Nat.le_refl _) (Nat.le_refl _) ?_
              have hp4 := and4 (d := i) (pkN_lt (crH gr ki ma hd L sd) (show k < 495 by omega))
              refine x_dup2 dX9_house_146 rfl rfl ?_
              refine x_iald dX9_house_147 13 (popN ((rowB (pkN (crH gr ki ma hd L sd) k)) &&& (rowB i))) rfl (rfl) (by omega) (by decide) ?_
              refine x_iconst 1 dX9_house_148 (by decide) ?_
              refine x_iadd dX9_house_149 ?_
              refine x_rei (nI (((ownN (crH gr ki ma hd L sd) i k) (popN ((rowB (pkN (crH gr ki ma hd L sd) k)) &&& (rowB i)))) + 1)) (nI_addc ((ownN (crH gr ki ma hd L sd) i k) (popN ((rowB (pkN (crH gr ki ma hd L sd) k)) &&& (rowB i)))) 1 rfl) ?_
              refine x_rei (nI (((ownN (crH gr ki ma hd L sd) i k) (popN ((rowB (pkN (crH gr ki ma hd L sd) k)) &&& (rowB i)))) + 1)) rfl ?_
              refine x_iast (ws' := [(aN, .inr (9, [.ref aNs, .ref aNk, .int nkp, .ref aNf, .ref aNr, .ref aNp, .ref aNb, .ref aNa, .ref aNt, .int (nI nts), .ref aNbo, .ref aNsz, .ref aNnu, .int (nI z1), .int (nI z2), .int z3, .int 0, .int (nI z4), .int 0, .int 0, .int 0, .ref aNl, .ref aNal, .ref aNlo, .int (nI (toH gr ki ma hd L sd)), .ref aNw, .ref aNtr, .ref aNis, .ref aNbg, .ref aNow])), (aNs, .inl (g.2.1 0, 919, .inl (msF gr wk z lk sz br ru ki ma bb ce hd))), (aNt, .inl (g.2.1 0, 60, .inl (nIf tb))), (aNa, .inl (g.2.1 0, 2475, .inl (nIf fcN))), (aNr, .inl (g.2.1 0, 495, .inl (nIf rowB))), (aNb, .inl (g.2.1 0, 4096, .inl (nIf popN))), (aNl, .inl (g.2.1 0, 495, .inl (nIf sd))), (aNal, .inl (g.2.1 0, 495, .inl (nIf (crH gr ki ma hd L sd)))), (aNlo, .inl (g.2.1 0, 12, .inl (nIf z5))), (aNtr, .inl (g.2.1 0, 495, .inl (nIf (crH gr ki ma hd L sd)))), (aNis, .inl (g.2.1 3, 495, .inl (tkS (crH gr ki ma hd L sd) n))), (aNw, .inl (g.2.1 0, 1485, .inl (nIf (wiF (crH gr ki ma hd L sd))))), (aNbg, .inl (g.2.1 0, 495, .inl (nIf (fillT n (fun n => rowB (pkN (crH gr ki ma hd L sd) n)) nbg)))), (aNow, .inl (g.2.1 0, 5, .inl (nIf (updN (ownN (crH gr ki ma hd L sd) i k) (popN ((rowB (pkN (crH gr ki ma hd L sd) k)) &&& (rowB i))) (((ownN (crH gr ki ma hd L sd) i k) (popN ((rowB (pkN (crH gr ki ma hd L sd) k)) &&& (rowB i)))) + 1)))))]) dX9_house_150 13 (popN ((rowB (pkN (crH gr ki ma hd L sd) k)) &&& (rowB i))) rfl (rfl) (by omega) (by decide) (by rw [upd_nIf]; rfl) ?_
              refine x_iinc (lv' := [some (.ref aN), some (.int (nI n)), some (.long (potL ru (nI (ru 7)).toInt64 (nI (toH gr ki ma hd L sd)).toInt64)), none, some (.long (hoS ru (potL ru (nI (ru 7)).toInt64 (nI (toH gr ki ma hd L sd)).toInt64) (crH gr ki ma hd L sd) n i)), none, some (.int (nI i)), some (.int (nI (k + 1)))]) (nI (k + 1)) dX9_house_151 rfl (nI_addc k 1 rfl) rfl ?_
              refine x_goto dX9_house_154 ?_
              exact ih117 (by omega) (updN (ownN (crH gr ki ma hd L sd) i k) (popN ((rowB (pkN (crH gr ki ma hd L sd) k)) &&& (rowB i))) (((ownN (crH gr ki ma hd L sd) i k) (popN ((rowB (pkN (crH gr ki ma hd L sd) k)) &&& (rowB i)))) + 1)) (by exact own_s (crH gr ki ma hd L sd) i k)
          exact L117_9 0 (Nat.zero_le _) (ownN (crH gr ki ma hd L sd) i 0) (by rfl)
      exact L83_8 0 (Nat.zero_le _) _ (by rfl) now_
    · have c28 : ¬ ((nI n) ≤ (nI k)) := c28
      have c28n := mt (nI_leI (a := n) (b := k) (by omega) (by omega)).mpr c28
      refine x_aload_n dX9_house_31 rfl ?_
      refine x_cVi0 dX9_house_32 ml_X9_243 mX9_rarest (ct_X9_rarest κ.2.1 g aN aNs aNk aNf aNr aNp aNb aNa aNt aNbo aNsz aNnu aNl aNal aNlo aNw aNtr aNis aNbg aNow nts z1 z2 z4 (toH gr ki ma hd L sd) nkp z3 0 0 0 (wnI nnw nwn) (tkS (crH gr ki ma hd L sd) k) (crH gr ki ma hd L sd) (fun p => by have := hcb p; omega)) [0, 10, 9] rfl rfl 0 rfl rfl rfl (Nat.le_of_ble_eq_true rfl) (by decide) (Nat.le_refl _) (Nat.le_refl _) ?_
      refine x_rei (nI (pkN (crH gr ki ma hd L sd) k)) (if_pos (pkN_lt (crH gr ki ma hd L sd) (by omega))) ?_
      refine x_istore_n (lv' := [some (.ref aN), some (.int (nI n)), some (.int (nI k)), some (.int (nI (pkN (crH gr ki ma hd L sd) k))), none, none, none, none]) dX9_house_35 (xlt rfl) rfl ?_
      have hpk := pkN_lt (crH gr ki ma hd L sd) (show k < 495 by omega)
      refine x_aload_n dX9_house_36 rfl ?_
      refine x_get dX9_house_37 0 27 inX9 fl_X9_69 rfl rfl (by decide) rfl ?_
      refine x_iload_n dX9_house_40 rfl ?_
      refine x_iconst 1 dX9_house_41 (by decide) ?_
      refine x_zast (ws' := [(aN, .inr (9, [.ref aNs, .ref aNk, .int nkp, .ref aNf, .ref aNr, .ref aNp, .ref aNb, .ref aNa, .ref aNt, .int (nI nts), .ref aNbo, .ref aNsz, .ref aNnu, .int (nI z1), .int (nI z2), .int z3, .int 0, .int (nI z4), .int 0, .int 0, .int (wnI nnw nwn), .ref aNl, .ref aNal, .ref aNlo, .int (nI (toH gr ki ma hd L sd)), .ref aNw, .ref aNtr, .ref aNis, .ref aNbg, .ref aNow])), (aNs, .inl (g.2.1 0, 919, .inl (msF gr wk z lk sz br ru ki ma bb ce hd))), (aNt, .inl (g.2.1 0, 60, .inl (nIf tb))), (aNa, .inl (g.2.1 0, 2475, .inl (nIf fcN))), (aNr, .inl (g.2.1 0, 495, .inl (nIf rowB))), (aNb, .inl (g.2.1 0, 4096, .inl (nIf popN))), (aNl, .inl (g.2.1 0, 495, .inl (nIf sd))), (aNal, .inl (g.2.1 0, 495, .inl (nIf (crH gr ki ma hd L sd)))), (aNlo, .inl (g.2.1 0, 12, .inl (nIf z5))), (aNtr, .inl (g.2.1 0, 495, .inl (nIf (crH gr ki ma hd L sd)))), (aNis, .inl (g.2.1 3, 495, .inl (upd (tkS (crH gr ki ma hd L sd) k) (pkN (crH gr ki ma hd L sd) k) (vp_nar .boolean 1)))), (aNw, .inl (g.2.1 0, 1485, .inl (nIf nwi))), (aNbg, .inl (g.2.1 0, 495, .inl (nIf (fillT k (fun k => rowB (pkN (crH gr ki ma hd L sd) k)) nbg)))), (aNow, .inl (g.2.1 0, 5, .inl (nIf now_)))]) dX9_house_42 10 (pkN (crH gr ki ma hd L sd) k) rfl (rfl) (by omega) (by decide) rfl ?_
      refine x_aload_n dX9_house_43 rfl ?_
      refine x_get dX9_house_44 0 28 inX9 fl_X9_73 rfl rfl (by decide) rfl ?_
      refine x_iload_n dX9_house_47 rfl ?_
      refine x_aload_n dX9_house_48 rfl ?_
      refine x_get dX9_house_49 0 4 inX9 fl_X9_19 rfl rfl (by decide) rfl ?_
      refine x_iload_n dX9_house_52 rfl ?_
      refine x_iald dX9_house_53 4 (pkN (crH gr ki ma hd L sd) k) rfl (rfl) (by omega) (by decide) ?_
      refine x_rei (nI (rowB (pkN (crH gr ki ma hd L sd) k))) rfl ?_
      refine x_iast (ws' := [(aN, .inr (9, [.ref aNs, .ref aNk, .int nkp, .ref aNf, .ref aNr, .ref aNp, .ref aNb, .ref aNa, .ref aNt, .int (nI nts), .ref aNbo, .ref aNsz, .ref aNnu, .int (nI z1), .int (nI z2), .int z3, .int 0, .int (nI z4), .int 0, .int 0, .int (wnI nnw nwn), .ref aNl, .ref aNal, .ref aNlo, .int (nI (toH gr ki ma hd L sd)), .ref aNw, .ref aNtr, .ref aNis, .ref aNbg, .ref aNow])), (aNs, .inl (g.2.1 0, 919, .inl (msF gr wk z lk sz br ru ki ma bb ce hd))), (aNt, .inl (g.2.1 0, 60, .inl (nIf tb))), (aNa, .inl (g.2.1 0, 2475, .inl (nIf fcN))), (aNr, .inl (g.2.1 0, 495, .inl (nIf rowB))), (aNb, .inl (g.2.1 0, 4096, .inl (nIf popN))), (aNl, .inl (g.2.1 0, 495, .inl (nIf sd))), (aNal, .inl (g.2.1 0, 495, .inl (nIf (crH gr ki ma hd L sd)))), (aNlo, .inl (g.2.1 0, 12, .inl (nIf z5))), (aNtr, .inl (g.2.1 0, 495, .inl (nIf (crH gr ki ma hd L sd)))), (aNis, .inl (g.2.1 3, 495, .inl (upd (tkS (crH gr ki ma hd L sd) k) (pkN (crH gr ki ma hd L sd) k) (vp_nar .boolean 1)))), (aNw, .inl (g.2.1 0, 1485, .inl (nIf nwi))), (aNbg, .inl (g.2.1 0, 495, .inl (nIf (updN (fillT k (fun k => rowB (pkN (crH gr ki ma hd L sd) k)) nbg) k (rowB (pkN (crH gr ki ma hd L sd) k)))))), (aNow, .inl (g.2.1 0, 5, .inl (nIf now_)))]) dX9_house_54 12 k rfl (rfl) (by omega) (by decide) (by rw [upd_nIf]; rfl) ?_
      refine x_iinc (lv' := [some (.ref aN), some (.int (nI n)), some (.int (nI (k + 1))), some (.int (nI (pkN (crH gr ki ma hd L sd) k))), none, none, none, none]) (nI (k + 1)) dX9_house_55 rfl (nI_addc k 1 rfl) rfl ?_
      refine x_goto dX9_house_58 ?_
      refine x_fgt (lv' := [some (.ref aN), some (.int (nI n)), some (.int (nI (k + 1))), none, none, none, none, none]) ⟨Or.inr rfl, Or.inr rfl, Or.inr rfl, Or.inl rfl, Or.inl rfl, Or.inl rfl, Or.inl rfl, Or.inl rfl, trivial⟩ ?_
      exact ih26 (by omega) _ (by rfl) (updN (fillT k (fun k => rowB (pkN (crH gr ki ma hd L sd) k)) nbg) k (rowB (pkN (crH gr ki ma hd L sd) k))) (by exact fillT_updN k (fun k => rowB (pkN (crH gr ki ma hd L sd) k)) nbg)
  exact L26_7 0 (Nat.zero_le _) _ (by rfl) nbg (by exact (fillT_0 _ _).symm)

