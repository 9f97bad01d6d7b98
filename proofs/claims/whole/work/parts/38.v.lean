
-- == X9_goes ==
theorem dX9_goes_0 : xd cX9_goes 0 (.aload_n 0) 1 1 := ⟨by decide +kernel, rfl⟩
theorem dX9_goes_1 : xd cX9_goes 1 (.invokevirtual 198) 3 4 := ⟨by decide +kernel, rfl⟩
theorem dX9_goes_4 : xd cX9_goes 4 (.aload_n 0) 1 5 := ⟨by decide +kernel, rfl⟩
theorem dX9_goes_5 : xd cX9_goes 5 (.aload_n 0) 1 6 := ⟨by decide +kernel, rfl⟩
theorem dX9_goes_6 : xd cX9_goes 6 (.getfield 7) 3 9 := ⟨by decide +kernel, rfl⟩
theorem dX9_goes_9 : xd cX9_goes 9 (.bipush 17) 2 11 := ⟨by decide +kernel, rfl⟩
theorem dX9_goes_11 : xd cX9_goes 11 .iaload 1 12 := ⟨by decide +kernel, rfl⟩
theorem dX9_goes_12 : xd cX9_goes 12 (.invokevirtual 208) 3 15 := ⟨by decide +kernel, rfl⟩
theorem dX9_goes_15 : xd cX9_goes 15 (.lstore_n 2) 1 16 := ⟨by decide +kernel, rfl⟩
theorem dX9_goes_16 : xd cX9_goes 16 (.bipush 104) 2 18 := ⟨by decide +kernel, rfl⟩
theorem dX9_goes_18 : xd cX9_goes 18 (.bipush 8) 2 20 := ⟨by decide +kernel, rfl⟩
theorem dX9_goes_20 : xd cX9_goes 20 (.aload_n 0) 1 21 := ⟨by decide +kernel, rfl⟩
theorem dX9_goes_21 : xd cX9_goes 21 (.getfield 7) 3 24 := ⟨by decide +kernel, rfl⟩
theorem dX9_goes_24 : xd cX9_goes 24 (.iconst 1) 1 25 := ⟨by decide +kernel, rfl⟩
theorem dX9_goes_25 : xd cX9_goes 25 .iaload 1 26 := ⟨by decide +kernel, rfl⟩
theorem dX9_goes_26 : xd cX9_goes 26 .imul 1 27 := ⟨by decide +kernel, rfl⟩
theorem dX9_goes_27 : xd cX9_goes 27 .iadd 1 28 := ⟨by decide +kernel, rfl⟩
theorem dX9_goes_28 : xd cX9_goes 28 (.istore 4) 2 30 := ⟨by decide +kernel, rfl⟩
theorem dX9_goes_30 : xd cX9_goes 30 (.aload_n 0) 1 31 := ⟨by decide +kernel, rfl⟩
theorem dX9_goes_31 : xd cX9_goes 31 (.getfield 7) 3 34 := ⟨by decide +kernel, rfl⟩
theorem dX9_goes_34 : xd cX9_goes 34 (.iload 4) 2 36 := ⟨by decide +kernel, rfl⟩
theorem dX9_goes_36 : xd cX9_goes 36 (.iload_n 1) 1 37 := ⟨by decide +kernel, rfl⟩
theorem dX9_goes_37 : xd cX9_goes 37 .iastore 1 38 := ⟨by decide +kernel, rfl⟩
theorem dX9_goes_38 : xd cX9_goes 38 (.lload_n 2) 1 39 := ⟨by decide +kernel, rfl⟩
theorem dX9_goes_39 : xd cX9_goes 39 (.lstore 5) 2 41 := ⟨by decide +kernel, rfl⟩
theorem dX9_goes_41 : xd cX9_goes 41 (.iconst 4) 1 42 := ⟨by decide +kernel, rfl⟩
theorem dX9_goes_42 : xd cX9_goes 42 (.istore 7) 2 44 := ⟨by decide +kernel, rfl⟩
theorem dX9_goes_44 : xd cX9_goes 44 (.iload 7) 2 46 := ⟨by decide +kernel, rfl⟩
theorem dX9_goes_46 : xd cX9_goes 46 (.iconst 1) 1 47 := ⟨by decide +kernel, rfl⟩
theorem dX9_goes_47 : xj cX9_goes 47 (.if_icmp .le) 50 173 := ⟨126, by decide +kernel, rfl, by decide⟩
theorem dX9_goes_50 : xd cX9_goes 50 (.iconst 0) 1 51 := ⟨by decide +kernel, rfl⟩
theorem dX9_goes_51 : xd cX9_goes 51 (.istore 8) 2 53 := ⟨by decide +kernel, rfl⟩
theorem dX9_goes_53 : xd cX9_goes 53 (.iconst 0) 1 54 := ⟨by decide +kernel, rfl⟩
theorem dX9_goes_54 : xd cX9_goes 54 (.istore 9) 2 56 := ⟨by decide +kernel, rfl⟩
theorem dX9_goes_56 : xd cX9_goes 56 (.iload 9) 2 58 := ⟨by decide +kernel, rfl⟩
theorem dX9_goes_58 : xd cX9_goes 58 (.sipush 495) 3 61 := ⟨by decide +kernel, rfl⟩
theorem dX9_goes_61 : xj cX9_goes 61 (.if_icmp .ge) 64 104 := ⟨43, by decide +kernel, rfl, by decide⟩
theorem dX9_goes_64 : xd cX9_goes 64 (.iload 8) 2 66 := ⟨by decide +kernel, rfl⟩
theorem dX9_goes_66 : xd cX9_goes 66 (.aload_n 0) 1 67 := ⟨by decide +kernel, rfl⟩
theorem dX9_goes_67 : xd cX9_goes 67 (.aload_n 0) 1 68 := ⟨by decide +kernel, rfl⟩
theorem dX9_goes_68 : xd cX9_goes 68 (.getfield 19) 3 71 := ⟨by decide +kernel, rfl⟩
theorem dX9_goes_71 : xd cX9_goes 71 (.iload 9) 2 73 := ⟨by decide +kernel, rfl⟩
theorem dX9_goes_73 : xd cX9_goes 73 .iaload 1 74 := ⟨by decide +kernel, rfl⟩
theorem dX9_goes_74 : xd cX9_goes 74 (.iload_n 1) 1 75 := ⟨by decide +kernel, rfl⟩
theorem dX9_goes_75 : xd cX9_goes 75 .iand 1 76 := ⟨by decide +kernel, rfl⟩
theorem dX9_goes_76 : xd cX9_goes 76 (.invokevirtual 132) 3 79 := ⟨by decide +kernel, rfl⟩
theorem dX9_goes_79 : xd cX9_goes 79 (.iload 7) 2 81 := ⟨by decide +kernel, rfl⟩
theorem dX9_goes_81 : xj cX9_goes 81 (.if_icmp .ne) 84 94 := ⟨13, by decide +kernel, rfl, by decide⟩
theorem dX9_goes_84 : xd cX9_goes 84 (.aload_n 0) 1 85 := ⟨by decide +kernel, rfl⟩
theorem dX9_goes_85 : xd cX9_goes 85 (.getfield 57) 3 88 := ⟨by decide +kernel, rfl⟩
theorem dX9_goes_88 : xd cX9_goes 88 (.iload 9) 2 90 := ⟨by decide +kernel, rfl⟩
theorem dX9_goes_90 : xd cX9_goes 90 .iaload 1 91 := ⟨by decide +kernel, rfl⟩
theorem dX9_goes_91 : xj cX9_goes 91 .goto 94 95 := ⟨4, by decide +kernel, rfl, by decide⟩
theorem dX9_goes_94 : xd cX9_goes 94 (.iconst 0) 1 95 := ⟨by decide +kernel, rfl⟩
theorem dX9_goes_95 : xd cX9_goes 95 .iadd 1 96 := ⟨by decide +kernel, rfl⟩
theorem dX9_goes_96 : xd cX9_goes 96 (.istore 8) 2 98 := ⟨by decide +kernel, rfl⟩
theorem dX9_goes_98 : xd cX9_goes 98 (.iinc 9 1) 3 101 := ⟨by decide +kernel, rfl⟩
theorem dX9_goes_101 : xj cX9_goes 101 .goto 104 56 := ⟨(-45), by decide +kernel, rfl, by decide⟩
theorem dX9_goes_104 : xd cX9_goes 104 (.iload 8) 2 106 := ⟨by decide +kernel, rfl⟩
theorem dX9_goes_106 : xj cX9_goes 106 (.ifCond .ne) 109 113 := ⟨7, by decide +kernel, rfl, by decide⟩
theorem dX9_goes_109 : xd cX9_goes 109 (.lconst 0) 1 110 := ⟨by decide +kernel, rfl⟩
theorem dX9_goes_110 : xj cX9_goes 110 .goto 113 124 := ⟨14, by decide +kernel, rfl, by decide⟩
theorem dX9_goes_113 : xd cX9_goes 113 (.aload_n 0) 1 114 := ⟨by decide +kernel, rfl⟩
theorem dX9_goes_114 : xd cX9_goes 114 (.lload_n 2) 1 115 := ⟨by decide +kernel, rfl⟩
theorem dX9_goes_115 : xd cX9_goes 115 (.iload 7) 2 117 := ⟨by decide +kernel, rfl⟩
theorem dX9_goes_117 : xd cX9_goes 117 (.invokevirtual 212) 3 120 := ⟨by decide +kernel, rfl⟩
theorem dX9_goes_120 : xd cX9_goes 120 (.iload 8) 2 122 := ⟨by decide +kernel, rfl⟩
theorem dX9_goes_122 : xd cX9_goes 122 .i2l 1 123 := ⟨by decide +kernel, rfl⟩
theorem dX9_goes_123 : xd cX9_goes 123 .ldiv 1 124 := ⟨by decide +kernel, rfl⟩
theorem dX9_goes_124 : xd cX9_goes 124 (.lstore 9) 2 126 := ⟨by decide +kernel, rfl⟩
theorem dX9_goes_126 : xd cX9_goes 126 (.lload 5) 2 128 := ⟨by decide +kernel, rfl⟩
theorem dX9_goes_128 : xd cX9_goes 128 (.lload 9) 2 130 := ⟨by decide +kernel, rfl⟩
theorem dX9_goes_130 : xd cX9_goes 130 (.iload 8) 2 132 := ⟨by decide +kernel, rfl⟩
theorem dX9_goes_132 : xd cX9_goes 132 .i2l 1 133 := ⟨by decide +kernel, rfl⟩
theorem dX9_goes_133 : xd cX9_goes 133 .lmul 1 134 := ⟨by decide +kernel, rfl⟩
theorem dX9_goes_134 : xd cX9_goes 134 .lsub 1 135 := ⟨by decide +kernel, rfl⟩
theorem dX9_goes_135 : xd cX9_goes 135 (.lstore 5) 2 137 := ⟨by decide +kernel, rfl⟩
theorem dX9_goes_137 : xd cX9_goes 137 (.aload_n 0) 1 138 := ⟨by decide +kernel, rfl⟩
theorem dX9_goes_138 : xd cX9_goes 138 (.getfield 7) 3 141 := ⟨by decide +kernel, rfl⟩
theorem dX9_goes_141 : xd cX9_goes 141 (.iload 4) 2 143 := ⟨by decide +kernel, rfl⟩
theorem dX9_goes_143 : xd cX9_goes 143 (.iconst 5) 1 144 := ⟨by decide +kernel, rfl⟩
theorem dX9_goes_144 : xd cX9_goes 144 .iadd 1 145 := ⟨by decide +kernel, rfl⟩
theorem dX9_goes_145 : xd cX9_goes 145 (.iload 7) 2 147 := ⟨by decide +kernel, rfl⟩
theorem dX9_goes_147 : xd cX9_goes 147 .isub 1 148 := ⟨by decide +kernel, rfl⟩
theorem dX9_goes_148 : xd cX9_goes 148 (.iload 8) 2 150 := ⟨by decide +kernel, rfl⟩
theorem dX9_goes_150 : xd cX9_goes 150 .iastore 1 151 := ⟨by decide +kernel, rfl⟩
theorem dX9_goes_151 : xd cX9_goes 151 (.aload_n 0) 1 152 := ⟨by decide +kernel, rfl⟩
theorem dX9_goes_152 : xd cX9_goes 152 (.getfield 7) 3 155 := ⟨by decide +kernel, rfl⟩
theorem dX9_goes_155 : xd cX9_goes 155 (.iload 4) 2 157 := ⟨by decide +kernel, rfl⟩
theorem dX9_goes_157 : xd cX9_goes 157 (.bipush 8) 2 159 := ⟨by decide +kernel, rfl⟩
theorem dX9_goes_159 : xd cX9_goes 159 .iadd 1 160 := ⟨by decide +kernel, rfl⟩
theorem dX9_goes_160 : xd cX9_goes 160 (.iload 7) 2 162 := ⟨by decide +kernel, rfl⟩
theorem dX9_goes_162 : xd cX9_goes 162 .isub 1 163 := ⟨by decide +kernel, rfl⟩
theorem dX9_goes_163 : xd cX9_goes 163 (.lload 9) 2 165 := ⟨by decide +kernel, rfl⟩
theorem dX9_goes_165 : xd cX9_goes 165 .l2i 1 166 := ⟨by decide +kernel, rfl⟩
theorem dX9_goes_166 : xd cX9_goes 166 .iastore 1 167 := ⟨by decide +kernel, rfl⟩
theorem dX9_goes_167 : xd cX9_goes 167 (.iinc 7 (-1)) 3 170 := ⟨by decide +kernel, rfl⟩
theorem dX9_goes_170 : xj cX9_goes 170 .goto 173 44 := ⟨(-126), by decide +kernel, rfl, by decide⟩
theorem dX9_goes_173 : xd cX9_goes 173 (.aload_n 0) 1 174 := ⟨by decide +kernel, rfl⟩
theorem dX9_goes_174 : xd cX9_goes 174 (.getfield 7) 3 177 := ⟨by decide +kernel, rfl⟩
theorem dX9_goes_177 : xd cX9_goes 177 (.bipush 17) 2 179 := ⟨by decide +kernel, rfl⟩
theorem dX9_goes_179 : xd cX9_goes 179 (.lload 5) 2 181 := ⟨by decide +kernel, rfl⟩
theorem dX9_goes_181 : xd cX9_goes 181 (.lconst 0) 1 182 := ⟨by decide +kernel, rfl⟩
theorem dX9_goes_182 : xd cX9_goes 182 .lcmp 1 183 := ⟨by decide +kernel, rfl⟩
theorem dX9_goes_183 : xj cX9_goes 183 (.ifCond .ge) 186 190 := ⟨7, by decide +kernel, rfl, by decide⟩
theorem dX9_goes_186 : xd cX9_goes 186 (.lconst 0) 1 187 := ⟨by decide +kernel, rfl⟩
theorem dX9_goes_187 : xj cX9_goes 187 .goto 190 207 := ⟨20, by decide +kernel, rfl, by decide⟩
theorem dX9_goes_190 : xd cX9_goes 190 (.lload 5) 2 192 := ⟨by decide +kernel, rfl⟩
theorem dX9_goes_192 : xd cX9_goes 192 (.ldc2_w 216) 3 195 := ⟨by decide +kernel, rfl⟩
theorem dX9_goes_195 : xd cX9_goes 195 .lcmp 1 196 := ⟨by decide +kernel, rfl⟩
theorem dX9_goes_196 : xj cX9_goes 196 (.ifCond .le) 199 205 := ⟨9, by decide +kernel, rfl, by decide⟩
theorem dX9_goes_199 : xd cX9_goes 199 (.ldc2_w 216) 3 202 := ⟨by decide +kernel, rfl⟩
theorem dX9_goes_202 : xj cX9_goes 202 .goto 205 207 := ⟨5, by decide +kernel, rfl, by decide⟩
theorem dX9_goes_205 : xd cX9_goes 205 (.lload 5) 2 207 := ⟨by decide +kernel, rfl⟩
theorem dX9_goes_207 : xd cX9_goes 207 .l2i 1 208 := ⟨by decide +kernel, rfl⟩
theorem dX9_goes_208 : xd cX9_goes 208 .iastore 1 209 := ⟨by decide +kernel, rfl⟩
theorem dX9_goes_209 : xd cX9_goes 209 (.aload_n 0) 1 210 := ⟨by decide +kernel, rfl⟩
theorem dX9_goes_210 : xd cX9_goes 210 (.getfield 7) 3 213 := ⟨by decide +kernel, rfl⟩
theorem dX9_goes_213 : xd cX9_goes 213 (.iload 4) 2 215 := ⟨by decide +kernel, rfl⟩
theorem dX9_goes_215 : xd cX9_goes 215 (.bipush 7) 2 217 := ⟨by decide +kernel, rfl⟩
theorem dX9_goes_217 : xd cX9_goes 217 .iadd 1 218 := ⟨by decide +kernel, rfl⟩
theorem dX9_goes_218 : xd cX9_goes 218 (.aload_n 0) 1 219 := ⟨by decide +kernel, rfl⟩
theorem dX9_goes_219 : xd cX9_goes 219 (.getfield 7) 3 222 := ⟨by decide +kernel, rfl⟩
theorem dX9_goes_222 : xd cX9_goes 222 (.bipush 17) 2 224 := ⟨by decide +kernel, rfl⟩
theorem dX9_goes_224 : xd cX9_goes 224 .iaload 1 225 := ⟨by decide +kernel, rfl⟩
theorem dX9_goes_225 : xd cX9_goes 225 .iastore 1 226 := ⟨by decide +kernel, rfl⟩
theorem dX9_goes_226 : xd cX9_goes 226 (.aload_n 0) 1 227 := ⟨by decide +kernel, rfl⟩
theorem dX9_goes_227 : xd cX9_goes 227 (.getfield 7) 3 230 := ⟨by decide +kernel, rfl⟩
theorem dX9_goes_230 : xd cX9_goes 230 (.iconst 1) 1 231 := ⟨by decide +kernel, rfl⟩
theorem dX9_goes_231 : xd cX9_goes 231 .dup2 1 232 := ⟨by decide +kernel, rfl⟩
theorem dX9_goes_232 : xd cX9_goes 232 .iaload 1 233 := ⟨by decide +kernel, rfl⟩
theorem dX9_goes_233 : xd cX9_goes 233 (.iconst 1) 1 234 := ⟨by decide +kernel, rfl⟩
theorem dX9_goes_234 : xd cX9_goes 234 .iadd 1 235 := ⟨by decide +kernel, rfl⟩
theorem dX9_goes_235 : xd cX9_goes 235 .iastore 1 236 := ⟨by decide +kernel, rfl⟩
theorem dX9_goes_236 : xd cX9_goes 236 (.aload_n 0) 1 237 := ⟨by decide +kernel, rfl⟩
theorem dX9_goes_237 : xd cX9_goes 237 (.iconst 1) 1 238 := ⟨by decide +kernel, rfl⟩
theorem dX9_goes_238 : xd cX9_goes 238 (.putfield 44) 3 241 := ⟨by decide +kernel, rfl⟩
theorem dX9_goes_241 : xd cX9_goes 241 (.aload_n 0) 1 242 := ⟨by decide +kernel, rfl⟩
theorem dX9_goes_242 : xd cX9_goes 242 (.iconst 1) 1 243 := ⟨by decide +kernel, rfl⟩
theorem dX9_goes_243 : xd cX9_goes 243 (.putfield 48) 3 246 := ⟨by decide +kernel, rfl⟩
theorem dX9_goes_246 : xd cX9_goes 246 .return_ 1 247 := ⟨by decide +kernel, rfl⟩

set_option maxRecDepth 100000 in
set_option maxHeartbeats 4000000 in
theorem ct_X9_goes (l : Launch) (g : XG) (aN aNs aNk aNf aNr aNp aNb aNa aNt aNbo aNsz aNnu aNl aNal aNlo aNw aNtr aNis aNbg aNow nts nta nop npr nac : Nat) (nkp nbd nnw nsn nwn : Int32) (gr wk lk sz br : Nat) (z : Int32) (ru ki ma bb hd : Nat → Nat) (ce : Nat → Int32) (tb nli nal nlo sd : Nat → Nat) (L : Nat) (d : Nat) (hgr : gr ≤ 12) (hki : ∀ j, ki j ≤ 7) (hma : ∀ j, ma j ≤ 99999) (hwk : wk ≤ 40) (hlat : latI ce wk = nI L) (hL : L < 4096) (hsz : sz ≤ 60) (hbb : ∀ j, bb j < 256) (hsd : ∀ p, sd p ≤ 99) (hsv : ∀ p, p < 495 → sd p = if lk = 1 then clN (txV bb sz wk L p) else 1) (hlk : lk ≤ 1) (hwo : (nnw = 1 ∧ (nsn = 1 ∨ (nsn = 0 ∧ nli = sd))) ∨ (nnw = 0 ∧ nsn = 0 ∧ nli = sd ∧ nal = crH gr ki ma hd L sd ∧ nac = toH gr ki ma hd L sd ∧ ∀ q, q < gr → nlo q = laN (ki q) (ma q) L sd)) (hdr : d < 4096) (hw4 : wk < 40) (htot : toH gr ki ma hd L sd < 2 ^ 30) : Ct l g 29 0 0 yX9_goes cX9_goes 11 none [.ref aN, .int (nI d)] [(aN, .inr (9, [.ref aNs, .ref aNk, .int nkp, .ref aNf, .ref aNr, .ref aNp, .ref aNb, .ref aNa, .ref aNt, .int (nI nts), .ref aNbo, .ref aNsz, .ref aNnu, .int (nI nta), .int (nI nop), .int nbd, .int 0, .int (nI npr), .int nnw, .int nsn, .int nwn, .ref aNl, .ref aNal, .ref aNlo, .int (nI nac), .ref aNw, .ref aNtr, .ref aNis, .ref aNbg, .ref aNow])), (aNs, .inl (g.2.1 0, 919, .inl (msF gr wk z lk sz br ru ki ma bb ce hd))), (aNt, .inl (g.2.1 0, 60, .inl (nIf tb))), (aNa, .inl (g.2.1 0, 2475, .inl (nIf fcN))), (aNr, .inl (g.2.1 0, 495, .inl (nIf rowB))), (aNb, .inl (g.2.1 0, 4096, .inl (nIf popN))), (aNl, .inl (g.2.1 0, 495, .inl (nIf nli))), (aNal, .inl (g.2.1 0, 495, .inl (nIf nal))), (aNlo, .inl (g.2.1 0, 12, .inl (nIf nlo)))] (fun vv_ ww_ => ∃ (zat : Nat) (zop : Nat) (zbd : Int32) (zpr : Nat) (lo2 : Nat → Nat), vv_ = none ∧ ww_ = [(aN, .inr (9, [.ref aNs, .ref aNk, .int nkp, .ref aNf, .ref aNr, .ref aNp, .ref aNb, .ref aNa, .ref aNt, .int (nI nts), .ref aNbo, .ref aNsz, .ref aNnu, .int (nI zat), .int (nI zop), .int zbd, .int 0, .int (nI zpr), .int 1, .int 1, .int (wnI nnw nwn), .ref aNl, .ref aNal, .ref aNlo, .int (nI (toH gr ki ma hd L sd)), .ref aNw, .ref aNtr, .ref aNis, .ref aNbg, .ref aNow])), (aNs, .inl (g.2.1 0, 919, .inl (msF gr (wk + 1) z lk sz br (updN ru 7 (potE (wkLeft ru (toH gr ki ma hd L sd) (crH gr ki ma hd L sd) d))) ki ma bb (wkCells ce wk ru (toH gr ki ma hd L sd) (crH gr ki ma hd L sd) d) hd))), (aNt, .inl (g.2.1 0, 60, .inl (nIf tb))), (aNa, .inl (g.2.1 0, 2475, .inl (nIf fcN))), (aNr, .inl (g.2.1 0, 495, .inl (nIf rowB))), (aNb, .inl (g.2.1 0, 4096, .inl (nIf popN))), (aNl, .inl (g.2.1 0, 495, .inl (nIf sd))), (aNal, .inl (g.2.1 0, 495, .inl (nIf (crH gr ki ma hd L sd)))), (aNlo, .inl (g.2.1 0, 12, .inl (nIf lo2)))] ∧ (∀ q, q < gr → lo2 q = laN (ki q) (ma q) L sd)) := by
  refine Ct.ofX (lv := [some (.ref aN), some (.int (nI d)), none, none, none, none, none, none, none, none, none]) (by decide) rfl (Nat.le_of_ble_eq_true rfl) (fun κ => ?_)
  generalize hQ : xQ κ g 0 0 _ = Q
  have hw3 := fun r => winN_le (crH gr ki ma hd L sd) d r
  have htt := htot
  simp only [toH] at htt
  have hq4 := hw3 4
  have hq3 := hw3 3
  have hq2 := hw3 2
  refine x_aload_n dX9_goes_0 rfl ?_
  refine x_callV dX9_goes_1 ml_X9_198 mX9_works (ct_X9_works κ.2.1 g aN aNs aNk aNf aNr aNp aNb aNa aNt aNbo aNsz aNnu aNl aNal aNlo aNw aNtr aNis aNbg aNow nts nta nop npr nac nkp nbd nnw nsn nwn gr wk lk sz br z ru ki ma bb hd ce tb nli nal nlo sd L (hgr) (hki) (hma) (hwk) (hlat) (hL) (hsz) (hbb) (hsd) (hsv) (hlk) (hwo)) [0, 1, 2, 3, 4, 5, 6, 7, 8] rfl rfl 0 rfl rfl rfl (Nat.le_of_ble_eq_true rfl) (by decide) (Nat.le_refl _) (Nat.le_refl _) (fun vv ww hp => ?_)
  obtain ⟨z1, z2, z3, z4, z5, rfl, rfl, p6⟩ := hp
  refine ⟨(rfl : [aN, aNs, aNt, aNa, aNr, aNb, aNl, aNal, aNlo] = [aN, aNs, aNt, aNa, aNr, aNb, aNl, aNal, aNlo]), x_eq (lv' := [some (.ref aN), some (.int (nI d)), none, none, none, none, none, none, none, none, none]) (st' := []) (ws' := [(aN, .inr (9, [.ref aNs, .ref aNk, .int nkp, .ref aNf, .ref aNr, .ref aNp, .ref aNb, .ref aNa, .ref aNt, .int (nI nts), .ref aNbo, .ref aNsz, .ref aNnu, .int (nI z1), .int (nI z2), .int z3, .int 0, .int (nI z4), .int 0, .int 0, .int (wnI nnw nwn), .ref aNl, .ref aNal, .ref aNlo, .int (nI (toH gr ki ma hd L sd)), .ref aNw, .ref aNtr, .ref aNis, .ref aNbg, .ref aNow])), (aNs, .inl (g.2.1 0, 919, .inl (msF gr wk z lk sz br ru ki ma bb ce hd))), (aNt, .inl (g.2.1 0, 60, .inl (nIf tb))), (aNa, .inl (g.2.1 0, 2475, .inl (nIf fcN))), (aNr, .inl (g.2.1 0, 495, .inl (nIf rowB))), (aNb, .inl (g.2.1 0, 4096, .inl (nIf popN))), (aNl, .inl (g.2.1 0, 495, .inl (nIf sd))), (aNal, .inl (g.2.1 0, 495, .inl (nIf (crH gr ki ma hd L sd)))), (aNlo, .inl (g.2.1 0, 12, .inl (nIf z5)))]) ?_ rfl rfl rfl⟩
  refine x_aload_n dX9_goes_4 rfl ?_
  refine x_aload_n dX9_goes_5 rfl ?_
  refine x_get dX9_goes_6 0 0 inX9 fl_X9_7 rfl rfl (by decide) rfl ?_
  refine x_bipush 17 dX9_goes_9 (by decide) ?_
  refine x_iald dX9_goes_11 1 17 rfl (rfl) (by decide) (by decide) ?_
  refine x_rei (nI (ru 7)) (msg_ru (x := 7) (by omega) (by omega)) ?_
  refine x_cVl0 dX9_goes_12 ml_X9_208 mX9_potWith (ct_pot_o κ.2.1 g aN aNs aNk aNf aNr aNp aNb aNa aNt aNbo aNsz aNnu aNl aNal aNlo aNw aNtr aNis aNbg aNow nts z1 z2 z4 (toH gr ki ma hd L sd) nkp z3 0 0 (wnI nnw nwn) gr wk lk sz br z ru ki ma bb hd ce (ru 7)) [0, 1] rfl rfl 0 rfl rfl rfl (Nat.le_of_ble_eq_true rfl) (by decide) (Nat.le_refl _) (Nat.le_refl _) ?_
  refine x_lstore_n (lv' := [some (.ref aN), some (.int (nI d)), some (.long (potL ru (nI (ru 7)).toInt64 (nI (toH gr ki ma hd L sd)).toInt64)), none, none, none, none, none, none, none, none]) dX9_goes_15 (xlt rfl) rfl ?_
  refine x_bipush 104 dX9_goes_16 (by decide) ?_
  refine x_bipush 8 dX9_goes_18 (by decide) ?_
  refine x_aload_n dX9_goes_20 rfl ?_
  refine x_get dX9_goes_21 0 0 inX9 fl_X9_7 rfl rfl (by decide) rfl ?_
  refine x_iconst 1 dX9_goes_24 (by decide) ?_
  refine x_iald dX9_goes_25 1 1 rfl (rfl) (by decide) (by decide) ?_
  refine x_rei (nI wk) (rfl) ?_
  refine x_imul dX9_goes_26 ?_
  refine x_rei (nI (8 * wk)) (nI_imul 8 wk) ?_
  refine x_iadd dX9_goes_27 ?_
  refine x_rei (nI (104 + (8 * wk))) (nI_iadd 104 (8 * wk)) ?_
  refine x_istore (lv' := [some (.ref aN), some (.int (nI d)), some (.long (potL ru (nI (ru 7)).toInt64 (nI (toH gr ki ma hd L sd)).toInt64)), none, some (.int (nI (104 + (8 * wk)))), none, none, none, none, none, none]) dX9_goes_28 (xlt rfl) rfl ?_
  refine x_aload_n dX9_goes_30 rfl ?_
  refine x_get dX9_goes_31 0 0 inX9 fl_X9_7 rfl rfl (by decide) rfl ?_
  refine x_iload dX9_goes_34 rfl ?_
  refine x_iload_n dX9_goes_36 rfl ?_
  refine x_iast (ws' := [(aN, .inr (9, [.ref aNs, .ref aNk, .int nkp, .ref aNf, .ref aNr, .ref aNp, .ref aNb, .ref aNa, .ref aNt, .int (nI nts), .ref aNbo, .ref aNsz, .ref aNnu, .int (nI z1), .int (nI z2), .int z3, .int 0, .int (nI z4), .int 0, .int 0, .int (wnI nnw nwn), .ref aNl, .ref aNal, .ref aNlo, .int (nI (toH gr ki ma hd L sd)), .ref aNw, .ref aNtr, .ref aNis, .ref aNbg, .ref aNow])), (aNs, .inl (g.2.1 0, 919, .inl (msF gr wk z lk sz br ru ki ma bb (upd ce (8 * wk) (nI d)) hd))), (aNt, .inl (g.2.1 0, 60, .inl (nIf tb))), (aNa, .inl (g.2.1 0, 2475, .inl (nIf fcN))), (aNr, .inl (g.2.1 0, 495, .inl (nIf rowB))), (aNb, .inl (g.2.1 0, 4096, .inl (nIf popN))), (aNl, .inl (g.2.1 0, 495, .inl (nIf sd))), (aNal, .inl (g.2.1 0, 495, .inl (nIf (crH gr ki ma hd L sd)))), (aNlo, .inl (g.2.1 0, 12, .inl (nIf z5)))]) dX9_goes_37 1 (104 + (8 * wk)) rfl (rfl) (by omega) (by decide) (by rw [mss_ce (x := (8 * wk)) (by omega) (by omega)]; rfl) ?_
  refine x_lload_n dX9_goes_38 rfl ?_
  refine x_lstore (lv' := [some (.ref aN), some (.int (nI d)), some (.long (potL ru (nI (ru 7)).toInt64 (nI (toH gr ki ma hd L sd)).toInt64)), none, some (.int (nI (104 + (8 * wk)))), some (.long (potL ru (nI (ru 7)).toInt64 (nI (toH gr ki ma hd L sd)).toInt64)), none, none, none, none, none]) dX9_goes_39 (xlt rfl) rfl ?_
  refine x_iconst 4 dX9_goes_41 (by decide) ?_
  refine x_istore (lv' := [some (.ref aN), some (.int (nI d)), some (.long (potL ru (nI (ru 7)).toInt64 (nI (toH gr ki ma hd L sd)).toInt64)), none, some (.int (nI (104 + (8 * wk)))), some (.long (potL ru (nI (ru 7)).toInt64 (nI (toH gr ki ma hd L sd)).toInt64)), none, some (.int 4), none, none, none]) dX9_goes_42 (xlt rfl) rfl ?_
  refine x_iload dX9_goes_44 rfl ?_
  refine x_iconst 1 dX9_goes_46 (by decide) ?_
  refine x_icmp_le dX9_goes_47 (fun c47 => ?_) (fun c47 => ?_)
  · exact absurd c47 (by decide)
  refine x_iconst 0 dX9_goes_50 (by decide) ?_
  refine x_istore (lv' := [some (.ref aN), some (.int (nI d)), some (.long (potL ru (nI (ru 7)).toInt64 (nI (toH gr ki ma hd L sd)).toInt64)), none, some (.int (nI (104 + (8 * wk)))), some (.long (potL ru (nI (ru 7)).toInt64 (nI (toH gr ki ma hd L sd)).toInt64)), none, some (.int 4), some (.int 0), none, none]) dX9_goes_51 (xlt rfl) rfl ?_
  refine x_iconst 0 dX9_goes_53 (by decide) ?_
  refine x_istore (lv' := [some (.ref aN), some (.int (nI d)), some (.long (potL ru (nI (ru 7)).toInt64 (nI (toH gr ki ma hd L sd)).toInt64)), none, some (.int (nI (104 + (8 * wk)))), some (.long (potL ru (nI (ru 7)).toInt64 (nI (toH gr ki ma hd L sd)).toInt64)), none, some (.int 4), some (.int 0), some (.int 0), none]) dX9_goes_54 (xlt rfl) rfl ?_
  have L56_7 : ∀ (i : Nat), i ≤ 495 → ∀ (nn : Nat), nn = winT (crH gr ki ma hd L sd) d i 4 → Xs κ g 29 0 0 cX9_goes yX9_goes none Q 0 0 56 [some (.ref aN), some (.int (nI d)), some (.long (potL ru (nI (ru 7)).toInt64 (nI (toH gr ki ma hd L sd)).toInt64)), none, some (.int (nI (104 + (8 * wk)))), some (.long (potL ru (nI (ru 7)).toInt64 (nI (toH gr ki ma hd L sd)).toInt64)), none, some (.int 4), some (.int (nI nn)), some (.int (nI i)), none] [] [(aN, .inr (9, [.ref aNs, .ref aNk, .int nkp, .ref aNf, .ref aNr, .ref aNp, .ref aNb, .ref aNa, .ref aNt, .int (nI nts), .ref aNbo, .ref aNsz, .ref aNnu, .int (nI z1), .int (nI z2), .int z3, .int 0, .int (nI z4), .int 0, .int 0, .int (wnI nnw nwn), .ref aNl, .ref aNal, .ref aNlo, .int (nI (toH gr ki ma hd L sd)), .ref aNw, .ref aNtr, .ref aNis, .ref aNbg, .ref aNow])), (aNs, .inl (g.2.1 0, 919, .inl (msF gr wk z lk sz br ru ki ma bb (upd ce (8 * wk) (nI d)) hd))), (aNt, .inl (g.2.1 0, 60, .inl (nIf tb))), (aNa, .inl (g.2.1 0, 2475, .inl (nIf fcN))), (aNr, .inl (g.2.1 0, 495, .inl (nIf rowB))), (aNb, .inl (g.2.1 0, 4096, .inl (nIf popN))), (aNl, .inl (g.2.1 0, 495, .inl (nIf sd))), (aNal, .inl (g.2.1 0, 495, .inl (nIf (crH gr ki ma hd L sd)))), (aNlo, .inl (g.2.1 0, 12, .inl (nIf z5)))] := by
    refine upTo 495 (fun i hi56 ih56 => ?_)
    intro nn enn
    subst enn
    have hpl := popN_le (rowB i &&& d)
    refine x_iload dX9_goes_56 rfl ?_
    refine x_sipush 495 dX9_goes_58 (by decide) ?_
    refine x_icmp_ge dX9_goes_61 (fun c61 => ?_) (fun c61 => ?_)
    · have c61 : 495 ≤ (nI i) := c61
      have c61n := (nI_leI (a := 495) (b := i) (by omega) (by omega)).mp c61
      have hxc61 : i = 495 := by omega
      try rw [hxc61]
      skip
      · skip
        refine x_eq (lv' := [some (.ref aN), some (.int (nI d)), some (.long (potL ru (nI (ru 7)).toInt64 (nI (toH gr ki ma hd L sd)).toInt64)), none, some (.int (nI (104 + (8 * wk)))), some (.long (potL ru (nI (ru 7)).toInt64 (nI (toH gr ki ma hd L sd)).toInt64)), none, some (.int 4), some (.int (nI (winN (crH gr ki ma hd L sd) d 4))), some (.int 495), none]) (st' := []) (ws' := [(aN, .inr (9, [.ref aNs, .ref aNk, .int nkp, .ref aNf, .ref aNr, .ref aNp, .ref aNb, .ref aNa, .ref aNt, .int (nI nts), .ref aNbo, .ref aNsz, .ref aNnu, .int (nI z1), .int (nI z2), .int z3, .int 0, .int (nI z4), .int 0, .int 0, .int (wnI nnw nwn), .ref aNl, .ref aNal, .ref aNlo, .int (nI (toH gr ki ma hd L sd)), .ref aNw, .ref aNtr, .ref aNis, .ref aNbg, .ref aNow])), (aNs, .inl (g.2.1 0, 919, .inl (msF gr wk z lk sz br ru ki ma bb (upd ce (8 * wk) (nI d)) hd))), (aNt, .inl (g.2.1 0, 60, .inl (nIf tb))), (aNa, .inl (g.2.1 0, 2475, .inl (nIf fcN))), (aNr, .inl (g.2.1 0, 495, .inl (nIf rowB))), (aNb, .inl (g.2.1 0, 4096, .inl (nIf popN))), (aNl, .inl (g.2.1 0, 495, .inl (nIf sd))), (aNal, .inl (g.2.1 0, 495, .inl (nIf (crH gr ki ma hd L sd)))), (aNlo, .inl (g.2.1 0, 12, .inl (nIf z5)))]) ?_ rfl rfl rfl
        refine x_iload dX9_goes_104 rfl ?_
        have J106_9 : ∀ (v8 : Int64), v8 = (if (nI (winN (crH gr ki ma hd L sd) d 4)) = 0 then 0 else (partL ru 4 (potL ru (nI (ru 7)).toInt64 (nI (toH gr ki ma hd L sd)).toInt64)) / ((nI (winN (crH gr ki ma hd L sd) d 4)).toInt64)) → Xs κ g 29 0 0 cX9_goes yX9_goes none Q 0 0 124 [some (.ref aN), some (.int (nI d)), some (.long (potL ru (nI (ru 7)).toInt64 (nI (toH gr ki ma hd L sd)).toInt64)), none, some (.int (nI (104 + (8 * wk)))), some (.long (potL ru (nI (ru 7)).toInt64 (nI (toH gr ki ma hd L sd)).toInt64)), none, some (.int 4), some (.int (nI (winN (crH gr ki ma hd L sd) d 4))), some (.int 495), none] [.long v8] [(aN, .inr (9, [.ref aNs, .ref aNk, .int nkp, .ref aNf, .ref aNr, .ref aNp, .ref aNb, .ref aNa, .ref aNt, .int (nI nts), .ref aNbo, .ref aNsz, .ref aNnu, .int (nI z1), .int (nI z2), .int z3, .int 0, .int (nI z4), .int 0, .int 0, .int (wnI nnw nwn), .ref aNl, .ref aNal, .ref aNlo, .int (nI (toH gr ki ma hd L sd)), .ref aNw, .ref aNtr, .ref aNis, .ref aNbg, .ref aNow])), (aNs, .inl (g.2.1 0, 919, .inl (msF gr wk z lk sz br ru ki ma bb (upd ce (8 * wk) (nI d)) hd))), (aNt, .inl (g.2.1 0, 60, .inl (nIf tb))), (aNa, .inl (g.2.1 0, 2475, .inl (nIf fcN))), (aNr, .inl (g.2.1 0, 495, .inl (nIf rowB))), (aNb, .inl (g.2.1 0, 4096, .inl (nIf popN))), (aNl, .inl (g.2.1 0, 495, .inl (nIf sd))), (aNal, .inl (g.2.1 0, 495, .inl (nIf (crH gr ki ma hd L sd)))), (aNlo, .inl (g.2.1 0, 12, .inl (nIf z5)))] := by
          intro v8 ev8
          refine x_rel (wkE ru (toH gr ki ma hd L sd) (crH gr ki ma hd L sd) d 4) (by (try simp only [ev8]); exact each_if (winN (crH gr ki ma hd L sd) d 4) (by have := hw3 4; omega) (partL ru 4 (wkPot ru (toH gr ki ma hd L sd)))) ?_
          refine x_lstore (lv' := [some (.ref aN), some (.int (nI d)), some (.long (potL ru (nI (ru 7)).toInt64 (nI (toH gr ki ma hd L sd)).toInt64)), none, some (.int (nI (104 + (8 * wk)))), some (.long (potL ru (nI (ru 7)).toInt64 (nI (toH gr ki ma hd L sd)).toInt64)), none, some (.int 4), some (.int (nI (winN (crH gr ki ma hd L sd) d 4))), some (.long (wkE ru (toH gr ki ma hd L sd) (crH gr ki ma hd L sd) d 4)), none]) dX9_goes_124 (xlt rfl) rfl ?_
          refine x_lload dX9_goes_126 rfl ?_
          refine x_lload dX9_goes_128 rfl ?_
          refine x_iload dX9_goes_130 rfl ?_
          refine x_i2l dX9_goes_132 ?_
          refine x_lmul dX9_goes_133 ?_
          refine x_lsub dX9_goes_134 ?_
          refine x_lstore (lv' := [some (.ref aN), some (.int (nI d)), some (.long (potL ru (nI (ru 7)).toInt64 (nI (toH gr ki ma hd L sd)).toInt64)), none, some (.int (nI (104 + (8 * wk)))), some (.long ((potL ru (nI (ru 7)).toInt64 (nI (toH gr ki ma hd L sd)).toInt64) - ((wkE ru (toH gr ki ma hd L sd) (crH gr ki ma hd L sd) d 4) * ((nI (winN (crH gr ki ma hd L sd) d 4)).toInt64)))), none, some (.int 4), some (.int (nI (winN (crH gr ki ma hd L sd) d 4))), some (.long (wkE ru (toH gr ki ma hd L sd) (crH gr ki ma hd L sd) d 4)), none]) dX9_goes_135 (xlt rfl) rfl ?_
          refine x_aload_n dX9_goes_137 rfl ?_
          refine x_get dX9_goes_138 0 0 inX9 fl_X9_7 rfl rfl (by decide) rfl ?_
          refine x_iload dX9_goes_141 rfl ?_
          refine x_iconst 5 dX9_goes_143 (by decide) ?_
          refine x_iadd dX9_goes_144 ?_
          refine x_rei (nI ((104 + (8 * wk)) + 5)) (nI_addc (104 + (8 * wk)) 5 rfl) ?_
          refine x_iload dX9_goes_145 rfl ?_
          refine x_isub dX9_goes_147 ?_
          refine x_rei (nI (((104 + (8 * wk)) + 5) - 4)) (nI_isub ((104 + (8 * wk)) + 5) 4 (by omega)) ?_
          refine x_iload dX9_goes_148 rfl ?_
          refine x_iast (ws' := [(aN, .inr (9, [.ref aNs, .ref aNk, .int nkp, .ref aNf, .ref aNr, .ref aNp, .ref aNb, .ref aNa, .ref aNt, .int (nI nts), .ref aNbo, .ref aNsz, .ref aNnu, .int (nI z1), .int (nI z2), .int z3, .int 0, .int (nI z4), .int 0, .int 0, .int (wnI nnw nwn), .ref aNl, .ref aNal, .ref aNlo, .int (nI (toH gr ki ma hd L sd)), .ref aNw, .ref aNtr, .ref aNis, .ref aNbg, .ref aNow])), (aNs, .inl (g.2.1 0, 919, .inl (msF gr wk z lk sz br ru ki ma bb (upd ((upd ce (8 * wk) (nI d))) ((8 * wk) + 5 - 4) (nI (winN (crH gr ki ma hd L sd) d 4))) hd))), (aNt, .inl (g.2.1 0, 60, .inl (nIf tb))), (aNa, .inl (g.2.1 0, 2475, .inl (nIf fcN))), (aNr, .inl (g.2.1 0, 495, .inl (nIf rowB))), (aNb, .inl (g.2.1 0, 4096, .inl (nIf popN))), (aNl, .inl (g.2.1 0, 495, .inl (nIf sd))), (aNal, .inl (g.2.1 0, 495, .inl (nIf (crH gr ki ma hd L sd)))), (aNlo, .inl (g.2.1 0, 12, .inl (nIf z5)))]) dX9_goes_150 1 (((104 + (8 * wk)) + 5) - 4) rfl (rfl) (by omega) (by decide) (by rw [mss_ce (x := (8 * wk) + 5 - 4) (by omega) (by omega)]; rfl) ?_
          refine x_aload_n dX9_goes_151 rfl ?_
          refine x_get dX9_goes_152 0 0 inX9 fl_X9_7 rfl rfl (by decide) rfl ?_
          refine x_iload dX9_goes_155 rfl ?_
          refine x_bipush 8 dX9_goes_157 (by decide) ?_
          refine x_iadd dX9_goes_159 ?_
          refine x_rei (nI ((104 + (8 * wk)) + 8)) (nI_addc (104 + (8 * wk)) 8 rfl) ?_
          refine x_iload dX9_goes_160 rfl ?_
          refine x_isub dX9_goes_162 ?_
          refine x_rei (nI (((104 + (8 * wk)) + 8) - 4)) (nI_isub ((104 + (8 * wk)) + 8) 4 (by omega)) ?_
          refine x_lload dX9_goes_163 rfl ?_
          refine x_l2i dX9_goes_165 ?_
          refine x_iast (ws' := [(aN, .inr (9, [.ref aNs, .ref aNk, .int nkp, .ref aNf, .ref aNr, .ref aNp, .ref aNb, .ref aNa, .ref aNt, .int (nI nts), .ref aNbo, .ref aNsz, .ref aNnu, .int (nI z1), .int (nI z2), .int z3, .int 0, .int (nI z4), .int 0, .int 0, .int (wnI nnw nwn), .ref aNl, .ref aNal, .ref aNlo, .int (nI (toH gr ki ma hd L sd)), .ref aNw, .ref aNtr, .ref aNis, .ref aNbg, .ref aNow])), (aNs, .inl (g.2.1 0, 919, .inl (msF gr wk z lk sz br ru ki ma bb (upd ((upd ((upd ce (8 * wk) (nI d))) ((8 * wk) + 5 - 4) (nI (winN (crH gr ki ma hd L sd) d 4)))) ((8 * wk) + 8 - 4) ((wkE ru (toH gr ki ma hd L sd) (crH gr ki ma hd L sd) d 4).toInt32)) hd))), (aNt, .inl (g.2.1 0, 60, .inl (nIf tb))), (aNa, .inl (g.2.1 0, 2475, .inl (nIf fcN))), (aNr, .inl (g.2.1 0, 495, .inl (nIf rowB))), (aNb, .inl (g.2.1 0, 4096, .inl (nIf popN))), (aNl, .inl (g.2.1 0, 495, .inl (nIf sd))), (aNal, .inl (g.2.1 0, 495, .inl (nIf (crH gr ki ma hd L sd)))), (aNlo, .inl (g.2.1 0, 12, .inl (nIf z5)))]) dX9_goes_166 1 (((104 + (8 * wk)) + 8) - 4) rfl (rfl) (by omega) (by decide) (by rw [mss_ce (x := (8 * wk) + 8 - 4) (by omega) (by omega)]; rfl) ?_
          refine x_iinc (lv' := [some (.ref aN), some (.int (nI d)), some (.long (potL ru (nI (ru 7)).toInt64 (nI (toH gr ki ma hd L sd)).toInt64)), none, some (.int (nI (104 + (8 * wk)))), some (.long ((potL ru (nI (ru 7)).toInt64 (nI (toH gr ki ma hd L sd)).toInt64) - ((wkE ru (toH gr ki ma hd L sd) (crH gr ki ma hd L sd) d 4) * ((nI (winN (crH gr ki ma hd L sd) d 4)).toInt64)))), none, some (.int 3), some (.int (nI (winN (crH gr ki ma hd L sd) d 4))), some (.long (wkE ru (toH gr ki ma hd L sd) (crH gr ki ma hd L sd) d 4)), none]) (3) dX9_goes_167 rfl (by decide) rfl ?_
          refine x_goto dX9_goes_170 ?_
          refine x_iload dX9_goes_44 rfl ?_
          refine x_iconst 1 dX9_goes_46 (by decide) ?_
          refine x_icmp_le dX9_goes_47 (fun c47 => ?_) (fun c47 => ?_)
          · exact absurd c47 (by decide)
          refine x_iconst 0 dX9_goes_50 (by decide) ?_
          refine x_istore (lv' := [some (.ref aN), some (.int (nI d)), some (.long (potL ru (nI (ru 7)).toInt64 (nI (toH gr ki ma hd L sd)).toInt64)), none, some (.int (nI (104 + (8 * wk)))), some (.long ((potL ru (nI (ru 7)).toInt64 (nI (toH gr ki ma hd L sd)).toInt64) - ((wkE ru (toH gr ki ma hd L sd) (crH gr ki ma hd L sd) d 4) * ((nI (winN (crH gr ki ma hd L sd) d 4)).toInt64)))), none, some (.int 3), some (.int 0), some (.long (wkE ru (toH gr ki ma hd L sd) (crH gr ki ma hd L sd) d 4)), none]) dX9_goes_51 (xlt rfl) rfl ?_
          refine x_iconst 0 dX9_goes_53 (by decide) ?_
          refine x_istore (lv' := [some (.ref aN), some (.int (nI d)), some (.long (potL ru (nI (ru 7)).toInt64 (nI (toH gr ki ma hd L sd)).toInt64)), none, some (.int (nI (104 + (8 * wk)))), some (.long ((potL ru (nI (ru 7)).toInt64 (nI (toH gr ki ma hd L sd)).toInt64) - ((wkE ru (toH gr ki ma hd L sd) (crH gr ki ma hd L sd) d 4) * ((nI (winN (crH gr ki ma hd L sd) d 4)).toInt64)))), none, some (.int 3), some (.int 0), some (.int 0), none]) dX9_goes_54 (xlt rfl) rfl ?_
          have L56_10 : ∀ (i : Nat), i ≤ 495 → ∀ (nn : Nat), nn = winT (crH gr ki ma hd L sd) d i 3 → Xs κ g 29 0 0 cX9_goes yX9_goes none Q 0 0 56 [some (.ref aN), some (.int (nI d)), some (.long (potL ru (nI (ru 7)).toInt64 (nI (toH gr ki ma hd L sd)).toInt64)), none, some (.int (nI (104 + (8 * wk)))), some (.long ((potL ru (nI (ru 7)).toInt64 (nI (toH gr ki ma hd L sd)).toInt64) - ((wkE ru (toH gr ki ma hd L sd) (crH gr ki ma hd L sd) d 4) * ((nI (winN (crH gr ki ma hd L sd) d 4)).toInt64)))), none, some (.int 3), some (.int (nI nn)), some (.int (nI i)), none] [] [(aN, .inr (9, [.ref aNs, .ref aNk, .int nkp, .ref aNf, .ref aNr, .ref aNp, .ref aNb, .ref aNa, .ref aNt, .int (nI nts), .ref aNbo, .ref aNsz, .ref aNnu, .int (nI z1), .int (nI z2), .int z3, .int 0, .int (nI z4), .int 0, .int 0, .int (wnI nnw nwn), .ref aNl, .ref aNal, .ref aNlo, .int (nI (toH gr ki ma hd L sd)), .ref aNw, .ref aNtr, .ref aNis, .ref aNbg, .ref aNow])), (aNs, .inl (g.2.1 0, 919, .inl (msF gr wk z lk sz br ru ki ma bb (upd ((upd ((upd ce (8 * wk) (nI d))) ((8 * wk) + 5 - 4) (nI (winN (crH gr ki ma hd L sd) d 4)))) ((8 * wk) + 8 - 4) ((wkE ru (toH gr ki ma hd L sd) (crH gr ki ma hd L sd) d 4).toInt32)) hd))), (aNt, .inl (g.2.1 0, 60, .inl (nIf tb))), (aNa, .inl (g.2.1 0, 2475, .inl (nIf fcN))), (aNr, .inl (g.2.1 0, 495, .inl (nIf rowB))), (aNb, .inl (g.2.1 0, 4096, .inl (nIf popN))), (aNl, .inl (g.2.1 0, 495, .inl (nIf sd))), (aNal, .inl (g.2.1 0, 495, .inl (nIf (crH gr ki ma hd L sd)))), (aNlo, .inl (g.2.1 0, 12, .inl (nIf z5)))] := by
            refine upTo 495 (fun i hi56 ih56 => ?_)
            intro nn enn
            subst enn
            have hpl := popN_le (rowB i &&& d)
            refine x_iload dX9_goes_56 rfl ?_
            refine x_sipush 495 dX9_goes_58 (by decide) ?_
            refine x_icmp_ge dX9_goes_61 (fun c61 => ?_) (fun c61 => ?_)
            · have c61 : 495 ≤ (nI i) := c61
              have c61n := (nI_leI (a := 495) (b := i) (by omega) (by omega)).mp c61
              have hxc61 : i = 495 := by omega
              try rw [hxc61]
              skip
              · skip
                refine x_eq (lv' := [some (.ref aN), some (.int (nI d)), some (.long (potL ru (nI (ru 7)).toInt64 (nI (toH gr ki ma hd L sd)).toInt64)), none, some (.int (nI (104 + (8 * wk)))), some (.long ((potL ru (nI (ru 7)).toInt64 (nI (toH gr ki ma hd L sd)).toInt64) - ((wkE ru (toH gr ki ma hd L sd) (crH gr ki ma hd L sd) d 4) * ((nI (winN (crH gr ki ma hd L sd) d 4)).toInt64)))), none, some (.int 3), some (.int (nI (winN (crH gr ki ma hd L sd) d 3))), some (.int 495), none]) (st' := []) (ws' := [(aN, .inr (9, [.ref aNs, .ref aNk, .int nkp, .ref aNf, .ref aNr, .ref aNp, .ref aNb, .ref aNa, .ref aNt, .int (nI nts), .ref aNbo, .ref aNsz, .ref aNnu, .int (nI z1), .int (nI z2), .int z3, .int 0, .int (nI z4), .int 0, .int 0, .int (wnI nnw nwn), .ref aNl, .ref aNal, .ref aNlo, .int (nI (toH gr ki ma hd L sd)), .ref aNw, .ref aNtr, .ref aNis, .ref aNbg, .ref aNow])), (aNs, .inl (g.2.1 0, 919, .inl (msF gr wk z lk sz br ru ki ma bb (upd ((upd ((upd ce (8 * wk) (nI d))) ((8 * wk) + 5 - 4) (nI (winN (crH gr ki ma hd L sd) d 4)))) ((8 * wk) + 8 - 4) ((wkE ru (toH gr ki ma hd L sd) (crH gr ki ma hd L sd) d 4).toInt32)) hd))), (aNt, .inl (g.2.1 0, 60, .inl (nIf tb))), (aNa, .inl (g.2.1 0, 2475, .inl (nIf fcN))), (aNr, .inl (g.2.1 0, 495, .inl (nIf rowB))), (aNb, .inl (g.2.1 0, 4096, .inl (nIf popN))), (aNl, .inl (g.2.1 0, 495, .inl (nIf sd))), (aNal, .inl (g.2.1 0, 495, .inl (nIf (crH gr ki ma hd L sd)))), (aNlo, .inl (g.2.1 0, 12, .inl (nIf z5)))]) ?_ rfl rfl rfl
                refine x_iload dX9_goes_104 rfl ?_
                have J106_12 : ∀ (v11 : Int64), v11 = (if (nI (winN (crH gr ki ma hd L sd) d 3)) = 0 then 0 else (partL ru 3 (potL ru (nI (ru 7)).toInt64 (nI (toH gr ki ma hd L sd)).toInt64)) / ((nI (winN (crH gr ki ma hd L sd) d 3)).toInt64)) → Xs κ g 29 0 0 cX9_goes yX9_goes none Q 0 0 124 [some (.ref aN), some (.int (nI d)), some (.long (potL ru (nI (ru 7)).toInt64 (nI (toH gr ki ma hd L sd)).toInt64)), none, some (.int (nI (104 + (8 * wk)))), some (.long ((potL ru (nI (ru 7)).toInt64 (nI (toH gr ki ma hd L sd)).toInt64) - ((wkE ru (toH gr ki ma hd L sd) (crH gr ki ma hd L sd) d 4) * ((nI (winN (crH gr ki ma hd L sd) d 4)).toInt64)))), none, some (.int 3), some (.int (nI (winN (crH gr ki ma hd L sd) d 3))), some (.int 495), none] [.long v11] [(aN, .inr (9, [.ref aNs, .ref aNk, .int nkp, .ref aNf, .ref aNr, .ref aNp, .ref aNb, .ref aNa, .ref aNt, .int (nI nts), .ref aNbo, .ref aNsz, .ref aNnu, .int (nI z1), .int (nI z2), .int z3, .int 0, .int (nI z4), .int 0, .int 0, .int (wnI nnw nwn), .ref aNl, .ref aNal, .ref aNlo, .int (nI (toH gr ki ma hd L sd)), .ref aNw, .ref aNtr, .ref aNis, .ref aNbg, .ref aNow])), (aNs, .inl (g.2.1 0, 919, .inl (msF gr wk z lk sz br ru ki ma bb (upd ((upd ((upd ce (8 * wk) (nI d))) ((8 * wk) + 5 - 4) (nI (winN (crH gr ki ma hd L sd) d 4)))) ((8 * wk) + 8 - 4) ((wkE ru (toH gr ki ma hd L sd) (crH gr ki ma hd L sd) d 4).toInt32)) hd))), (aNt, .inl (g.2.1 0, 60, .inl (nIf tb))), (aNa, .inl (g.2.1 0, 2475, .inl (nIf fcN))), (aNr, .inl (g.2.1 0, 495, .inl (nIf rowB))), (aNb, .inl (g.2.1 0, 4096, .inl (nIf popN))), (aNl, .inl (g.2.1 0, 495, .inl (nIf sd))), (aNal, .inl (g.2.1 0, 495, .inl (nIf (crH gr ki ma hd L sd)))), (aNlo, .inl (g.2.1 0, 12, .inl (nIf z5)))] := by
                  intro v11 ev11
                  refine x_rel (wkE ru (toH gr ki ma hd L sd) (crH gr ki ma hd L sd) d 3) (by (try simp only [ev11]); exact each_if (winN (crH gr ki ma hd L sd) d 3) (by have := hw3 3; omega) (partL ru 3 (wkPot ru (toH gr ki ma hd L sd)))) ?_
                  refine x_lstore (lv' := [some (.ref aN), some (.int (nI d)), some (.long (potL ru (nI (ru 7)).toInt64 (nI (toH gr ki ma hd L sd)).toInt64)), none, some (.int (nI (104 + (8 * wk)))), some (.long ((potL ru (nI (ru 7)).toInt64 (nI (toH gr ki ma hd L sd)).toInt64) - ((wkE ru (toH gr ki ma hd L sd) (crH gr ki ma hd L sd) d 4) * ((nI (winN (crH gr ki ma hd L sd) d 4)).toInt64)))), none, some (.int 3), some (.int (nI (winN (crH gr ki ma hd L sd) d 3))), some (.long (wkE ru (toH gr ki ma hd L sd) (crH gr ki ma hd L sd) d 3)), none]) dX9_goes_124 (xlt rfl) rfl ?_
                  refine x_lload dX9_goes_126 rfl ?_
                  refine x_lload dX9_goes_128 rfl ?_
                  refine x_iload dX9_goes_130 rfl ?_
                  refine x_i2l dX9_goes_132 ?_
                  refine x_lmul dX9_goes_133 ?_
                  refine x_lsub dX9_goes_134 ?_
                  refine x_lstore (lv' := [some (.ref aN), some (.int (nI d)), some (.long (potL ru (nI (ru 7)).toInt64 (nI (toH gr ki ma hd L sd)).toInt64)), none, some (.int (nI (104 + (8 * wk)))), some (.long (((potL ru (nI (ru 7)).toInt64 (nI (toH gr ki ma hd L sd)).toInt64) - ((wkE ru (toH gr ki ma hd L sd) (crH gr ki ma hd L sd) d 4) * ((nI (winN (crH gr ki ma hd L sd) d 4)).toInt64))) - ((wkE ru (toH gr ki ma hd L sd) (crH gr ki ma hd L sd) d 3) * ((nI (winN (crH gr ki ma hd L sd) d 3)).toInt64)))), none, some (.int 3), some (.int (nI (winN (crH gr ki ma hd L sd) d 3))), some (.long (wkE ru (toH gr ki ma hd L sd) (crH gr ki ma hd L sd) d 3)), none]) dX9_goes_135 (xlt rfl) rfl ?_
                  refine x_aload_n dX9_goes_137 rfl ?_
                  refine x_get dX9_goes_138 0 0 inX9 fl_X9_7 rfl rfl (by decide) rfl ?_
                  refine x_iload dX9_goes_141 rfl ?_
                  refine x_iconst 5 dX9_goes_143 (by decide) ?_
                  refine x_iadd dX9_goes_144 ?_
                  refine x_rei (nI ((104 + (8 * wk)) + 5)) (nI_addc (104 + (8 * wk)) 5 rfl) ?_
                  refine x_iload dX9_goes_145 rfl ?_
                  refine x_isub dX9_goes_147 ?_
                  refine x_rei (nI (((104 + (8 * wk)) + 5) - 3)) (nI_isub ((104 + (8 * wk)) + 5) 3 (by omega)) ?_
                  refine x_iload dX9_goes_148 rfl ?_
                  refine x_iast (ws' := [(aN, .inr (9, [.ref aNs, .ref aNk, .int nkp, .ref aNf, .ref aNr, .ref aNp, .ref aNb, .ref aNa, .ref aNt, .int (nI nts), .ref aNbo, .ref aNsz, .ref aNnu, .int (nI z1), .int (nI z2), .int z3, .int 0, .int (nI z4), .int 0, .int 0, .int (wnI nnw nwn), .ref aNl, .ref aNal, .ref aNlo, .int (nI (toH gr ki ma hd L sd)), .ref aNw, .ref aNtr, .ref aNis, .ref aNbg, .ref aNow])), (aNs, .inl (g.2.1 0, 919, .inl (msF gr wk z lk sz br ru ki ma bb (upd ((upd ((upd ((upd ce (8 * wk) (nI d))) ((8 * wk) + 5 - 4) (nI (winN (crH gr ki ma hd L sd) d 4)))) ((8 * wk) + 8 - 4) ((wkE ru (toH gr ki ma hd L sd) (crH gr ki ma hd L sd) d 4).toInt32))) ((8 * wk) + 5 - 3) (nI (winN (crH gr ki ma hd L sd) d 3))) hd))), (aNt, .inl (g.2.1 0, 60, .inl (nIf tb))), (aNa, .inl (g.2.1 0, 2475, .inl (nIf fcN))), (aNr, .inl (g.2.1 0, 495, .inl (nIf rowB))), (aNb, .inl (g.2.1 0, 4096, .inl (nIf popN))), (aNl, .inl (g.2.1 0, 495, .inl (nIf sd))), (aNal, .inl (g.2.1 0, 495, .inl (nIf (crH gr ki ma hd L sd)))), (aNlo, .inl (g.2.1 0, 12, .inl (nIf z5)))]) dX9_goes_150 1 (((104 + (8 * wk)) + 5) - 3) rfl (rfl) (by omega) (by decide) (by rw [mss_ce (x := (8 * wk) + 5 - 3) (by omega) (by omega)]; rfl) ?_
                  refine x_aload_n dX9_goes_151 rfl ?_
                  refine x_get dX9_goes_152 0 0 inX9 fl_X9_7 rfl rfl (by decide) rfl ?_
                  refine x_iload dX9_goes_155 rfl ?_
                  refine x_bipush 8 dX9_goes_157 (by decide) ?_
                  refine x_iadd dX9_goes_159 ?_
                  refine x_rei (nI ((104 + (8 * wk)) + 8)) (nI_addc (104 + (8 * wk)) 8 rfl) ?_
                  refine x_iload dX9_goes_160 rfl ?_
                  refine x_isub dX9_goes_162 ?_
                  refine x_rei (nI (((104 + (8 * wk)) + 8) - 3)) (nI_isub ((104 + (8 * wk)) + 8) 3 (by omega)) ?_
                  refine x_lload dX9_goes_163 rfl ?_
                  refine x_l2i dX9_goes_165 ?_
                  refine x_iast (ws' := [(aN, .inr (9, [.ref aNs, .ref aNk, .int nkp, .ref aNf, .ref aNr, .ref aNp, .ref aNb, .ref aNa, .ref aNt, .int (nI nts), .ref aNbo, .ref aNsz, .ref aNnu, .int (nI z1), .int (nI z2), .int z3, .int 0, .int (nI z4), .int 0, .int 0, .int (wnI nnw nwn), .ref aNl, .ref aNal, .ref aNlo, .int (nI (toH gr ki ma hd L sd)), .ref aNw, .ref aNtr, .ref aNis, .ref aNbg, .ref aNow])), (aNs, .inl (g.2.1 0, 919, .inl (msF gr wk z lk sz br ru ki ma bb (upd ((upd ((upd ((upd ((upd ce (8 * wk) (nI d))) ((8 * wk) + 5 - 4) (nI (winN (crH gr ki ma hd L sd) d 4)))) ((8 * wk) + 8 - 4) ((wkE ru (toH gr ki ma hd L sd) (crH gr ki ma hd L sd) d 4).toInt32))) ((8 * wk) + 5 - 3) (nI (winN (crH gr ki ma hd L sd) d 3)))) ((8 * wk) + 8 - 3) ((wkE ru (toH gr ki ma hd L sd) (crH gr ki ma hd L sd) d 3).toInt32)) hd))), (aNt, .inl (g.2.1 0, 60, .inl (nIf tb))), (aNa, .inl (g.2.1 0, 2475, .inl (nIf fcN))), (aNr, .inl (g.2.1 0, 495, .inl (nIf rowB))), (aNb, .inl (g.2.1 0, 4096, .inl (nIf popN))), (aNl, .inl (g.2.1 0, 495, .inl (nIf sd))), (aNal, .inl (g.2.1 0, 495, .inl (nIf (crH gr ki ma hd L sd)))), (aNlo, .inl (g.2.1 0, 12, .inl (nIf z5)))]) dX9_goes_166 1 (((104 + (8 * wk)) + 8) - 3) rfl (rfl) (by omega) (by decide) (by rw [mss_ce (x := (8 * wk) + 8 - 3) (by omega) (by omega)]; rfl) ?_
                  refine x_iinc (lv' := [some (.ref aN), some (.int (nI d)), some (.long (potL ru (nI (ru 7)).toInt64 (nI (toH gr ki ma hd L sd)).toInt64)), none, some (.int (nI (104 + (8 * wk)))), some (.long (((potL ru (nI (ru 7)).toInt64 (nI (toH gr ki ma hd L sd)).toInt64) - ((wkE ru (toH gr ki ma hd L sd) (crH gr ki ma hd L sd) d 4) * ((nI (winN (crH gr ki ma hd L sd) d 4)).toInt64))) - ((wkE ru (toH gr ki ma hd L sd) (crH gr ki ma hd L sd) d 3) * ((nI (winN (crH gr ki ma hd L sd) d 3)).toInt64)))), none, some (.int 2), some (.int (nI (winN (crH gr ki ma hd L sd) d 3))), some (.long (wkE ru (toH gr ki ma hd L sd) (crH gr ki ma hd L sd) d 3)), none]) (2) dX9_goes_167 rfl (by decide) rfl ?_
                  refine x_goto dX9_goes_170 ?_
                  refine x_iload dX9_goes_44 rfl ?_
                  refine x_iconst 1 dX9_goes_46 (by decide) ?_
                  refine x_icmp_le dX9_goes_47 (fun c47 => ?_) (fun c47 => ?_)
                  · exact absurd c47 (by decide)
                  refine x_iconst 0 dX9_goes_50 (by decide) ?_
                  refine x_istore (lv' := [some (.ref aN), some (.int (nI d)), some (.long (potL ru (nI (ru 7)).toInt64 (nI (toH gr ki ma hd L sd)).toInt64)), none, some (.int (nI (104 + (8 * wk)))), some (.long (((potL ru (nI (ru 7)).toInt64 (nI (toH gr ki ma hd L sd)).toInt64) - ((wkE ru (toH gr ki ma hd L sd) (crH gr ki ma hd L sd) d 4) * ((nI (winN (crH gr ki ma hd L sd) d 4)).toInt64))) - ((wkE ru (toH gr ki ma hd L sd) (crH gr ki ma hd L sd) d 3) * ((nI (winN (crH gr ki ma hd L sd) d 3)).toInt64)))), none, some (.int 2), some (.int 0), some (.long (wkE ru (toH gr ki ma hd L sd) (crH gr ki ma hd L sd) d 3)), none]) dX9_goes_51 (xlt rfl) rfl ?_
                  refine x_iconst 0 dX9_goes_53 (by decide) ?_
                  refine x_istore (lv' := [some (.ref aN), some (.int (nI d)), some (.long (potL ru (nI (ru 7)).toInt64 (nI (toH gr ki ma hd L sd)).toInt64)), none, some (.int (nI (104 + (8 * wk)))), some (.long (((potL ru (nI (ru 7)).toInt64 (nI (toH gr ki ma hd L sd)).toInt64) - ((wkE ru (toH gr ki ma hd L sd) (crH gr ki ma hd L sd) d 4) * ((nI (winN (crH gr ki ma hd L sd) d 4)).toInt64))) - ((wkE ru (toH gr ki ma hd L sd) (crH gr ki ma hd L sd) d 3) * ((nI (winN (crH gr ki ma hd L sd) d 3)).toInt64)))), none, some (.int 2), some (.int 0), some (.int 0), none]) dX9_goes_54 (xlt rfl) rfl ?_
                  have L56_13 : ∀ (i : Nat), i ≤ 495 → ∀ (nn : Nat), nn = winT (crH gr ki ma hd L sd) d i 2 → Xs κ g 29 0 0 cX9_goes yX9_goes none Q 0 0 56 [some (.ref aN), some (.int (nI d)), some (.long (potL ru (nI (ru 7)).toInt64 (nI (toH gr ki ma hd L sd)).toInt64)), none, some (.int (nI (104 + (8 * wk)))), some (.long (((potL ru (nI (ru 7)).toInt64 (nI (toH gr ki ma hd L sd)).toInt64) - ((wkE ru (toH gr ki ma hd L sd) (crH gr ki ma hd L sd) d 4) * ((nI (winN (crH gr ki ma hd L sd) d 4)).toInt64))) - ((wkE ru (toH gr ki ma hd L sd) (crH gr ki ma hd L sd) d 3) * ((nI (winN (crH gr ki ma hd L sd) d 3)).toInt64)))), none, some (.int 2), some (.int (nI nn)), some (.int (nI i)), none] [] [(aN, .inr (9, [.ref aNs, .ref aNk, .int nkp, .ref aNf, .ref aNr, .ref aNp, .ref aNb, .ref aNa, .ref aNt, .int (nI nts), .ref aNbo, .ref aNsz, .ref aNnu, .int (nI z1), .int (nI z2), .int z3, .int 0, .int (nI z4), .int 0, .int 0, .int (wnI nnw nwn), .ref aNl, .ref aNal, .ref aNlo, .int (nI (toH gr ki ma hd L sd)), .ref aNw, .ref aNtr, .ref aNis, .ref aNbg, .ref aNow])), (aNs, .inl (g.2.1 0, 919, .inl (msF gr wk z lk sz br ru ki ma bb (upd ((upd ((upd ((upd ((upd ce (8 * wk) (nI d))) ((8 * wk) + 5 - 4) (nI (winN (crH gr ki ma hd L sd) d 4)))) ((8 * wk) + 8 - 4) ((wkE ru (toH gr ki ma hd L sd) (crH gr ki ma hd L sd) d 4).toInt32))) ((8 * wk) + 5 - 3) (nI (winN (crH gr ki ma hd L sd) d 3)))) ((8 * wk) + 8 - 3) ((wkE ru (toH gr ki ma hd L sd) (crH gr ki ma hd L sd) d 3).toInt32)) hd))), (aNt, .inl (g.2.1 0, 60, .inl (nIf tb))), (aNa, .inl (g.2.1 0, 2475, .inl (nIf fcN))), (aNr, .inl (g.2.1 0, 495, .inl (nIf rowB))), (aNb, .inl (g.2.1 0, 4096, .inl (nIf popN))), (aNl, .inl (g.2.1 0, 495, .inl (nIf sd))), (aNal, .inl (g.2.1 0, 495, .inl (nIf (crH gr ki ma hd L sd)))), (aNlo, .inl (g.2.1 0, 12, .inl (nIf z5)))] := by
                    refine upTo 495 (fun i hi56 ih56 => ?_)
                    intro nn enn
                    subst enn
                    have hpl := popN_le (rowB i &&& d)
                    refine x_iload dX9_goes_56 rfl ?_
                    refine x_sipush 495 dX9_goes_58 (by decide) ?_
                    refine x_icmp_ge dX9_goes_61 (fun c61 => ?_) (fun c61 => ?_)
                    · have c61 : 495 ≤ (nI i) := c61
                      have c61n := (nI_leI (a := 495) (b := i) (by omega) (by omega)).mp c61
                      have hxc61 : i = 495 := by omega
                      try rw [hxc61]
                      skip
                      · skip
                        refine x_eq (lv' := [some (.ref aN), some (.int (nI d)), some (.long (potL ru (nI (ru 7)).toInt64 (nI (toH gr ki ma hd L sd)).toInt64)), none, some (.int (nI (104 + (8 * wk)))), some (.long (((potL ru (nI (ru 7)).toInt64 (nI (toH gr ki ma hd L sd)).toInt64) - ((wkE ru (toH gr ki ma hd L sd) (crH gr ki ma hd L sd) d 4) * ((nI (winN (crH gr ki ma hd L sd) d 4)).toInt64))) - ((wkE ru (toH gr ki ma hd L sd) (crH gr ki ma hd L sd) d 3) * ((nI (winN (crH gr ki ma hd L sd) d 3)).toInt64)))), none, some (.int 2), some (.int (nI (winN (crH gr ki ma hd L sd) d 2))), some (.int 495), none]) (st' := []) (ws' := [(aN, .inr (9, [.ref aNs, .ref aNk, .int nkp, .ref aNf, .ref aNr, .ref aNp, .ref aNb, .ref aNa, .ref aNt, .int (nI nts), .ref aNbo, .ref aNsz, .ref aNnu, .int (nI z1), .int (nI z2), .int z3, .int 0, .int (nI z4), .int 0, .int 0, .int (wnI nnw nwn), .ref aNl, .ref aNal, .ref aNlo, .int (nI (toH gr ki ma hd L sd)), .ref aNw, .ref aNtr, .ref aNis, .ref aNbg, .ref aNow])), (aNs, .inl (g.2.1 0, 919, .inl (msF gr wk z lk sz br ru ki ma bb (upd ((upd ((upd ((upd ((upd ce (8 * wk) (nI d))) ((8 * wk) + 5 - 4) (nI (winN (crH gr ki ma hd L sd) d 4)))) ((8 * wk) + 8 - 4) ((wkE ru (toH gr ki ma hd L sd) (crH gr ki ma hd L sd) d 4).toInt32))) ((8 * wk) + 5 - 3) (nI (winN (crH gr ki ma hd L sd) d 3)))) ((8 * wk) + 8 - 3) ((wkE ru (toH gr ki ma hd L sd) (crH gr ki ma hd L sd) d 3).toInt32)) hd))), (aNt, .inl (g.2.1 0, 60, .inl (nIf tb))), (aNa, .inl (g.2.1 0, 2475, .inl (nIf fcN))), (aNr, .inl (g.2.1 0, 495, .inl (nIf rowB))), (aNb, .inl (g.2.1 0, 4096, .inl (nIf popN))), (aNl, .inl (g.2.1 0, 495, .inl (nIf sd))), (aNal, .inl (g.2.1 0, 495, .inl (nIf (crH gr ki ma hd L sd)))), (aNlo, .inl (g.2.1 0, 12, .inl (nIf z5)))]) ?_ rfl rfl rfl
                        refine x_iload dX9_goes_104 rfl ?_
                        have J106_15 : ∀ (v14 : Int64), v14 = (if (nI (winN (crH gr ki ma hd L sd) d 2)) = 0 then 0 else (partL ru 2 (potL ru (nI (ru 7)).toInt64 (nI (toH gr ki ma hd L sd)).toInt64)) / ((nI (winN (crH gr ki ma hd L sd) d 2)).toInt64)) → Xs κ g 29 0 0 cX9_goes yX9_goes none Q 0 0 124 [some (.ref aN), some (.int (nI d)), some (.long (potL ru (nI (ru 7)).toInt64 (nI (toH gr ki ma hd L sd)).toInt64)), none, some (.int (nI (104 + (8 * wk)))), some (.long (((potL ru (nI (ru 7)).toInt64 (nI (toH gr ki ma hd L sd)).toInt64) - ((wkE ru (toH gr ki ma hd L sd) (crH gr ki ma hd L sd) d 4) * ((nI (winN (crH gr ki ma hd L sd) d 4)).toInt64))) - ((wkE ru (toH gr ki ma hd L sd) (crH gr ki ma hd L sd) d 3) * ((nI (winN (crH gr ki ma hd L sd) d 3)).toInt64)))), none, some (.int 2), some (.int (nI (winN (crH gr ki ma hd L sd) d 2))), some (.int 495), none] [.long v14] [(aN, .inr (9, [.ref aNs, .ref aNk, .int nkp, .ref aNf, .ref aNr, .ref aNp, .ref aNb, .ref aNa, .ref aNt, .int (nI nts), .ref aNbo, .ref aNsz, .ref aNnu, .int (nI z1), .int (nI z2), .int z3, .int 0, .int (nI z4), .int 0, .int 0, .int (wnI nnw nwn), .ref aNl, .ref aNal, .ref aNlo, .int (nI (toH gr ki ma hd L sd)), .ref aNw, .ref aNtr, .ref aNis, .ref aNbg, .ref aNow])), (aNs, .inl (g.2.1 0, 919, .inl (msF gr wk z lk sz br ru ki ma bb (upd ((upd ((upd ((upd ((upd ce (8 * wk) (nI d))) ((8 * wk) + 5 - 4) (nI (winN (crH gr ki ma hd L sd) d 4)))) ((8 * wk) + 8 - 4) ((wkE ru (toH gr ki ma hd L sd) (crH gr ki ma hd L sd) d 4).toInt32))) ((8 * wk) + 5 - 3) (nI (winN (crH gr ki ma hd L sd) d 3)))) ((8 * wk) + 8 - 3) ((wkE ru (toH gr ki ma hd L sd) (crH gr ki ma hd L sd) d 3).toInt32)) hd))), (aNt, .inl (g.2.1 0, 60, .inl (nIf tb))), (aNa, .inl (g.2.1 0, 2475, .inl (nIf fcN))), (aNr, .inl (g.2.1 0, 495, .inl (nIf rowB))), (aNb, .inl (g.2.1 0, 4096, .inl (nIf popN))), (aNl, .inl (g.2.1 0, 495, .inl (nIf sd))), (aNal, .inl (g.2.1 0, 495, .inl (nIf (crH gr ki ma hd L sd)))), (aNlo, .inl (g.2.1 0, 12, .inl (nIf z5)))] := by
                          intro v14 ev14
                          refine x_rel (wkE ru (toH gr ki ma hd L sd) (crH gr ki ma hd L sd) d 2) (by (try simp only [ev14]); exact each_if (winN (crH gr ki ma hd L sd) d 2) (by have := hw3 2; omega) (partL ru 2 (wkPot ru (toH gr ki ma hd L sd)))) ?_
                          refine x_lstore (lv' := [some (.ref aN), some (.int (nI d)), some (.long (potL ru (nI (ru 7)).toInt64 (nI (toH gr ki ma hd L sd)).toInt64)), none, some (.int (nI (104 + (8 * wk)))), some (.long (((potL ru (nI (ru 7)).toInt64 (nI (toH gr ki ma hd L sd)).toInt64) - ((wkE ru (toH gr ki ma hd L sd) (crH gr ki ma hd L sd) d 4) * ((nI (winN (crH gr ki ma hd L sd) d 4)).toInt64))) - ((wkE ru (toH gr ki ma hd L sd) (crH gr ki ma hd L sd) d 3) * ((nI (winN (crH gr ki ma hd L sd) d 3)).toInt64)))), none, some (.int 2), some (.int (nI (winN (crH gr ki ma hd L sd) d 2))), some (.long (wkE ru (toH gr ki ma hd L sd) (crH gr ki ma hd L sd) d 2)), none]) dX9_goes_124 (xlt rfl) rfl ?_
                          refine x_lload dX9_goes_126 rfl ?_
                          refine x_lload dX9_goes_128 rfl ?_
                          refine x_iload dX9_goes_130 rfl ?_
                          refine x_i2l dX9_goes_132 ?_
                          refine x_lmul dX9_goes_133 ?_
                          refine x_lsub dX9_goes_134 ?_
                          refine x_lstore (lv' := [some (.ref aN), some (.int (nI d)), some (.long (potL ru (nI (ru 7)).toInt64 (nI (toH gr ki ma hd L sd)).toInt64)), none, some (.int (nI (104 + (8 * wk)))), some (.long ((((potL ru (nI (ru 7)).toInt64 (nI (toH gr ki ma hd L sd)).toInt64) - ((wkE ru (toH gr ki ma hd L sd) (crH gr ki ma hd L sd) d 4) * ((nI (winN (crH gr ki ma hd L sd) d 4)).toInt64))) - ((wkE ru (toH gr ki ma hd L sd) (crH gr ki ma hd L sd) d 3) * ((nI (winN (crH gr ki ma hd L sd) d 3)).toInt64))) - ((wkE ru (toH gr ki ma hd L sd) (crH gr ki ma hd L sd) d 2) * ((nI (winN (crH gr ki ma hd L sd) d 2)).toInt64)))), none, some (.int 2), some (.int (nI (winN (crH gr ki ma hd L sd) d 2))), some (.long (wkE ru (toH gr ki ma hd L sd) (crH gr ki ma hd L sd) d 2)), none]) dX9_goes_135 (xlt rfl) rfl ?_
                          refine x_aload_n dX9_goes_137 rfl ?_
                          refine x_get dX9_goes_138 0 0 inX9 fl_X9_7 rfl rfl (by decide) rfl ?_
                          refine x_iload dX9_goes_141 rfl ?_
                          refine x_iconst 5 dX9_goes_143 (by decide) ?_
                          refine x_iadd dX9_goes_144 ?_
                          refine x_rei (nI ((104 + (8 * wk)) + 5)) (nI_addc (104 + (8 * wk)) 5 rfl) ?_
                          refine x_iload dX9_goes_145 rfl ?_
                          refine x_isub dX9_goes_147 ?_
                          refine x_rei (nI (((104 + (8 * wk)) + 5) - 2)) (nI_isub ((104 + (8 * wk)) + 5) 2 (by omega)) ?_
                          refine x_iload dX9_goes_148 rfl ?_
                          refine x_iast (ws' := [(aN, .inr (9, [.ref aNs, .ref aNk, .int nkp, .ref aNf, .ref aNr, .ref aNp, .ref aNb, .ref aNa, .ref aNt, .int (nI nts), .ref aNbo, .ref aNsz, .ref aNnu, .int (nI z1), .int (nI z2), .int z3, .int 0, .int (nI z4), .int 0, .int 0, .int (wnI nnw nwn), .ref aNl, .ref aNal, .ref aNlo, .int (nI (toH gr ki ma hd L sd)), .ref aNw, .ref aNtr, .ref aNis, .ref aNbg, .ref aNow])), (aNs, .inl (g.2.1 0, 919, .inl (msF gr wk z lk sz br ru ki ma bb (upd ((upd ((upd ((upd ((upd ((upd ce (8 * wk) (nI d))) ((8 * wk) + 5 - 4) (nI (winN (crH gr ki ma hd L sd) d 4)))) ((8 * wk) + 8 - 4) ((wkE ru (toH gr ki ma hd L sd) (crH gr ki ma hd L sd) d 4).toInt32))) ((8 * wk) + 5 - 3) (nI (winN (crH gr ki ma hd L sd) d 3)))) ((8 * wk) + 8 - 3) ((wkE ru (toH gr ki ma hd L sd) (crH gr ki ma hd L sd) d 3).toInt32))) ((8 * wk) + 5 - 2) (nI (winN (crH gr ki ma hd L sd) d 2))) hd))), (aNt, .inl (g.2.1 0, 60, .inl (nIf tb))), (aNa, .inl (g.2.1 0, 2475, .inl (nIf fcN))), (aNr, .inl (g.2.1 0, 495, .inl (nIf rowB))), (aNb, .inl (g.2.1 0, 4096, .inl (nIf popN))), (aNl, .inl (g.2.1 0, 495, .inl (nIf sd))), (aNal, .inl (g.2.1 0, 495, .inl (nIf (crH gr ki ma hd L sd)))), (aNlo, .inl (g.2.1 0, 12, .inl (nIf z5)))]) dX9_goes_150 1 (((104 + (8 * wk)) + 5) - 2) rfl (rfl) (by omega) (by decide) (by rw [mss_ce (x := (8 * wk) + 5 - 2) (by omega) (by omega)]; rfl) ?_
                          refine x_aload_n dX9_goes_151 rfl ?_
                          refine x_get dX9_goes_152 0 0 inX9 fl_X9_7 rfl rfl (by decide) rfl ?_
                          refine x_iload dX9_goes_155 rfl ?_
                          refine x_bipush 8 dX9_goes_157 (by decide) ?_
                          refine x_iadd dX9_goes_159 ?_
                          refine x_rei (nI ((104 + (8 * wk)) + 8)) (nI_addc (104 + (8 * wk)) 8 rfl) ?_
                          refine x_iload dX9_goes_160 rfl ?_
                          refine x_isub dX9_goes_162 ?_
                          refine x_rei (nI (((104 + (8 * wk)) + 8) - 2)) (nI_isub ((104 + (8 * wk)) + 8) 2 (by omega)) ?_
                          refine x_lload dX9_goes_163 rfl ?_
                          refine x_l2i dX9_goes_165 ?_
                          refine x_iast (ws' := [(aN, .inr (9, [.ref aNs, .ref aNk, .int nkp, .ref aNf, .ref aNr, .ref aNp, .ref aNb, .ref aNa, .ref aNt, .int (nI nts), .ref aNbo, .ref aNsz, .ref aNnu, .int (nI z1), .int (nI z2), .int z3, .int 0, .int (nI z4), .int 0, .int 0, .int (wnI nnw nwn), .ref aNl, .ref aNal, .ref aNlo, .int (nI (toH gr ki ma hd L sd)), .ref aNw, .ref aNtr, .ref aNis, .ref aNbg, .ref aNow])), (aNs, .inl (g.2.1 0, 919, .inl (msF gr wk z lk sz br ru ki ma bb (upd ((upd ((upd ((upd ((upd ((upd ((upd ce (8 * wk) (nI d))) ((8 * wk) + 5 - 4) (nI (winN (crH gr ki ma hd L sd) d 4)))) ((8 * wk) + 8 - 4) ((wkE ru (toH gr ki ma hd L sd) (crH gr ki ma hd L sd) d 4).toInt32))) ((8 * wk) + 5 - 3) (nI (winN (crH gr ki ma hd L sd) d 3)))) ((8 * wk) + 8 - 3) ((wkE ru (toH gr ki ma hd L sd) (crH gr ki ma hd L sd) d 3).toInt32))) ((8 * wk) + 5 - 2) (nI (winN (crH gr ki ma hd L sd) d 2)))) ((8 * wk) + 8 - 2) ((wkE ru (toH gr ki ma hd L sd) (crH gr ki ma hd L sd) d 2).toInt32)) hd))), (aNt, .inl (g.2.1 0, 60, .inl (nIf tb))), (aNa, .inl (g.2.1 0, 2475, .inl (nIf fcN))), (aNr, .inl (g.2.1 0, 495, .inl (nIf rowB))), (aNb, .inl (g.2.1 0, 4096, .inl (nIf popN))), (aNl, .inl (g.2.1 0, 495, .inl (nIf sd))), (aNal, .inl (g.2.1 0, 495, .inl (nIf (crH gr ki ma hd L sd)))), (aNlo, .inl (g.2.1 0, 12, .inl (nIf z5)))]) dX9_goes_166 1 (((104 + (8 * wk)) + 8) - 2) rfl (rfl) (by omega) (by decide) (by rw [mss_ce (x := (8 * wk) + 8 - 2) (by omega) (by omega)]; rfl) ?_
                          refine x_iinc (lv' := [some (.ref aN), some (.int (nI d)), some (.long (potL ru (nI (ru 7)).toInt64 (nI (toH gr ki ma hd L sd)).toInt64)), none, some (.int (nI (104 + (8 * wk)))), some (.long ((((potL ru (nI (ru 7)).toInt64 (nI (toH gr ki ma hd L sd)).toInt64) - ((wkE ru (toH gr ki ma hd L sd) (crH gr ki ma hd L sd) d 4) * ((nI (winN (crH gr ki ma hd L sd) d 4)).toInt64))) - ((wkE ru (toH gr ki ma hd L sd) (crH gr ki ma hd L sd) d 3) * ((nI (winN (crH gr ki ma hd L sd) d 3)).toInt64))) - ((wkE ru (toH gr ki ma hd L sd) (crH gr ki ma hd L sd) d 2) * ((nI (winN (crH gr ki ma hd L sd) d 2)).toInt64)))), none, some (.int 1), some (.int (nI (winN (crH gr ki ma hd L sd) d 2))), some (.long (wkE ru (toH gr ki ma hd L sd) (crH gr ki ma hd L sd) d 2)), none]) (1) dX9_goes_167 rfl (by decide) rfl ?_
                          refine x_goto dX9_goes_170 ?_
                          refine x_iload dX9_goes_44 rfl ?_
                          refine x_iconst 1 dX9_goes_46 (by decide) ?_
                          refine x_icmp_le dX9_goes_47 (fun c47 => ?_) (fun c47 => ?_)
                          rotate_left
                          · exact absurd c47 (by decide)
                          refine x_aload_n dX9_goes_173 rfl ?_
                          refine x_get dX9_goes_174 0 0 inX9 fl_X9_7 rfl rfl (by decide) rfl ?_
                          refine x_bipush 17 dX9_goes_177 (by decide) ?_
                          refine x_lload dX9_goes_179 rfl ?_
                          refine x_lconst 0 dX9_goes_181 (by decide) ?_
                          refine x_lcmp dX9_goes_182 ?_
                          have J183_19 : ∀ (v18 : Int64), v18 = (if 0 ≤ (lg_cmp ((((potL ru (nI (ru 7)).toInt64 (nI (toH gr ki ma hd L sd)).toInt64) - ((wkE ru (toH gr ki ma hd L sd) (crH gr ki ma hd L sd) d 4) * ((nI (winN (crH gr ki ma hd L sd) d 4)).toInt64))) - ((wkE ru (toH gr ki ma hd L sd) (crH gr ki ma hd L sd) d 3) * ((nI (winN (crH gr ki ma hd L sd) d 3)).toInt64))) - ((wkE ru (toH gr ki ma hd L sd) (crH gr ki ma hd L sd) d 2) * ((nI (winN (crH gr ki ma hd L sd) d 2)).toInt64))) 0) then ((if (lg_cmp ((((potL ru (nI (ru 7)).toInt64 (nI (toH gr ki ma hd L sd)).toInt64) - ((wkE ru (toH gr ki ma hd L sd) (crH gr ki ma hd L sd) d 4) * ((nI (winN (crH gr ki ma hd L sd) d 4)).toInt64))) - ((wkE ru (toH gr ki ma hd L sd) (crH gr ki ma hd L sd) d 3) * ((nI (winN (crH gr ki ma hd L sd) d 3)).toInt64))) - ((wkE ru (toH gr ki ma hd L sd) (crH gr ki ma hd L sd) d 2) * ((nI (winN (crH gr ki ma hd L sd) d 2)).toInt64))) 99999999) ≤ 0 then (((potL ru (nI (ru 7)).toInt64 (nI (toH gr ki ma hd L sd)).toInt64) - ((wkE ru (toH gr ki ma hd L sd) (crH gr ki ma hd L sd) d 4) * ((nI (winN (crH gr ki ma hd L sd) d 4)).toInt64))) - ((wkE ru (toH gr ki ma hd L sd) (crH gr ki ma hd L sd) d 3) * ((nI (winN (crH gr ki ma hd L sd) d 3)).toInt64))) - ((wkE ru (toH gr ki ma hd L sd) (crH gr ki ma hd L sd) d 2) * ((nI (winN (crH gr ki ma hd L sd) d 2)).toInt64)) else 99999999)) else 0) → Xs κ g 29 0 0 cX9_goes yX9_goes none Q 0 0 207 [some (.ref aN), some (.int (nI d)), some (.long (potL ru (nI (ru 7)).toInt64 (nI (toH gr ki ma hd L sd)).toInt64)), none, some (.int (nI (104 + (8 * wk)))), some (.long ((((potL ru (nI (ru 7)).toInt64 (nI (toH gr ki ma hd L sd)).toInt64) - ((wkE ru (toH gr ki ma hd L sd) (crH gr ki ma hd L sd) d 4) * ((nI (winN (crH gr ki ma hd L sd) d 4)).toInt64))) - ((wkE ru (toH gr ki ma hd L sd) (crH gr ki ma hd L sd) d 3) * ((nI (winN (crH gr ki ma hd L sd) d 3)).toInt64))) - ((wkE ru (toH gr ki ma hd L sd) (crH gr ki ma hd L sd) d 2) * ((nI (winN (crH gr ki ma hd L sd) d 2)).toInt64)))), none, some (.int 1), some (.int (nI (winN (crH gr ki ma hd L sd) d 2))), some (.long (wkE ru (toH gr ki ma hd L sd) (crH gr ki ma hd L sd) d 2)), none] [.long v18, .int 17, .ref aNs] [(aN, .inr (9, [.ref aNs, .ref aNk, .int nkp, .ref aNf, .ref aNr, .ref aNp, .ref aNb, .ref aNa, .ref aNt, .int (nI nts), .ref aNbo, .ref aNsz, .ref aNnu, .int (nI z1), .int (nI z2), .int z3, .int 0, .int (nI z4), .int 0, .int 0, .int (wnI nnw nwn), .ref aNl, .ref aNal, .ref aNlo, .int (nI (toH gr ki ma hd L sd)), .ref aNw, .ref aNtr, .ref aNis, .ref aNbg, .ref aNow])), (aNs, .inl (g.2.1 0, 919, .inl (msF gr wk z lk sz br ru ki ma bb (upd ((upd ((upd ((upd ((upd ((upd ((upd ce (8 * wk) (nI d))) ((8 * wk) + 5 - 4) (nI (winN (crH gr ki ma hd L sd) d 4)))) ((8 * wk) + 8 - 4) ((wkE ru (toH gr ki ma hd L sd) (crH gr ki ma hd L sd) d 4).toInt32))) ((8 * wk) + 5 - 3) (nI (winN (crH gr ki ma hd L sd) d 3)))) ((8 * wk) + 8 - 3) ((wkE ru (toH gr ki ma hd L sd) (crH gr ki ma hd L sd) d 3).toInt32))) ((8 * wk) + 5 - 2) (nI (winN (crH gr ki ma hd L sd) d 2)))) ((8 * wk) + 8 - 2) ((wkE ru (toH gr ki ma hd L sd) (crH gr ki ma hd L sd) d 2).toInt32)) hd))), (aNt, .inl (g.2.1 0, 60, .inl (nIf tb))), (aNa, .inl (g.2.1 0, 2475, .inl (nIf fcN))), (aNr, .inl (g.2.1 0, 495, .inl (nIf rowB))), (aNb, .inl (g.2.1 0, 4096, .inl (nIf popN))), (aNl, .inl (g.2.1 0, 495, .inl (nIf sd))), (aNal, .inl (g.2.1 0, 495, .inl (nIf (crH gr ki ma hd L sd)))), (aNlo, .inl (g.2.1 0, 12, .inl (nIf z5)))] := by
                            intro v18 ev18
                            refine x_l2i dX9_goes_207 ?_
                            refine x_rei (nI (potE (wkLeft ru (toH gr ki ma hd L sd) (crH gr ki ma hd L sd) d))) (by (try simp only [ev18]); exact clR_pot (wkLeft ru (toH gr ki ma hd L sd) (crH gr ki ma hd L sd) d)) ?_
                            refine x_iast (ws' := [(aN, .inr (9, [.ref aNs, .ref aNk, .int nkp, .ref aNf, .ref aNr, .ref aNp, .ref aNb, .ref aNa, .ref aNt, .int (nI nts), .ref aNbo, .ref aNsz, .ref aNnu, .int (nI z1), .int (nI z2), .int z3, .int 0, .int (nI z4), .int 0, .int 0, .int (wnI nnw nwn), .ref aNl, .ref aNal, .ref aNlo, .int (nI (toH gr ki ma hd L sd)), .ref aNw, .ref aNtr, .ref aNis, .ref aNbg, .ref aNow])), (aNs, .inl (g.2.1 0, 919, .inl (msF gr wk z lk sz br (updN ru 7 (potE (wkLeft ru (toH gr ki ma hd L sd) (crH gr ki ma hd L sd) d))) ki ma bb (upd ((upd ((upd ((upd ((upd ((upd ((upd ce (8 * wk) (nI d))) ((8 * wk) + 5 - 4) (nI (winN (crH gr ki ma hd L sd) d 4)))) ((8 * wk) + 8 - 4) ((wkE ru (toH gr ki ma hd L sd) (crH gr ki ma hd L sd) d 4).toInt32))) ((8 * wk) + 5 - 3) (nI (winN (crH gr ki ma hd L sd) d 3)))) ((8 * wk) + 8 - 3) ((wkE ru (toH gr ki ma hd L sd) (crH gr ki ma hd L sd) d 3).toInt32))) ((8 * wk) + 5 - 2) (nI (winN (crH gr ki ma hd L sd) d 2)))) ((8 * wk) + 8 - 2) ((wkE ru (toH gr ki ma hd L sd) (crH gr ki ma hd L sd) d 2).toInt32)) hd))), (aNt, .inl (g.2.1 0, 60, .inl (nIf tb))), (aNa, .inl (g.2.1 0, 2475, .inl (nIf fcN))), (aNr, .inl (g.2.1 0, 495, .inl (nIf rowB))), (aNb, .inl (g.2.1 0, 4096, .inl (nIf popN))), (aNl, .inl (g.2.1 0, 495, .inl (nIf sd))), (aNal, .inl (g.2.1 0, 495, .inl (nIf (crH gr ki ma hd L sd)))), (aNlo, .inl (g.2.1 0, 12, .inl (nIf z5)))]) dX9_goes_208 1 17 rfl (rfl) (by decide) (by decide) (by rw [mss_ru (x := 7) (by omega) (by omega)]; rfl) ?_
                            refine x_aload_n dX9_goes_209 rfl ?_
                            refine x_get dX9_goes_210 0 0 inX9 fl_X9_7 rfl rfl (by decide) rfl ?_
                            refine x_iload dX9_goes_213 rfl ?_
                            refine x_bipush 7 dX9_goes_215 (by decide) ?_
                            refine x_iadd dX9_goes_217 ?_
                            refine x_rei (nI ((104 + (8 * wk)) + 7)) (nI_addc (104 + (8 * wk)) 7 rfl) ?_
                            refine x_aload_n dX9_goes_218 rfl ?_
                            refine x_get dX9_goes_219 0 0 inX9 fl_X9_7 rfl rfl (by decide) rfl ?_
                            refine x_bipush 17 dX9_goes_222 (by decide) ?_
                            refine x_iald dX9_goes_224 1 17 rfl (rfl) (by decide) (by decide) ?_
                            refine x_rei (nI (((updN ru 7 (potE (wkLeft ru (toH gr ki ma hd L sd) (crH gr ki ma hd L sd) d)))) 7)) (msg_ru (x := 7) (by omega) (by omega)) ?_
                            refine x_iast (ws' := [(aN, .inr (9, [.ref aNs, .ref aNk, .int nkp, .ref aNf, .ref aNr, .ref aNp, .ref aNb, .ref aNa, .ref aNt, .int (nI nts), .ref aNbo, .ref aNsz, .ref aNnu, .int (nI z1), .int (nI z2), .int z3, .int 0, .int (nI z4), .int 0, .int 0, .int (wnI nnw nwn), .ref aNl, .ref aNal, .ref aNlo, .int (nI (toH gr ki ma hd L sd)), .ref aNw, .ref aNtr, .ref aNis, .ref aNbg, .ref aNow])), (aNs, .inl (g.2.1 0, 919, .inl (msF gr wk z lk sz br (updN ru 7 (potE (wkLeft ru (toH gr ki ma hd L sd) (crH gr ki ma hd L sd) d))) ki ma bb (upd ((upd ((upd ((upd ((upd ((upd ((upd ((upd ce (8 * wk) (nI d))) ((8 * wk) + 5 - 4) (nI (winN (crH gr ki ma hd L sd) d 4)))) ((8 * wk) + 8 - 4) ((wkE ru (toH gr ki ma hd L sd) (crH gr ki ma hd L sd) d 4).toInt32))) ((8 * wk) + 5 - 3) (nI (winN (crH gr ki ma hd L sd) d 3)))) ((8 * wk) + 8 - 3) ((wkE ru (toH gr ki ma hd L sd) (crH gr ki ma hd L sd) d 3).toInt32))) ((8 * wk) + 5 - 2) (nI (winN (crH gr ki ma hd L sd) d 2)))) ((8 * wk) + 8 - 2) ((wkE ru (toH gr ki ma hd L sd) (crH gr ki ma hd L sd) d 2).toInt32))) ((8 * wk) + 7) (nI (((updN ru 7 (potE (wkLeft ru (toH gr ki ma hd L sd) (crH gr ki ma hd L sd) d)))) 7))) hd))), (aNt, .inl (g.2.1 0, 60, .inl (nIf tb))), (aNa, .inl (g.2.1 0, 2475, .inl (nIf fcN))), (aNr, .inl (g.2.1 0, 495, .inl (nIf rowB))), (aNb, .inl (g.2.1 0, 4096, .inl (nIf popN))), (aNl, .inl (g.2.1 0, 495, .inl (nIf sd))), (aNal, .inl (g.2.1 0, 495, .inl (nIf (crH gr ki ma hd L sd)))), (aNlo, .inl (g.2.1 0, 12, .inl (nIf z5)))]) dX9_goes_225 1 ((104 + (8 * wk)) + 7) rfl (rfl) (by omega) (by decide) (by rw [mss_ce (x := (8 * wk) + 7) (by omega) (by omega)]; rfl) ?_
                            refine x_aload_n dX9_goes_226 rfl ?_
                            refine x_get dX9_goes_227 0 0 inX9 fl_X9_7 rfl rfl (by decide) rfl ?_
                            refine x_iconst 1 dX9_goes_230 (by decide) ?_
                            refine x_dup2 dX9_goes_231 rfl rfl ?_
                            refine x_iald dX9_goes_232 1 1 rfl (rfl) (by decide) (by decide) ?_
                            refine x_rei (nI wk) (rfl) ?_
                            refine x_iconst 1 dX9_goes_233 (by decide) ?_
                            refine x_iadd dX9_goes_234 ?_
                            refine x_rei (nI (wk + 1)) (nI_addc wk 1 rfl) ?_
                            refine x_iast (ws' := [(aN, .inr (9, [.ref aNs, .ref aNk, .int nkp, .ref aNf, .ref aNr, .ref aNp, .ref aNb, .ref aNa, .ref aNt, .int (nI nts), .ref aNbo, .ref aNsz, .ref aNnu, .int (nI z1), .int (nI z2), .int z3, .int 0, .int (nI z4), .int 0, .int 0, .int (wnI nnw nwn), .ref aNl, .ref aNal, .ref aNlo, .int (nI (toH gr ki ma hd L sd)), .ref aNw, .ref aNtr, .ref aNis, .ref aNbg, .ref aNow])), (aNs, .inl (g.2.1 0, 919, .inl (msF gr (wk + 1) z lk sz br (updN ru 7 (potE (wkLeft ru (toH gr ki ma hd L sd) (crH gr ki ma hd L sd) d))) ki ma bb (upd ((upd ((upd ((upd ((upd ((upd ((upd ((upd ce (8 * wk) (nI d))) ((8 * wk) + 5 - 4) (nI (winN (crH gr ki ma hd L sd) d 4)))) ((8 * wk) + 8 - 4) ((wkE ru (toH gr ki ma hd L sd) (crH gr ki ma hd L sd) d 4).toInt32))) ((8 * wk) + 5 - 3) (nI (winN (crH gr ki ma hd L sd) d 3)))) ((8 * wk) + 8 - 3) ((wkE ru (toH gr ki ma hd L sd) (crH gr ki ma hd L sd) d 3).toInt32))) ((8 * wk) + 5 - 2) (nI (winN (crH gr ki ma hd L sd) d 2)))) ((8 * wk) + 8 - 2) ((wkE ru (toH gr ki ma hd L sd) (crH gr ki ma hd L sd) d 2).toInt32))) ((8 * wk) + 7) (nI (((updN ru 7 (potE (wkLeft ru (toH gr ki ma hd L sd) (crH gr ki ma hd L sd) d)))) 7))) hd))), (aNt, .inl (g.2.1 0, 60, .inl (nIf tb))), (aNa, .inl (g.2.1 0, 2475, .inl (nIf fcN))), (aNr, .inl (g.2.1 0, 495, .inl (nIf rowB))), (aNb, .inl (g.2.1 0, 4096, .inl (nIf popN))), (aNl, .inl (g.2.1 0, 495, .inl (nIf sd))), (aNal, .inl (g.2.1 0, 495, .inl (nIf (crH gr ki ma hd L sd)))), (aNlo, .inl (g.2.1 0, 12, .inl (nIf z5)))]) dX9_goes_235 1 1 rfl (rfl) (by decide) (by decide) (by rw [mss_1]; rfl) ?_
                            refine x_aload_n dX9_goes_236 rfl ?_
                            refine x_iconst 1 dX9_goes_237 (by decide) ?_
                            refine x_put (ws' := [(aN, .inr (9, [.ref aNs, .ref aNk, .int nkp, .ref aNf, .ref aNr, .ref aNp, .ref aNb, .ref aNa, .ref aNt, .int (nI nts), .ref aNbo, .ref aNsz, .ref aNnu, .int (nI z1), .int (nI z2), .int z3, .int 0, .int (nI z4), .int 1, .int 0, .int (wnI nnw nwn), .ref aNl, .ref aNal, .ref aNlo, .int (nI (toH gr ki ma hd L sd)), .ref aNw, .ref aNtr, .ref aNis, .ref aNbg, .ref aNow])), (aNs, .inl (g.2.1 0, 919, .inl (msF gr (wk + 1) z lk sz br (updN ru 7 (potE (wkLeft ru (toH gr ki ma hd L sd) (crH gr ki ma hd L sd) d))) ki ma bb (upd ((upd ((upd ((upd ((upd ((upd ((upd ((upd ce (8 * wk) (nI d))) ((8 * wk) + 5 - 4) (nI (winN (crH gr ki ma hd L sd) d 4)))) ((8 * wk) + 8 - 4) ((wkE ru (toH gr ki ma hd L sd) (crH gr ki ma hd L sd) d 4).toInt32))) ((8 * wk) + 5 - 3) (nI (winN (crH gr ki ma hd L sd) d 3)))) ((8 * wk) + 8 - 3) ((wkE ru (toH gr ki ma hd L sd) (crH gr ki ma hd L sd) d 3).toInt32))) ((8 * wk) + 5 - 2) (nI (winN (crH gr ki ma hd L sd) d 2)))) ((8 * wk) + 8 - 2) ((wkE ru (toH gr ki ma hd L sd) (crH gr ki ma hd L sd) d 2).toInt32))) ((8 * wk) + 7) (nI (((updN ru 7 (potE (wkLeft ru (toH gr ki ma hd L sd) (crH gr ki ma hd L sd) d)))) 7))) hd))), (aNt, .inl (g.2.1 0, 60, .inl (nIf tb))), (aNa, .inl (g.2.1 0, 2475, .inl (nIf fcN))), (aNr, .inl (g.2.1 0, 495, .inl (nIf rowB))), (aNb, .inl (g.2.1 0, 4096, .inl (nIf popN))), (aNl, .inl (g.2.1 0, 495, .inl (nIf sd))), (aNal, .inl (g.2.1 0, 495, .inl (nIf (crH gr ki ma hd L sd)))), (aNlo, .inl (g.2.1 0, 12, .inl (nIf z5)))]) dX9_goes_238 0 18 inX9 tyX9_ok nmX9 fl_X9_44 rfl rfl (by decide) rfl (rfl) rfl (xlt rfl) rfl ?_
                            refine x_aload_n dX9_goes_241 rfl ?_
                            refine x_iconst 1 dX9_goes_242 (by decide) ?_
                            refine x_put (ws' := [(aN, .inr (9, [.ref aNs, .ref aNk, .int nkp, .ref aNf, .ref aNr, .ref aNp, .ref aNb, .ref aNa, .ref aNt, .int (nI nts), .ref aNbo, .ref aNsz, .ref aNnu, .int (nI z1), .int (nI z2), .int z3, .int 0, .int (nI z4), .int 1, .int 1, .int (wnI nnw nwn), .ref aNl, .ref aNal, .ref aNlo, .int (nI (toH gr ki ma hd L sd)), .ref aNw, .ref aNtr, .ref aNis, .ref aNbg, .ref aNow])), (aNs, .inl (g.2.1 0, 919, .inl (msF gr (wk + 1) z lk sz br (updN ru 7 (potE (wkLeft ru (toH gr ki ma hd L sd) (crH gr ki ma hd L sd) d))) ki ma bb (upd ((upd ((upd ((upd ((upd ((upd ((upd ((upd ce (8 * wk) (nI d))) ((8 * wk) + 5 - 4) (nI (winN (crH gr ki ma hd L sd) d 4)))) ((8 * wk) + 8 - 4) ((wkE ru (toH gr ki ma hd L sd) (crH gr ki ma hd L sd) d 4).toInt32))) ((8 * wk) + 5 - 3) (nI (winN (crH gr ki ma hd L sd) d 3)))) ((8 * wk) + 8 - 3) ((wkE ru (toH gr ki ma hd L sd) (crH gr ki ma hd L sd) d 3).toInt32))) ((8 * wk) + 5 - 2) (nI (winN (crH gr ki ma hd L sd) d 2)))) ((8 * wk) + 8 - 2) ((wkE ru (toH gr ki ma hd L sd) (crH gr ki ma hd L sd) d 2).toInt32))) ((8 * wk) + 7) (nI (((updN ru 7 (potE (wkLeft ru (toH gr ki ma hd L sd) (crH gr ki ma hd L sd) d)))) 7))) hd))), (aNt, .inl (g.2.1 0, 60, .inl (nIf tb))), (aNa, .inl (g.2.1 0, 2475, .inl (nIf fcN))), (aNr, .inl (g.2.1 0, 495, .inl (nIf rowB))), (aNb, .inl (g.2.1 0, 4096, .inl (nIf popN))), (aNl, .inl (g.2.1 0, 495, .inl (nIf sd))), (aNal, .inl (g.2.1 0, 495, .inl (nIf (crH gr ki ma hd L sd)))), (aNlo, .inl (g.2.1 0, 12, .inl (nIf z5)))]) dX9_goes_243 0 19 inX9 tyX9_ok nmX9 fl_X9_48 rfl rfl (by decide) rfl (rfl) rfl (xlt rfl) rfl ?_
                            rw [← hQ]
                            refine x_vret dX9_goes_246 rfl (Nat.le_of_ble_eq_true rfl) (Nat.le_of_ble_eq_true rfl) ?_
                            rw [wkCells, ← cells_eq]
                            exact ⟨_, _, _, _, _, rfl, rfl, p6⟩
                          refine x_if_ge dX9_goes_183 (fun c183 => ?_) (fun c183 => ?_)
                          · have c183 : 0 ≤ (lg_cmp ((((potL ru (nI (ru 7)).toInt64 (nI (toH gr ki ma hd L sd)).toInt64) - ((wkE ru (toH gr ki ma hd L sd) (crH gr ki ma hd L sd) d 4) * ((nI (winN (crH gr ki ma hd L sd) d 4)).toInt64))) - ((wkE ru (toH gr ki ma hd L sd) (crH gr ki ma hd L sd) d 3) * ((nI (winN (crH gr ki ma hd L sd) d 3)).toInt64))) - ((wkE ru (toH gr ki ma hd L sd) (crH gr ki ma hd L sd) d 2) * ((nI (winN (crH gr ki ma hd L sd) d 2)).toInt64))) 0) := c183
                            refine x_lload dX9_goes_190 rfl ?_
                            refine x_ldc2 dX9_goes_192 kl_X9_216 ?_
                            refine x_lcmp dX9_goes_195 ?_
                            have J196_21 : ∀ (v20 : Int64), v20 = (if (lg_cmp ((((potL ru (nI (ru 7)).toInt64 (nI (toH gr ki ma hd L sd)).toInt64) - ((wkE ru (toH gr ki ma hd L sd) (crH gr ki ma hd L sd) d 4) * ((nI (winN (crH gr ki ma hd L sd) d 4)).toInt64))) - ((wkE ru (toH gr ki ma hd L sd) (crH gr ki ma hd L sd) d 3) * ((nI (winN (crH gr ki ma hd L sd) d 3)).toInt64))) - ((wkE ru (toH gr ki ma hd L sd) (crH gr ki ma hd L sd) d 2) * ((nI (winN (crH gr ki ma hd L sd) d 2)).toInt64))) 99999999) ≤ 0 then (((potL ru (nI (ru 7)).toInt64 (nI (toH gr ki ma hd L sd)).toInt64) - ((wkE ru (toH gr ki ma hd L sd) (crH gr ki ma hd L sd) d 4) * ((nI (winN (crH gr ki ma hd L sd) d 4)).toInt64))) - ((wkE ru (toH gr ki ma hd L sd) (crH gr ki ma hd L sd) d 3) * ((nI (winN (crH gr ki ma hd L sd) d 3)).toInt64))) - ((wkE ru (toH gr ki ma hd L sd) (crH gr ki ma hd L sd) d 2) * ((nI (winN (crH gr ki ma hd L sd) d 2)).toInt64)) else 99999999) → Xs κ g 29 0 0 cX9_goes yX9_goes none Q 0 0 207 [some (.ref aN), some (.int (nI d)), some (.long (potL ru (nI (ru 7)).toInt64 (nI (toH gr ki ma hd L sd)).toInt64)), none, some (.int (nI (104 + (8 * wk)))), some (.long ((((potL ru (nI (ru 7)).toInt64 (nI (toH gr ki ma hd L sd)).toInt64) - ((wkE ru (toH gr ki ma hd L sd) (crH gr ki ma hd L sd) d 4) * ((nI (winN (crH gr ki ma hd L sd) d 4)).toInt64))) - ((wkE ru (toH gr ki ma hd L sd) (crH gr ki ma hd L sd) d 3) * ((nI (winN (crH gr ki ma hd L sd) d 3)).toInt64))) - ((wkE ru (toH gr ki ma hd L sd) (crH gr ki ma hd L sd) d 2) * ((nI (winN (crH gr ki ma hd L sd) d 2)).toInt64)))), none, some (.int 1), some (.int (nI (winN (crH gr ki ma hd L sd) d 2))), some (.long (wkE ru (toH gr ki ma hd L sd) (crH gr ki ma hd L sd) d 2)), none] [.long v20, .int 17, .ref aNs] [(aN, .inr (9, [.ref aNs, .ref aNk, .int nkp, .ref aNf, .ref aNr, .ref aNp, .ref aNb, .ref aNa, .ref aNt, .int (nI nts), .ref aNbo, .ref aNsz, .ref aNnu, .int (nI z1), .int (nI z2), .int z3, .int 0, .int (nI z4), .int 0, .int 0, .int (wnI nnw nwn), .ref aNl, .ref aNal, .ref aNlo, .int (nI (toH gr ki ma hd L sd)), .ref aNw, .ref aNtr, .ref aNis, .ref aNbg, .ref aNow])), (aNs, .inl (g.2.1 0, 919, .inl (msF gr wk z lk sz br ru ki ma bb (upd ((upd ((upd ((upd ((upd ((upd ((upd ce (8 * wk) (nI d))) ((8 * wk) + 5 - 4) (nI (winN (crH gr ki ma hd L sd) d 4)))) ((8 * wk) + 8 - 4) ((wkE ru (toH gr ki ma hd L sd) (crH gr ki ma hd L sd) d 4).toInt32))) ((8 * wk) + 5 - 3) (nI (winN (crH gr ki ma hd L sd) d 3)))) ((8 * wk) + 8 - 3) ((wkE ru (toH gr ki ma hd L sd) (crH gr ki ma hd L sd) d 3).toInt32))) ((8 * wk) + 5 - 2) (nI (winN (crH gr ki ma hd L sd) d 2)))) ((8 * wk) + 8 - 2) ((wkE ru (toH gr ki ma hd L sd) (crH gr ki ma hd L sd) d 2).toInt32)) hd))), (aNt, .inl (g.2.1 0, 60, .inl (nIf tb))), (aNa, .inl (g.2.1 0, 2475, .inl (nIf fcN))), (aNr, .inl (g.2.1 0, 495, .inl (nIf rowB))), (aNb, .inl (g.2.1 0, 4096, .inl (nIf popN))), (aNl, .inl (g.2.1 0, 495, .inl (nIf sd))), (aNal, .inl (g.2.1 0, 495, .inl (nIf (crH gr ki ma hd L sd)))), (aNlo, .inl (g.2.1 0, 12, .inl (nIf z5)))] := by
                              intro v20 ev20
                              exact J183_19 _ (by rw [if_pos c183]; try simp only [ev20])
                            refine x_if_le dX9_goes_196 (fun c196 => ?_) (fun c196 => ?_)
                            · have c196 : (lg_cmp ((((potL ru (nI (ru 7)).toInt64 (nI (toH gr ki ma hd L sd)).toInt64) - ((wkE ru (toH gr ki ma hd L sd) (crH gr ki ma hd L sd) d 4) * ((nI (winN (crH gr ki ma hd L sd) d 4)).toInt64))) - ((wkE ru (toH gr ki ma hd L sd) (crH gr ki ma hd L sd) d 3) * ((nI (winN (crH gr ki ma hd L sd) d 3)).toInt64))) - ((wkE ru (toH gr ki ma hd L sd) (crH gr ki ma hd L sd) d 2) * ((nI (winN (crH gr ki ma hd L sd) d 2)).toInt64))) 99999999) ≤ 0 := c196
                              refine x_lload dX9_goes_205 rfl ?_
                              exact J196_21 _ (if_pos c196).symm
                            · have c196 : ¬ ((lg_cmp ((((potL ru (nI (ru 7)).toInt64 (nI (toH gr ki ma hd L sd)).toInt64) - ((wkE ru (toH gr ki ma hd L sd) (crH gr ki ma hd L sd) d 4) * ((nI (winN (crH gr ki ma hd L sd) d 4)).toInt64))) - ((wkE ru (toH gr ki ma hd L sd) (crH gr ki ma hd L sd) d 3) * ((nI (winN (crH gr ki ma hd L sd) d 3)).toInt64))) - ((wkE ru (toH gr ki ma hd L sd) (crH gr ki ma hd L sd) d 2) * ((nI (winN (crH gr ki ma hd L sd) d 2)).toInt64))) 99999999) ≤ 0) := c196
                              refine x_ldc2 dX9_goes_199 kl_X9_216 ?_
                              refine x_goto dX9_goes_202 ?_
                              exact J196_21 _ (if_neg c196).symm
                          · have c183 : ¬ (0 ≤ (lg_cmp ((((potL ru (nI (ru 7)).toInt64 (nI (toH gr ki ma hd L sd)).toInt64) - ((wkE ru (toH gr ki ma hd L sd) (crH gr ki ma hd L sd) d 4) * ((nI (winN (crH gr ki ma hd L sd) d 4)).toInt64))) - ((wkE ru (toH gr ki ma hd L sd) (crH gr ki ma hd L sd) d 3) * ((nI (winN (crH gr ki ma hd L sd) d 3)).toInt64))) - ((wkE ru (toH gr ki ma hd L sd) (crH gr ki ma hd L sd) d 2) * ((nI (winN (crH gr ki ma hd L sd) d 2)).toInt64))) 0)) := c183
                            refine x_lconst 0 dX9_goes_186 (by decide) ?_
                            refine x_goto dX9_goes_187 ?_
                            exact J183_19 _ (if_neg c183).symm
                        refine x_if_ne dX9_goes_106 (fun c106 => ?_) (fun c106 => ?_)
                        · have c106 : ¬ ((nI (winN (crH gr ki ma hd L sd) d 2)) = 0) := c106
                          have c106n := mt (nI_eq (a := (winN (crH gr ki ma hd L sd) d 2)) (b := 0) (by omega) (by omega)).mpr c106
                          refine x_aload_n dX9_goes_113 rfl ?_
                          refine x_lload_n dX9_goes_114 rfl ?_
                          refine x_iload dX9_goes_115 rfl ?_
                          refine x_cVl0 dX9_goes_117 ml_X9_212 mX9_shareOf (ct_X9_shareOf κ.2.1 g aN aNs aNk aNf aNr aNp aNb aNa aNt aNbo aNsz aNnu aNl aNal aNlo aNw aNtr aNis aNbg aNow nts z1 z2 z4 (toH gr ki ma hd L sd) nkp z3 0 0 0 (wnI nnw nwn) gr wk lk sz br z ru ki ma bb hd (upd ((upd ((upd ((upd ((upd ce (8 * wk) (nI d))) ((8 * wk) + 5 - 4) (nI (winN (crH gr ki ma hd L sd) d 4)))) ((8 * wk) + 8 - 4) ((wkE ru (toH gr ki ma hd L sd) (crH gr ki ma hd L sd) d 4).toInt32))) ((8 * wk) + 5 - 3) (nI (winN (crH gr ki ma hd L sd) d 3)))) ((8 * wk) + 8 - 3) ((wkE ru (toH gr ki ma hd L sd) (crH gr ki ma hd L sd) d 3).toInt32)) (potL ru (nI (ru 7)).toInt64 (nI (toH gr ki ma hd L sd)).toInt64) 2 (by decide)) [0, 1] rfl rfl 0 rfl rfl rfl (Nat.le_of_ble_eq_true rfl) (by decide) (Nat.le_refl _) (Nat.le_refl _) ?_
                          refine x_iload dX9_goes_120 rfl ?_
                          refine x_i2l dX9_goes_122 ?_
                          refine x_ldiv dX9_goes_123 (i64_ne0 (mt (nI_le0 (by omega)).mp c106n)) ?_
                          exact J106_15 _ (if_neg c106).symm
                        · have c106 : (nI (winN (crH gr ki ma hd L sd) d 2)) = 0 := c106
                          have c106n := (nI_eq (a := (winN (crH gr ki ma hd L sd) d 2)) (b := 0) (by omega) (by omega)).mp c106
                          refine x_lconst 0 dX9_goes_109 (by decide) ?_
                          refine x_goto dX9_goes_110 ?_
                          exact J106_15 _ (if_pos c106).symm
                    · have c61 : ¬ (495 ≤ (nI i)) := c61
                      have c61n := mt (nI_leI (a := 495) (b := i) (by omega) (by omega)).mpr c61
                      refine x_iload dX9_goes_64 rfl ?_
                      refine x_aload_n dX9_goes_66 rfl ?_
                      refine x_aload_n dX9_goes_67 rfl ?_
                      refine x_get dX9_goes_68 0 4 inX9 fl_X9_19 rfl rfl (by decide) rfl ?_
                      refine x_iload dX9_goes_71 rfl ?_
                      refine x_iald dX9_goes_73 4 i rfl (rfl) (by omega) (by decide) ?_
                      refine x_iload_n dX9_goes_74 rfl ?_
                      refine x_iand dX9_goes_75 ?_
                      refine x_rei (nI ((rowB i) &&& d)) (nI_iand (rowB i) d) ?_
                      refine x_cVi0 dX9_goes_76 ml_X9_132 mX9_ones (ct_X9_ones κ.2.1 g aN aNs aNk aNf aNr aNp aNb aNa aNt aNbo aNsz aNnu aNl aNal aNlo aNw aNtr aNis aNbg aNow nts z1 z2 z4 (toH gr ki ma hd L sd) nkp z3 0 0 0 (wnI nnw nwn) ((rowB i) &&& d) (by first | exact and_lt (by decide) | exact and_ltl (rowB_lt _) | exact rowB_lt _ | omega)) [0, 5] rfl rfl 0 rfl rfl rfl (Nat.le_of_ble_eq_true rfl) (by decide) (Nat.le_refl _) (Nat.le_refl _) ?_
                      refine x_iload dX9_goes_79 rfl ?_
                      refine x_icmp_ne dX9_goes_81 (fun c81 => ?_) (fun c81 => ?_)
                      · have c81 : ¬ ((nI (popN ((rowB i) &&& d))) = 2) := c81
                        have c81n := mt (nI_eq (a := (popN ((rowB i) &&& d))) (b := 2) (by omega) (by omega)).mpr c81
                        refine x_iconst 0 dX9_goes_94 (by decide) ?_
                        refine x_iadd dX9_goes_95 ?_
                        refine x_rei (nI ((winT (crH gr ki ma hd L sd) d i 2) + 0)) (nI_addc (winT (crH gr ki ma hd L sd) d i 2) 0 rfl) ?_
                        refine x_istore (lv' := [some (.ref aN), some (.int (nI d)), some (.long (potL ru (nI (ru 7)).toInt64 (nI (toH gr ki ma hd L sd)).toInt64)), none, some (.int (nI (104 + (8 * wk)))), some (.long (((potL ru (nI (ru 7)).toInt64 (nI (toH gr ki ma hd L sd)).toInt64) - ((wkE ru (toH gr ki ma hd L sd) (crH gr ki ma hd L sd) d 4) * ((nI (winN (crH gr ki ma hd L sd) d 4)).toInt64))) - ((wkE ru (toH gr ki ma hd L sd) (crH gr ki ma hd L sd) d 3) * ((nI (winN (crH gr ki ma hd L sd) d 3)).toInt64)))), none, some (.int 2), some (.int (nI ((winT (crH gr ki ma hd L sd) d i 2) + 0))), some (.int (nI i)), none]) dX9_goes_96 (xlt rfl) rfl ?_
                        refine x_iinc (lv' := [some (.ref aN), some (.int (nI d)), some (.long (potL ru (nI (ru 7)).toInt64 (nI (toH gr ki ma hd L sd)).toInt64)), none, some (.int (nI (104 + (8 * wk)))), some (.long (((potL ru (nI (ru 7)).toInt64 (nI (toH gr ki ma hd L sd)).toInt64) - ((wkE ru (toH gr ki ma hd L sd) (crH gr ki ma hd L sd) d 4) * ((nI (winN (crH gr ki ma hd L sd) d 4)).toInt64))) - ((wkE ru (toH gr ki ma hd L sd) (crH gr ki ma hd L sd) d 3) * ((nI (winN (crH gr ki ma hd L sd) d 3)).toInt64)))), none, some (.int 2), some (.int (nI ((winT (crH gr ki ma hd L sd) d i 2) + 0))), some (.int (nI (i + 1))), none]) (nI (i + 1)) dX9_goes_98 rfl (nI_addc i 1 rfl) rfl ?_
                        refine x_goto dX9_goes_101 ?_
                        exact ih56 (by omega) ((winT (crH gr ki ma hd L sd) d i 2) + 0) (by simp only [winT, sumN, if_pos (show 2 ≤ 4 by decide)]; first | rw [if_pos (by omega)] | rw [if_neg (by omega)])
                      · have c81 : (nI (popN ((rowB i) &&& d))) = 2 := c81
                        have c81n := (nI_eq (a := (popN ((rowB i) &&& d))) (b := 2) (by omega) (by omega)).mp c81
                        refine x_aload_n dX9_goes_84 rfl ?_
                        refine x_get dX9_goes_85 0 22 inX9 fl_X9_57 rfl rfl (by decide) rfl ?_
                        refine x_iload dX9_goes_88 rfl ?_
                        refine x_iald dX9_goes_90 7 i rfl (rfl) (by omega) (by decide) ?_
                        refine x_goto dX9_goes_91 ?_
                        refine x_iadd dX9_goes_95 ?_
                        refine x_rei (nI ((winT (crH gr ki ma hd L sd) d i 2) + ((crH gr ki ma hd L sd) i))) (nI_iadd (winT (crH gr ki ma hd L sd) d i 2) ((crH gr ki ma hd L sd) i)) ?_
                        refine x_istore (lv' := [some (.ref aN), some (.int (nI d)), some (.long (potL ru (nI (ru 7)).toInt64 (nI (toH gr ki ma hd L sd)).toInt64)), none, some (.int (nI (104 + (8 * wk)))), some (.long (((potL ru (nI (ru 7)).toInt64 (nI (toH gr ki ma hd L sd)).toInt64) - ((wkE ru (toH gr ki ma hd L sd) (crH gr ki ma hd L sd) d 4) * ((nI (winN (crH gr ki ma hd L sd) d 4)).toInt64))) - ((wkE ru (toH gr ki ma hd L sd) (crH gr ki ma hd L sd) d 3) * ((nI (winN (crH gr ki ma hd L sd) d 3)).toInt64)))), none, some (.int 2), some (.int (nI ((winT (crH gr ki ma hd L sd) d i 2) + ((crH gr ki ma hd L sd) i)))), some (.int (nI i)), none]) dX9_goes_96 (xlt rfl) rfl ?_
                        refine x_iinc (lv' := [some (.ref aN), some (.int (nI d)), some (.long (potL ru (nI (ru 7)).toInt64 (nI (toH gr ki ma hd L sd)).toInt64)), none, some (.int (nI (104 + (8 * wk)))), some (.long (((potL ru (nI (ru 7)).toInt64 (nI (toH gr ki ma hd L sd)).toInt64) - ((wkE ru (toH gr ki ma hd L sd) (crH gr ki ma hd L sd) d 4) * ((nI (winN (crH gr ki ma hd L sd) d 4)).toInt64))) - ((wkE ru (toH gr ki ma hd L sd) (crH gr ki ma hd L sd) d 3) * ((nI (winN (crH gr ki ma hd L sd) d 3)).toInt64)))), none, some (.int 2), some (.int (nI ((winT (crH gr ki ma hd L sd) d i 2) + ((crH gr ki ma hd L sd) i)))), some (.int (nI (i + 1))), none]) (nI (i + 1)) dX9_goes_98 rfl (nI_addc i 1 rfl) rfl ?_
                        refine x_goto dX9_goes_101 ?_
                        exact ih56 (by omega) ((winT (crH gr ki ma hd L sd) d i 2) + ((crH gr ki ma hd L sd) i)) (by simp only [winT, sumN, if_pos (show 2 ≤ 4 by decide)]; first | rw [if_pos (by omega)] | rw [if_neg (by omega)])
                  exact L56_13 0 (Nat.zero_le _) 0 (by simp [winT, sumN])
                refine x_if_ne dX9_goes_106 (fun c106 => ?_) (fun c106 => ?_)
                · have c106 : ¬ ((nI (winN (crH gr ki ma hd L sd) d 3)) = 0) := c106
                  have c106n := mt (nI_eq (a := (winN (crH gr ki ma hd L sd) d 3)) (b := 0) (by omega) (by omega)).mpr c106
                  refine x_aload_n dX9_goes_113 rfl ?_
                  refine x_lload_n dX9_goes_114 rfl ?_
                  refine x_iload dX9_goes_115 rfl ?_
                  refine x_cVl0 dX9_goes_117 ml_X9_212 mX9_shareOf (ct_X9_shareOf κ.2.1 g aN aNs aNk aNf aNr aNp aNb aNa aNt aNbo aNsz aNnu aNl aNal aNlo aNw aNtr aNis aNbg aNow nts z1 z2 z4 (toH gr ki ma hd L sd) nkp z3 0 0 0 (wnI nnw nwn) gr wk lk sz br z ru ki ma bb hd (upd ((upd ((upd ce (8 * wk) (nI d))) ((8 * wk) + 5 - 4) (nI (winN (crH gr ki ma hd L sd) d 4)))) ((8 * wk) + 8 - 4) ((wkE ru (toH gr ki ma hd L sd) (crH gr ki ma hd L sd) d 4).toInt32)) (potL ru (nI (ru 7)).toInt64 (nI (toH gr ki ma hd L sd)).toInt64) 3 (by decide)) [0, 1] rfl rfl 0 rfl rfl rfl (Nat.le_of_ble_eq_true rfl) (by decide) (Nat.le_refl _) (Nat.le_refl _) ?_
                  refine x_iload dX9_goes_120 rfl ?_
                  refine x_i2l dX9_goes_122 ?_
                  refine x_ldiv dX9_goes_123 (i64_ne0 (mt (nI_le0 (by omega)).mp c106n)) ?_
                  exact J106_12 _ (if_neg c106).symm
                · have c106 : (nI (winN (crH gr ki ma hd L sd) d 3)) = 0 := c106
                  have c106n := (nI_eq (a := (winN (crH gr ki ma hd L sd) d 3)) (b := 0) (by omega) (by omega)).mp c106
                  refine x_lconst 0 dX9_goes_109 (by decide) ?_
                  refine x_goto dX9_goes_110 ?_
                  exact J106_12 _ (if_pos c106).symm
            · have c61 : ¬ (495 ≤ (nI i)) := c61
              have c61n := mt (nI_leI (a := 495) (b := i) (by omega) (by omega)).mpr c61
              refine x_iload dX9_goes_64 rfl ?_
              refine x_aload_n dX9_goes_66 rfl ?_
              refine x_aload_n dX9_goes_67 rfl ?_
              refine x_get dX9_goes_68 0 4 inX9 fl_X9_19 rfl rfl (by decide) rfl ?_
              refine x_iload dX9_goes_71 rfl ?_
              refine x_iald dX9_goes_73 4 i rfl (rfl) (by omega) (by decide) ?_
              refine x_iload_n dX9_goes_74 rfl ?_
              refine x_iand dX9_goes_75 ?_
              refine x_rei (nI ((rowB i) &&& d)) (nI_iand (rowB i) d) ?_
              refine x_cVi0 dX9_goes_76 ml_X9_132 mX9_ones (ct_X9_ones κ.2.1 g aN aNs aNk aNf aNr aNp aNb aNa aNt aNbo aNsz aNnu aNl aNal aNlo aNw aNtr aNis aNbg aNow nts z1 z2 z4 (toH gr ki ma hd L sd) nkp z3 0 0 0 (wnI nnw nwn) ((rowB i) &&& d) (by first | exact and_lt (by decide) | exact and_ltl (rowB_lt _) | exact rowB_lt _ | omega)) [0, 5] rfl rfl 0 rfl rfl rfl (Nat.le_of_ble_eq_true rfl) (by decide) (Nat.le_refl _) (Nat.le_refl _) ?_
              refine x_iload dX9_goes_79 rfl ?_
              refine x_icmp_ne dX9_goes_81 (fun c81 => ?_) (fun c81 => ?_)
              · have c81 : ¬ ((nI (popN ((rowB i) &&& d))) = 3) := c81
                have c81n := mt (nI_eq (a := (popN ((rowB i) &&& d))) (b := 3) (by omega) (by omega)).mpr c81
                refine x_iconst 0 dX9_goes_94 (by decide) ?_
                refine x_iadd dX9_goes_95 ?_
                refine x_rei (nI ((winT (crH gr ki ma hd L sd) d i 3) + 0)) (nI_addc (winT (crH gr ki ma hd L sd) d i 3) 0 rfl) ?_
                refine x_istore (lv' := [some (.ref aN), some (.int (nI d)), some (.long (potL ru (nI (ru 7)).toInt64 (nI (toH gr ki ma hd L sd)).toInt64)), none, some (.int (nI (104 + (8 * wk)))), some (.long ((potL ru (nI (ru 7)).toInt64 (nI (toH gr ki ma hd L sd)).toInt64) - ((wkE ru (toH gr ki ma hd L sd) (crH gr ki ma hd L sd) d 4) * ((nI (winN (crH gr ki ma hd L sd) d 4)).toInt64)))), none, some (.int 3), some (.int (nI ((winT (crH gr ki ma hd L sd) d i 3) + 0))), some (.int (nI i)), none]) dX9_goes_96 (xlt rfl) rfl ?_
                refine x_iinc (lv' := [some (.ref aN), some (.int (nI d)), some (.long (potL ru (nI (ru 7)).toInt64 (nI (toH gr ki ma hd L sd)).toInt64)), none, some (.int (nI (104 + (8 * wk)))), some (.long ((potL ru (nI (ru 7)).toInt64 (nI (toH gr ki ma hd L sd)).toInt64) - ((wkE ru (toH gr ki ma hd L sd) (crH gr ki ma hd L sd) d 4) * ((nI (winN (crH gr ki ma hd L sd) d 4)).toInt64)))), none, some (.int 3), some (.int (nI ((winT (crH gr ki ma hd L sd) d i 3) + 0))), some (.int (nI (i + 1))), none]) (nI (i + 1)) dX9_goes_98 rfl (nI_addc i 1 rfl) rfl ?_
                refine x_goto dX9_goes_101 ?_
                exact ih56 (by omega) ((winT (crH gr ki ma hd L sd) d i 3) + 0) (by simp only [winT, sumN, if_pos (show 3 ≤ 4 by decide)]; first | rw [if_pos (by omega)] | rw [if_neg (by omega)])
              · have c81 : (nI (popN ((rowB i) &&& d))) = 3 := c81
                have c81n := (nI_eq (a := (popN ((rowB i) &&& d))) (b := 3) (by omega) (by omega)).mp c81
                refine x_aload_n dX9_goes_84 rfl ?_
                refine x_get dX9_goes_85 0 22 inX9 fl_X9_57 rfl rfl (by decide) rfl ?_
                refine x_iload dX9_goes_88 rfl ?_
                refine x_iald dX9_goes_90 7 i rfl (rfl) (by omega) (by decide) ?_
                refine x_goto dX9_goes_91 ?_
                refine x_iadd dX9_goes_95 ?_
                refine x_rei (nI ((winT (crH gr ki ma hd L sd) d i 3) + ((crH gr ki ma hd L sd) i))) (nI_iadd (winT (crH gr ki ma hd L sd) d i 3) ((crH gr ki ma hd L sd) i)) ?_
                refine x_istore (lv' := [some (.ref aN), some (.int (nI d)), some (.long (potL ru (nI (ru 7)).toInt64 (nI (toH gr ki ma hd L sd)).toInt64)), none, some (.int (nI (104 + (8 * wk)))), some (.long ((potL ru (nI (ru 7)).toInt64 (nI (toH gr ki ma hd L sd)).toInt64) - ((wkE ru (toH gr ki ma hd L sd) (crH gr ki ma hd L sd) d 4) * ((nI (winN (crH gr ki ma hd L sd) d 4)).toInt64)))), none, some (.int 3), some (.int (nI ((winT (crH gr ki ma hd L sd) d i 3) + ((crH gr ki ma hd L sd) i)))), some (.int (nI i)), none]) dX9_goes_96 (xlt rfl) rfl ?_
                refine x_iinc (lv' := [some (.ref aN), some (.int (nI d)), some (.long (potL ru (nI (ru 7)).toInt64 (nI (toH gr ki ma hd L sd)).toInt64)), none, some (.int (nI (104 + (8 * wk)))), some (.long ((potL ru (nI (ru 7)).toInt64 (nI (toH gr ki ma hd L sd)).toInt64) - ((wkE ru (toH gr ki ma hd L sd) (crH gr ki ma hd L sd) d 4) * ((nI (winN (crH gr ki ma hd L sd) d 4)).toInt64)))), none, some (.int 3), some (.int (nI ((winT (crH gr ki ma hd L sd) d i 3) + ((crH gr ki ma hd L sd) i)))), some (.int (nI (i + 1))), none]) (nI (i + 1)) dX9_goes_98 rfl (nI_addc i 1 rfl) rfl ?_
                refine x_goto dX9_goes_101 ?_
                exact ih56 (by omega) ((winT (crH gr ki ma hd L sd) d i 3) + ((crH gr ki ma hd L sd) i)) (by simp only [winT, sumN, if_pos (show 3 ≤ 4 by decide)]; first | rw [if_pos (by omega)] | rw [if_neg (by omega)])
          exact L56_10 0 (Nat.zero_le _) 0 (by simp [winT, sumN])
        refine x_if_ne dX9_goes_106 (fun c106 => ?_) (fun c106 => ?_)
        · have c106 : ¬ ((nI (winN (crH gr ki ma hd L sd) d 4)) = 0) := c106
          have c106n := mt (nI_eq (a := (winN (crH gr ki ma hd L sd) d 4)) (b := 0) (by omega) (by omega)).mpr c106
          refine x_aload_n dX9_goes_113 rfl ?_
          refine x_lload_n dX9_goes_114 rfl ?_
          refine x_iload dX9_goes_115 rfl ?_
          refine x_cVl0 dX9_goes_117 ml_X9_212 mX9_shareOf (ct_X9_shareOf κ.2.1 g aN aNs aNk aNf aNr aNp aNb aNa aNt aNbo aNsz aNnu aNl aNal aNlo aNw aNtr aNis aNbg aNow nts z1 z2 z4 (toH gr ki ma hd L sd) nkp z3 0 0 0 (wnI nnw nwn) gr wk lk sz br z ru ki ma bb hd (upd ce (8 * wk) (nI d)) (potL ru (nI (ru 7)).toInt64 (nI (toH gr ki ma hd L sd)).toInt64) 4 (by decide)) [0, 1] rfl rfl 0 rfl rfl rfl (Nat.le_of_ble_eq_true rfl) (by decide) (Nat.le_refl _) (Nat.le_refl _) ?_
          refine x_iload dX9_goes_120 rfl ?_
          refine x_i2l dX9_goes_122 ?_
          refine x_ldiv dX9_goes_123 (i64_ne0 (mt (nI_le0 (by omega)).mp c106n)) ?_
          exact J106_9 _ (if_neg c106).symm
        · have c106 : (nI (winN (crH gr ki ma hd L sd) d 4)) = 0 := c106
          have c106n := (nI_eq (a := (winN (crH gr ki ma hd L sd) d 4)) (b := 0) (by omega) (by omega)).mp c106
          refine x_lconst 0 dX9_goes_109 (by decide) ?_
          refine x_goto dX9_goes_110 ?_
          exact J106_9 _ (if_pos c106).symm
    · have c61 : ¬ (495 ≤ (nI i)) := c61
      have c61n := mt (nI_leI (a := 495) (b := i) (by omega) (by omega)).mpr c61
      refine x_iload dX9_goes_64 rfl ?_
      refine x_aload_n dX9_goes_66 rfl ?_
      refine x_aload_n dX9_goes_67 rfl ?_
      refine x_get dX9_goes_68 0 4 inX9 fl_X9_19 rfl rfl (by decide) rfl ?_
      refine x_iload dX9_goes_71 rfl ?_
      refine x_iald dX9_goes_73 4 i rfl (rfl) (by omega) (by decide) ?_
      refine x_iload_n dX9_goes_74 rfl ?_
      refine x_iand dX9_goes_75 ?_
      refine x_rei (nI ((rowB i) &&& d)) (nI_iand (rowB i) d) ?_
      refine x_cVi0 dX9_goes_76 ml_X9_132 mX9_ones (ct_X9_ones κ.2.1 g aN aNs aNk aNf aNr aNp aNb aNa aNt aNbo aNsz aNnu aNl aNal aNlo aNw aNtr aNis aNbg aNow nts z1 z2 z4 (toH gr ki ma hd L sd) nkp z3 0 0 0 (wnI nnw nwn) ((rowB i) &&& d) (by first | exact and_lt (by decide) | exact and_ltl (rowB_lt _) | exact rowB_lt _ | omega)) [0, 5] rfl rfl 0 rfl rfl rfl (Nat.le_of_ble_eq_true rfl) (by decide) (Nat.le_refl _) (Nat.le_refl _) ?_
      refine x_iload dX9_goes_79 rfl ?_
      refine x_icmp_ne dX9_goes_81 (fun c81 => ?_) (fun c81 => ?_)
      · have c81 : ¬ ((nI (popN ((rowB i) &&& d))) = 4) := c81
        have c81n := mt (nI_eq (a := (popN ((rowB i) &&& d))) (b := 4) (by omega) (by omega)).mpr c81
        refine x_iconst 0 dX9_goes_94 (by decide) ?_
        refine x_iadd dX9_goes_95 ?_
        refine x_rei (nI ((winT (crH gr ki ma hd L sd) d i 4) + 0)) (nI_addc (winT (crH gr ki ma hd L sd) d i 4) 0 rfl) ?_
        refine x_istore (lv' := [some (.ref aN), some (.int (nI d)), some (.long (potL ru (nI (ru 7)).toInt64 (nI (toH gr ki ma hd L sd)).toInt64)), none, some (.int (nI (104 + (8 * wk)))), some (.long (potL ru (nI (ru 7)).toInt64 (nI (toH gr ki ma hd L sd)).toInt64)), none, some (.int 4), some (.int (nI ((winT (crH gr ki ma hd L sd) d i 4) + 0))), some (.int (nI i)), none]) dX9_goes_96 (xlt rfl) rfl ?_
        refine x_iinc (lv' := [some (.ref aN), some (.int (nI d)), some (.long (potL ru (nI (ru 7)).toInt64 (nI (toH gr ki ma hd L sd)).toInt64)), none, some (.int (nI (104 + (8 * wk)))), some (.long (potL ru (nI (ru 7)).toInt64 (nI (toH gr ki ma hd L sd)).toInt64)), none, some (.int 4), some (.int (nI ((winT (crH gr ki ma hd L sd) d i 4) + 0))), some (.int (nI (i + 1))), none]) (nI (i + 1)) dX9_goes_98 rfl (nI_addc i 1 rfl) rfl ?_
        refine x_goto dX9_goes_101 ?_
        exact ih56 (by omega) ((winT (crH gr ki ma hd L sd) d i 4) + 0) (by simp only [winT, sumN, if_pos (show 4 ≤ 4 by decide)]; first | rw [if_pos (by omega)] | rw [if_neg (by omega)])
      · have c81 : (nI (popN ((rowB i) &&& d))) = 4 := c81
        have c81n := (nI_eq (a := (popN ((rowB i) &&& d))) (b := 4) (by omega) (by omega)).mp c81
        refine x_aload_n dX9_goes_84 rfl ?_
        refine x_get dX9_goes_85 0 22 inX9 fl_X9_57 rfl rfl (by decide) rfl ?_
        refine x_iload dX9_goes_88 rfl ?_
        refine x_iald dX9_goes_90 7 i rfl (rfl) (by omega) (by decide) ?_
        refine x_goto dX9_goes_91 ?_
        refine x_iadd dX9_goes_95 ?_
        refine x_rei (nI ((winT (crH gr ki ma hd L sd) d i 4) + ((crH gr ki ma hd L sd) i))) (nI_iadd (winT (crH gr ki ma hd L sd) d i 4) ((crH gr ki ma hd L sd) i)) ?_
        refine x_istore (lv' := [some (.ref aN), some (.int (nI d)), some (.long (potL ru (nI (ru 7)).toInt64 (nI (toH gr ki ma hd L sd)).toInt64)), none, some (.int (nI (104 + (8 * wk)))), some (.long (potL ru (nI (ru 7)).toInt64 (nI (toH gr ki ma hd L sd)).toInt64)), none, some (.int 4), some (.int (nI ((winT (crH gr ki ma hd L sd) d i 4) + ((crH gr ki ma hd L sd) i)))), some (.int (nI i)), none]) dX9_goes_96 (xlt rfl) rfl ?_
        refine x_iinc (lv' := [some (.ref aN), some (.int (nI d)), some (.long (potL ru (nI (ru 7)).toInt64 (nI (toH gr ki ma hd L sd)).toInt64)), none, some (.int (nI (104 + (8 * wk)))), some (.long (potL ru (nI (ru 7)).toInt64 (nI (toH gr ki ma hd L sd)).toInt64)), none, some (.int 4), some (.int (nI ((winT (crH gr ki ma hd L sd) d i 4) + ((crH gr ki ma hd L sd) i)))), some (.int (nI (i + 1))), none]) (nI (i + 1)) dX9_goes_98 rfl (nI_addc i 1 rfl) rfl ?_
        refine x_goto dX9_goes_101 ?_
        exact ih56 (by omega) ((winT (crH gr ki ma hd L sd) d i 4) + ((crH gr ki ma hd L sd) i)) (by simp only [winT, sumN, if_pos (show 4 ≤ 4 by decide)]; first | rw [if_pos (by omega)] | rw [if_neg (by omega)])
  exact L56_7 0 (Nat.zero_le _) 0 (by simp [winT, sumN])

