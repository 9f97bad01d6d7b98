
-- == wk_1 ==
theorem dX9_works_0 : xd cX9_works 0 (.aload_n 0) 1 1 := ⟨by decide +kernel, rfl⟩
theorem dX9_works_1 : xd cX9_works 1 (.getfield 44) 3 4 := ⟨by decide +kernel, rfl⟩
theorem dX9_works_4 : xj cX9_works 4 (.ifCond .ne) 7 8 := ⟨4, by decide +kernel, rfl, by decide⟩
theorem dX9_works_7 : xd cX9_works 7 .return_ 1 8 := ⟨by decide +kernel, rfl⟩
theorem dX9_works_8 : xd cX9_works 8 (.aload_n 0) 1 9 := ⟨by decide +kernel, rfl⟩
theorem dX9_works_9 : xd cX9_works 9 (.iconst 0) 1 10 := ⟨by decide +kernel, rfl⟩
theorem dX9_works_10 : xd cX9_works 10 (.putfield 44) 3 13 := ⟨by decide +kernel, rfl⟩
theorem dX9_works_13 : xd cX9_works 13 (.aload_n 0) 1 14 := ⟨by decide +kernel, rfl⟩
theorem dX9_works_14 : xd cX9_works 14 (.iconst 1) 1 15 := ⟨by decide +kernel, rfl⟩
theorem dX9_works_15 : xd cX9_works 15 (.putfield 51) 3 18 := ⟨by decide +kernel, rfl⟩
theorem dX9_works_18 : xd cX9_works 18 (.iconst 0) 1 19 := ⟨by decide +kernel, rfl⟩
theorem dX9_works_19 : xd cX9_works 19 (.istore_n 1) 1 20 := ⟨by decide +kernel, rfl⟩
theorem dX9_works_20 : xd cX9_works 20 (.iload_n 1) 1 21 := ⟨by decide +kernel, rfl⟩
theorem dX9_works_21 : xd cX9_works 21 (.sipush 495) 3 24 := ⟨by decide +kernel, rfl⟩
theorem dX9_works_24 : xj cX9_works 24 (.if_icmp .ge) 27 86 := ⟨62, by decide +kernel, rfl, by decide⟩
theorem dX9_works_27 : xd cX9_works 27 (.aload_n 0) 1 28 := ⟨by decide +kernel, rfl⟩
theorem dX9_works_28 : xd cX9_works 28 (.getfield 48) 3 31 := ⟨by decide +kernel, rfl⟩
theorem dX9_works_31 : xj cX9_works 31 (.ifCond .eq) 34 86 := ⟨55, by decide +kernel, rfl, by decide⟩
theorem dX9_works_34 : xd cX9_works 34 (.aload_n 0) 1 35 := ⟨by decide +kernel, rfl⟩
theorem dX9_works_35 : xd cX9_works 35 (.getfield 7) 3 38 := ⟨by decide +kernel, rfl⟩
theorem dX9_works_38 : xd cX9_works 38 (.iconst 3) 1 39 := ⟨by decide +kernel, rfl⟩
theorem dX9_works_39 : xd cX9_works 39 .iaload 1 40 := ⟨by decide +kernel, rfl⟩
theorem dX9_works_40 : xd cX9_works 40 (.iconst 1) 1 41 := ⟨by decide +kernel, rfl⟩
theorem dX9_works_41 : xj cX9_works 41 (.if_icmp .ne) 44 52 := ⟨11, by decide +kernel, rfl, by decide⟩
theorem dX9_works_44 : xd cX9_works 44 (.aload_n 0) 1 45 := ⟨by decide +kernel, rfl⟩
theorem dX9_works_45 : xd cX9_works 45 (.iload_n 1) 1 46 := ⟨by decide +kernel, rfl⟩
theorem dX9_works_46 : xd cX9_works 46 (.invokevirtual 175) 3 49 := ⟨by decide +kernel, rfl⟩
theorem dX9_works_49 : xj cX9_works 49 .goto 52 53 := ⟨4, by decide +kernel, rfl, by decide⟩
theorem dX9_works_52 : xd cX9_works 52 (.iconst 1) 1 53 := ⟨by decide +kernel, rfl⟩
theorem dX9_works_53 : xd cX9_works 53 (.istore_n 2) 1 54 := ⟨by decide +kernel, rfl⟩
theorem dX9_works_54 : xd cX9_works 54 (.aload_n 0) 1 55 := ⟨by decide +kernel, rfl⟩
theorem dX9_works_55 : xd cX9_works 55 (.getfield 54) 3 58 := ⟨by decide +kernel, rfl⟩
theorem dX9_works_58 : xd cX9_works 58 (.iload_n 1) 1 59 := ⟨by decide +kernel, rfl⟩
theorem dX9_works_59 : xd cX9_works 59 (.iload_n 2) 1 60 := ⟨by decide +kernel, rfl⟩
theorem dX9_works_60 : xj cX9_works 60 (.ifCond .ge) 63 67 := ⟨7, by decide +kernel, rfl, by decide⟩
theorem dX9_works_63 : xd cX9_works 63 (.iconst 0) 1 64 := ⟨by decide +kernel, rfl⟩
theorem dX9_works_64 : xj cX9_works 64 .goto 67 79 := ⟨15, by decide +kernel, rfl, by decide⟩
theorem dX9_works_67 : xd cX9_works 67 (.iload_n 2) 1 68 := ⟨by decide +kernel, rfl⟩
theorem dX9_works_68 : xd cX9_works 68 (.bipush 99) 2 70 := ⟨by decide +kernel, rfl⟩
theorem dX9_works_70 : xj cX9_works 70 (.if_icmp .le) 73 78 := ⟨8, by decide +kernel, rfl, by decide⟩
theorem dX9_works_73 : xd cX9_works 73 (.bipush 99) 2 75 := ⟨by decide +kernel, rfl⟩
theorem dX9_works_75 : xj cX9_works 75 .goto 78 79 := ⟨4, by decide +kernel, rfl, by decide⟩
theorem dX9_works_78 : xd cX9_works 78 (.iload_n 2) 1 79 := ⟨by decide +kernel, rfl⟩
theorem dX9_works_79 : xd cX9_works 79 .iastore 1 80 := ⟨by decide +kernel, rfl⟩
theorem dX9_works_80 : xd cX9_works 80 (.iinc 1 1) 3 83 := ⟨by decide +kernel, rfl⟩
theorem dX9_works_83 : xj cX9_works 83 .goto 86 20 := ⟨(-63), by decide +kernel, rfl, by decide⟩
theorem dX9_works_86 : xd cX9_works 86 (.aload_n 0) 1 87 := ⟨by decide +kernel, rfl⟩
theorem dX9_works_87 : xd cX9_works 87 (.iconst 0) 1 88 := ⟨by decide +kernel, rfl⟩
theorem dX9_works_88 : xd cX9_works 88 (.putfield 48) 3 91 := ⟨by decide +kernel, rfl⟩
theorem dX9_works_91 : xd cX9_works 91 (.aload_n 0) 1 92 := ⟨by decide +kernel, rfl⟩
theorem dX9_works_92 : xd cX9_works 92 (.iconst 0) 1 93 := ⟨by decide +kernel, rfl⟩
theorem dX9_works_93 : xd cX9_works 93 (.putfield 192) 3 96 := ⟨by decide +kernel, rfl⟩
theorem dX9_works_96 : xd cX9_works 96 (.iconst 0) 1 97 := ⟨by decide +kernel, rfl⟩
theorem dX9_works_97 : xd cX9_works 97 (.istore_n 1) 1 98 := ⟨by decide +kernel, rfl⟩
theorem dX9_works_98 : xd cX9_works 98 (.iload_n 1) 1 99 := ⟨by decide +kernel, rfl⟩
theorem dX9_works_99 : xd cX9_works 99 (.sipush 495) 3 102 := ⟨by decide +kernel, rfl⟩
theorem dX9_works_102 : xj cX9_works 102 (.if_icmp .ge) 105 127 := ⟨25, by decide +kernel, rfl, by decide⟩
theorem dX9_works_105 : xd cX9_works 105 (.aload_n 0) 1 106 := ⟨by decide +kernel, rfl⟩
theorem dX9_works_106 : xd cX9_works 106 (.getfield 57) 3 109 := ⟨by decide +kernel, rfl⟩
theorem dX9_works_109 : xd cX9_works 109 (.iload_n 1) 1 110 := ⟨by decide +kernel, rfl⟩
theorem dX9_works_110 : xd cX9_works 110 (.aload_n 0) 1 111 := ⟨by decide +kernel, rfl⟩
theorem dX9_works_111 : xd cX9_works 111 (.getfield 7) 3 114 := ⟨by decide +kernel, rfl⟩
theorem dX9_works_114 : xd cX9_works 114 (.sipush 424) 3 117 := ⟨by decide +kernel, rfl⟩
theorem dX9_works_117 : xd cX9_works 117 (.iload_n 1) 1 118 := ⟨by decide +kernel, rfl⟩
theorem dX9_works_118 : xd cX9_works 118 .iadd 1 119 := ⟨by decide +kernel, rfl⟩
theorem dX9_works_119 : xd cX9_works 119 .iaload 1 120 := ⟨by decide +kernel, rfl⟩
theorem dX9_works_120 : xd cX9_works 120 .iastore 1 121 := ⟨by decide +kernel, rfl⟩
theorem dX9_works_121 : xd cX9_works 121 (.iinc 1 1) 3 124 := ⟨by decide +kernel, rfl⟩
theorem dX9_works_124 : xj cX9_works 124 .goto 127 98 := ⟨(-26), by decide +kernel, rfl, by decide⟩
theorem dX9_works_127 : xd cX9_works 127 (.iconst 0) 1 128 := ⟨by decide +kernel, rfl⟩
theorem dX9_works_128 : xd cX9_works 128 (.istore_n 1) 1 129 := ⟨by decide +kernel, rfl⟩
theorem dX9_works_129 : xd cX9_works 129 (.iload_n 1) 1 130 := ⟨by decide +kernel, rfl⟩
theorem dX9_works_130 : xd cX9_works 130 (.aload_n 0) 1 131 := ⟨by decide +kernel, rfl⟩
theorem dX9_works_131 : xd cX9_works 131 (.getfield 7) 3 134 := ⟨by decide +kernel, rfl⟩
theorem dX9_works_134 : xd cX9_works 134 (.iconst 0) 1 135 := ⟨by decide +kernel, rfl⟩
theorem dX9_works_135 : xd cX9_works 135 .iaload 1 136 := ⟨by decide +kernel, rfl⟩
theorem dX9_works_136 : xj cX9_works 136 (.if_icmp .ge) 139 212 := ⟨76, by decide +kernel, rfl, by decide⟩
theorem dX9_works_139 : xd cX9_works 139 (.aload_n 0) 1 140 := ⟨by decide +kernel, rfl⟩
theorem dX9_works_140 : xd cX9_works 140 (.getfield 60) 3 143 := ⟨by decide +kernel, rfl⟩
theorem dX9_works_143 : xd cX9_works 143 (.iload_n 1) 1 144 := ⟨by decide +kernel, rfl⟩
theorem dX9_works_144 : xd cX9_works 144 (.iconst 0) 1 145 := ⟨by decide +kernel, rfl⟩
theorem dX9_works_145 : xd cX9_works 145 .iastore 1 146 := ⟨by decide +kernel, rfl⟩
theorem dX9_works_146 : xd cX9_works 146 (.iconst 0) 1 147 := ⟨by decide +kernel, rfl⟩
theorem dX9_works_147 : xd cX9_works 147 (.istore_n 2) 1 148 := ⟨by decide +kernel, rfl⟩
theorem dX9_works_148 : xd cX9_works 148 (.iload_n 2) 1 149 := ⟨by decide +kernel, rfl⟩
theorem dX9_works_149 : xd cX9_works 149 (.sipush 495) 3 152 := ⟨by decide +kernel, rfl⟩
theorem dX9_works_152 : xj cX9_works 152 (.if_icmp .ge) 155 176 := ⟨24, by decide +kernel, rfl, by decide⟩
theorem dX9_works_155 : xd cX9_works 155 (.aload_n 0) 1 156 := ⟨by decide +kernel, rfl⟩
theorem dX9_works_156 : xd cX9_works 156 (.getfield 60) 3 159 := ⟨by decide +kernel, rfl⟩
theorem dX9_works_159 : xd cX9_works 159 (.iload_n 1) 1 160 := ⟨by decide +kernel, rfl⟩
theorem dX9_works_160 : xd cX9_works 160 .dup2 1 161 := ⟨by decide +kernel, rfl⟩
theorem dX9_works_161 : xd cX9_works 161 .iaload 1 162 := ⟨by decide +kernel, rfl⟩
theorem dX9_works_162 : xd cX9_works 162 (.aload_n 0) 1 163 := ⟨by decide +kernel, rfl⟩
theorem dX9_works_163 : xd cX9_works 163 (.iload_n 1) 1 164 := ⟨by decide +kernel, rfl⟩
theorem dX9_works_164 : xd cX9_works 164 (.iload_n 2) 1 165 := ⟨by decide +kernel, rfl⟩
theorem dX9_works_165 : xd cX9_works 165 (.invokevirtual 188) 3 168 := ⟨by decide +kernel, rfl⟩
theorem dX9_works_168 : xd cX9_works 168 .iadd 1 169 := ⟨by decide +kernel, rfl⟩
theorem dX9_works_169 : xd cX9_works 169 .iastore 1 170 := ⟨by decide +kernel, rfl⟩
theorem dX9_works_170 : xd cX9_works 170 (.iinc 2 1) 3 173 := ⟨by decide +kernel, rfl⟩
theorem dX9_works_173 : xj cX9_works 173 .goto 176 148 := ⟨(-25), by decide +kernel, rfl, by decide⟩
theorem dX9_works_176 : xd cX9_works 176 (.iconst 0) 1 177 := ⟨by decide +kernel, rfl⟩
theorem dX9_works_177 : xd cX9_works 177 (.istore_n 2) 1 178 := ⟨by decide +kernel, rfl⟩
theorem dX9_works_178 : xd cX9_works 178 (.iload_n 2) 1 179 := ⟨by decide +kernel, rfl⟩
theorem dX9_works_179 : xd cX9_works 179 (.sipush 495) 3 182 := ⟨by decide +kernel, rfl⟩
theorem dX9_works_182 : xj cX9_works 182 (.if_icmp .ge) 185 206 := ⟨24, by decide +kernel, rfl, by decide⟩
theorem dX9_works_185 : xd cX9_works 185 (.aload_n 0) 1 186 := ⟨by decide +kernel, rfl⟩
theorem dX9_works_186 : xd cX9_works 186 (.getfield 57) 3 189 := ⟨by decide +kernel, rfl⟩
theorem dX9_works_189 : xd cX9_works 189 (.iload_n 2) 1 190 := ⟨by decide +kernel, rfl⟩
theorem dX9_works_190 : xd cX9_works 190 .dup2 1 191 := ⟨by decide +kernel, rfl⟩
theorem dX9_works_191 : xd cX9_works 191 .iaload 1 192 := ⟨by decide +kernel, rfl⟩
theorem dX9_works_192 : xd cX9_works 192 (.aload_n 0) 1 193 := ⟨by decide +kernel, rfl⟩
theorem dX9_works_193 : xd cX9_works 193 (.iload_n 1) 1 194 := ⟨by decide +kernel, rfl⟩
theorem dX9_works_194 : xd cX9_works 194 (.iload_n 2) 1 195 := ⟨by decide +kernel, rfl⟩
theorem dX9_works_195 : xd cX9_works 195 (.invokevirtual 195) 3 198 := ⟨by decide +kernel, rfl⟩
theorem dX9_works_198 : xd cX9_works 198 .iadd 1 199 := ⟨by decide +kernel, rfl⟩
theorem dX9_works_199 : xd cX9_works 199 .iastore 1 200 := ⟨by decide +kernel, rfl⟩
theorem dX9_works_200 : xd cX9_works 200 (.iinc 2 1) 3 203 := ⟨by decide +kernel, rfl⟩
theorem dX9_works_203 : xj cX9_works 203 .goto 206 178 := ⟨(-25), by decide +kernel, rfl, by decide⟩
theorem dX9_works_206 : xd cX9_works 206 (.iinc 1 1) 3 209 := ⟨by decide +kernel, rfl⟩
theorem dX9_works_209 : xj cX9_works 209 .goto 212 129 := ⟨(-80), by decide +kernel, rfl, by decide⟩
theorem dX9_works_212 : xd cX9_works 212 (.iconst 0) 1 213 := ⟨by decide +kernel, rfl⟩
theorem dX9_works_213 : xd cX9_works 213 (.istore_n 1) 1 214 := ⟨by decide +kernel, rfl⟩
theorem dX9_works_214 : xd cX9_works 214 (.iload_n 1) 1 215 := ⟨by decide +kernel, rfl⟩
theorem dX9_works_215 : xd cX9_works 215 (.sipush 495) 3 218 := ⟨by decide +kernel, rfl⟩
theorem dX9_works_218 : xj cX9_works 218 (.if_icmp .ge) 221 242 := ⟨24, by decide +kernel, rfl, by decide⟩
theorem dX9_works_221 : xd cX9_works 221 (.aload_n 0) 1 222 := ⟨by decide +kernel, rfl⟩
theorem dX9_works_222 : xd cX9_works 222 .dup 1 223 := ⟨by decide +kernel, rfl⟩
theorem dX9_works_223 : xd cX9_works 223 (.getfield 192) 3 226 := ⟨by decide +kernel, rfl⟩
theorem dX9_works_226 : xd cX9_works 226 (.aload_n 0) 1 227 := ⟨by decide +kernel, rfl⟩
theorem dX9_works_227 : xd cX9_works 227 (.getfield 57) 3 230 := ⟨by decide +kernel, rfl⟩
theorem dX9_works_230 : xd cX9_works 230 (.iload_n 1) 1 231 := ⟨by decide +kernel, rfl⟩
theorem dX9_works_231 : xd cX9_works 231 .iaload 1 232 := ⟨by decide +kernel, rfl⟩
theorem dX9_works_232 : xd cX9_works 232 .iadd 1 233 := ⟨by decide +kernel, rfl⟩
theorem dX9_works_233 : xd cX9_works 233 (.putfield 192) 3 236 := ⟨by decide +kernel, rfl⟩
theorem dX9_works_236 : xd cX9_works 236 (.iinc 1 1) 3 239 := ⟨by decide +kernel, rfl⟩
theorem dX9_works_239 : xj cX9_works 239 .goto 242 214 := ⟨(-25), by decide +kernel, rfl, by decide⟩
theorem dX9_works_242 : xd cX9_works 242 .return_ 1 243 := ⟨by decide +kernel, rfl⟩

set_option maxRecDepth 100000 in
set_option maxHeartbeats 4000000 in
theorem ct_wk_1 (l : Launch) (g : XG) (aN aNs aNk aNf aNr aNp aNb aNa aNt aNbo aNsz aNnu aNl aNal aNlo aNw aNtr aNis aNbg aNow nts nta nop npr nac : Nat) (nkp nbd nwn : Int32) (gr wk lk sz br : Nat) (z : Int32) (ru ki ma bb hd : Nat → Nat) (ce : Nat → Int32) (tb nli nal nlo sd : Nat → Nat) (L : Nat) (hgr : gr ≤ 12) (hki : ∀ j, ki j ≤ 7) (hma : ∀ j, ma j ≤ 99999) (hwk : wk ≤ 40) (hlat : latI ce wk = nI L) (hL : L < 4096) (hsz : sz ≤ 60) (hbb : ∀ j, bb j < 256) (hsd : ∀ p, sd p ≤ 99) (hsv : ∀ p, p < 495 → sd p = if lk = 1 then clN (txV bb sz wk L p) else 1) (hlk : lk ≤ 1) : Ct l g 27 0 0 yX9_works cX9_works 3 none [.ref aN] [(aN, .inr (9, [.ref aNs, .ref aNk, .int nkp, .ref aNf, .ref aNr, .ref aNp, .ref aNb, .ref aNa, .ref aNt, .int (nI nts), .ref aNbo, .ref aNsz, .ref aNnu, .int (nI nta), .int (nI nop), .int nbd, .int 0, .int (nI npr), .int 1, .int 1, .int nwn, .ref aNl, .ref aNal, .ref aNlo, .int (nI nac), .ref aNw, .ref aNtr, .ref aNis, .ref aNbg, .ref aNow])), (aNs, .inl (g.2.1 0, 919, .inl (msF gr wk z lk sz br ru ki ma bb ce hd))), (aNt, .inl (g.2.1 0, 60, .inl (nIf tb))), (aNa, .inl (g.2.1 0, 2475, .inl (nIf fcN))), (aNr, .inl (g.2.1 0, 495, .inl (nIf rowB))), (aNb, .inl (g.2.1 0, 4096, .inl (nIf popN))), (aNl, .inl (g.2.1 0, 495, .inl (nIf nli))), (aNal, .inl (g.2.1 0, 495, .inl (nIf nal))), (aNlo, .inl (g.2.1 0, 12, .inl (nIf nlo)))] (fun vv_ ww_ => ∃ (zat : Nat) (zop : Nat) (zbd : Int32) (zpr : Nat) (lo2 : Nat → Nat), vv_ = none ∧ ww_ = [(aN, .inr (9, [.ref aNs, .ref aNk, .int nkp, .ref aNf, .ref aNr, .ref aNp, .ref aNb, .ref aNa, .ref aNt, .int (nI nts), .ref aNbo, .ref aNsz, .ref aNnu, .int (nI zat), .int (nI zop), .int zbd, .int 0, .int (nI zpr), .int 0, .int 0, .int 1, .ref aNl, .ref aNal, .ref aNlo, .int (nI (toH gr ki ma hd L sd)), .ref aNw, .ref aNtr, .ref aNis, .ref aNbg, .ref aNow])), (aNs, .inl (g.2.1 0, 919, .inl (msF gr wk z lk sz br ru ki ma bb ce hd))), (aNt, .inl (g.2.1 0, 60, .inl (nIf tb))), (aNa, .inl (g.2.1 0, 2475, .inl (nIf fcN))), (aNr, .inl (g.2.1 0, 495, .inl (nIf rowB))), (aNb, .inl (g.2.1 0, 4096, .inl (nIf popN))), (aNl, .inl (g.2.1 0, 495, .inl (nIf sd))), (aNal, .inl (g.2.1 0, 495, .inl (nIf (crH gr ki ma hd L sd)))), (aNlo, .inl (g.2.1 0, 12, .inl (nIf lo2)))] ∧ (∀ q, q < gr → lo2 q = laN (ki q) (ma q) L sd)) := by
  refine Ct.ofX (lv := [some (.ref aN), none, none]) (by decide) rfl (Nat.le_of_ble_eq_true rfl) (fun κ => ?_)
  generalize hQ : xQ κ g 0 0 _ = Q
  refine x_aload_n dX9_works_0 rfl ?_
  refine x_get dX9_works_1 0 18 inX9 fl_X9_44 rfl rfl (by decide) rfl ?_
  refine x_if_ne dX9_works_4 (fun c4 => ?_) (fun c4 => ?_)
  rotate_left
  · exact absurd c4 (by decide)
  refine x_aload_n dX9_works_8 rfl ?_
  refine x_iconst 0 dX9_works_9 (by decide) ?_
  refine x_put (ws' := [(aN, .inr (9, [.ref aNs, .ref aNk, .int nkp, .ref aNf, .ref aNr, .ref aNp, .ref aNb, .ref aNa, .ref aNt, .int (nI nts), .ref aNbo, .ref aNsz, .ref aNnu, .int (nI nta), .int (nI nop), .int nbd, .int 0, .int (nI npr), .int 0, .int 1, .int nwn, .ref aNl, .ref aNal, .ref aNlo, .int (nI nac), .ref aNw, .ref aNtr, .ref aNis, .ref aNbg, .ref aNow])), (aNs, .inl (g.2.1 0, 919, .inl (msF gr wk z lk sz br ru ki ma bb ce hd))), (aNt, .inl (g.2.1 0, 60, .inl (nIf tb))), (aNa, .inl (g.2.1 0, 2475, .inl (nIf fcN))), (aNr, .inl (g.2.1 0, 495, .inl (nIf rowB))), (aNb, .inl (g.2.1 0, 4096, .inl (nIf popN))), (aNl, .inl (g.2.1 0, 495, .inl (nIf nli))), (aNal, .inl (g.2.1 0, 495, .inl (nIf nal))), (aNlo, .inl (g.2.1 0, 12, .inl (nIf nlo)))]) dX9_works_10 0 18 inX9 tyX9_ok nmX9 fl_X9_44 rfl rfl (by decide) rfl (rfl) rfl (xlt rfl) rfl ?_
  refine x_aload_n dX9_works_13 rfl ?_
  refine x_iconst 1 dX9_works_14 (by decide) ?_
  refine x_put (ws' := [(aN, .inr (9, [.ref aNs, .ref aNk, .int nkp, .ref aNf, .ref aNr, .ref aNp, .ref aNb, .ref aNa, .ref aNt, .int (nI nts), .ref aNbo, .ref aNsz, .ref aNnu, .int (nI nta), .int (nI nop), .int nbd, .int 0, .int (nI npr), .int 0, .int 1, .int 1, .ref aNl, .ref aNal, .ref aNlo, .int (nI nac), .ref aNw, .ref aNtr, .ref aNis, .ref aNbg, .ref aNow])), (aNs, .inl (g.2.1 0, 919, .inl (msF gr wk z lk sz br ru ki ma bb ce hd))), (aNt, .inl (g.2.1 0, 60, .inl (nIf tb))), (aNa, .inl (g.2.1 0, 2475, .inl (nIf fcN))), (aNr, .inl (g.2.1 0, 495, .inl (nIf rowB))), (aNb, .inl (g.2.1 0, 4096, .inl (nIf popN))), (aNl, .inl (g.2.1 0, 495, .inl (nIf nli))), (aNal, .inl (g.2.1 0, 495, .inl (nIf nal))), (aNlo, .inl (g.2.1 0, 12, .inl (nIf nlo)))]) dX9_works_15 0 20 inX9 tyX9_ok nmX9 fl_X9_51 rfl rfl (by decide) rfl (rfl) rfl (xlt rfl) rfl ?_
  refine x_iconst 0 dX9_works_18 (by decide) ?_
  refine x_istore_n (lv' := [some (.ref aN), some (.int 0), none]) dX9_works_19 (xlt rfl) rfl ?_
  have L20_1 : ∀ (i : Nat), i ≤ 495 → ∀ (qat : Nat), ∀ (qop : Nat), ∀ (qbd : Int32), ∀ (qpr : Nat), ∀ (lf : Nat → Nat), lf = fillT i sd nli → Xs κ g 27 0 0 cX9_works yX9_works none Q 0 0 20 [some (.ref aN), some (.int (nI i)), none] [] [(aN, .inr (9, [.ref aNs, .ref aNk, .int nkp, .ref aNf, .ref aNr, .ref aNp, .ref aNb, .ref aNa, .ref aNt, .int (nI nts), .ref aNbo, .ref aNsz, .ref aNnu, .int (nI qat), .int (nI qop), .int qbd, .int 0, .int (nI qpr), .int 0, .int 1, .int 1, .ref aNl, .ref aNal, .ref aNlo, .int (nI nac), .ref aNw, .ref aNtr, .ref aNis, .ref aNbg, .ref aNow])), (aNs, .inl (g.2.1 0, 919, .inl (msF gr wk z lk sz br ru ki ma bb ce hd))), (aNt, .inl (g.2.1 0, 60, .inl (nIf tb))), (aNa, .inl (g.2.1 0, 2475, .inl (nIf fcN))), (aNr, .inl (g.2.1 0, 495, .inl (nIf rowB))), (aNb, .inl (g.2.1 0, 4096, .inl (nIf popN))), (aNl, .inl (g.2.1 0, 495, .inl (nIf lf))), (aNal, .inl (g.2.1 0, 495, .inl (nIf nal))), (aNlo, .inl (g.2.1 0, 12, .inl (nIf nlo)))] := by
    refine upTo 495 (fun i hi20 ih20 => ?_)
    intro qat
    intro qop
    intro qbd
    intro qpr
    intro lf elf
    subst elf
    refine x_iload_n dX9_works_20 rfl ?_
    refine x_sipush 495 dX9_works_21 (by decide) ?_
    refine x_icmp_ge dX9_works_24 (fun c24 => ?_) (fun c24 => ?_)
    · have c24 : 495 ≤ (nI i) := c24
      have c24n := (nI_leI (a := 495) (b := i) (by omega) (by omega)).mp c24
      have hxc24 : i = 495 := by omega
      try rw [hxc24]
      refine x_funi (ws' := [(aN, .inr (9, [.ref aNs, .ref aNk, .int nkp, .ref aNf, .ref aNr, .ref aNp, .ref aNb, .ref aNa, .ref aNt, .int (nI nts), .ref aNbo, .ref aNsz, .ref aNnu, .int (nI qat), .int (nI qop), .int qbd, .int 0, .int (nI qpr), .int 0, .int 1, .int 1, .ref aNl, .ref aNal, .ref aNlo, .int (nI nac), .ref aNw, .ref aNtr, .ref aNis, .ref aNbg, .ref aNow])), (aNs, .inl (g.2.1 0, 919, .inl (msF gr wk z lk sz br ru ki ma bb ce hd))), (aNt, .inl (g.2.1 0, 60, .inl (nIf tb))), (aNa, .inl (g.2.1 0, 2475, .inl (nIf fcN))), (aNr, .inl (g.2.1 0, 495, .inl (nIf rowB))), (aNb, .inl (g.2.1 0, 4096, .inl (nIf popN))), (aNl, .inl (g.2.1 0, 495, .inl (nIf sd))), (aNal, .inl (g.2.1 0, 495, .inl (nIf nal))), (aNlo, .inl (g.2.1 0, 12, .inl (nIf nlo)))]) (q0 := 6) rfl (fun j hj => congrArg nI (fillT_in _ _ hj)) rfl ?_
      refine x_aload_n dX9_works_86 rfl ?_
      refine x_iconst 0 dX9_works_87 (by decide) ?_
      refine x_put (ws' := [(aN, .inr (9, [.ref aNs, .ref aNk, .int nkp, .ref aNf, .ref aNr, .ref aNp, .ref aNb, .ref aNa, .ref aNt, .int (nI nts), .ref aNbo, .ref aNsz, .ref aNnu, .int (nI qat), .int (nI qop), .int qbd, .int 0, .int (nI qpr), .int 0, .int 0, .int 1, .ref aNl, .ref aNal, .ref aNlo, .int (nI nac), .ref aNw, .ref aNtr, .ref aNis, .ref aNbg, .ref aNow])), (aNs, .inl (g.2.1 0, 919, .inl (msF gr wk z lk sz br ru ki ma bb ce hd))), (aNt, .inl (g.2.1 0, 60, .inl (nIf tb))), (aNa, .inl (g.2.1 0, 2475, .inl (nIf fcN))), (aNr, .inl (g.2.1 0, 495, .inl (nIf rowB))), (aNb, .inl (g.2.1 0, 4096, .inl (nIf popN))), (aNl, .inl (g.2.1 0, 495, .inl (nIf sd))), (aNal, .inl (g.2.1 0, 495, .inl (nIf nal))), (aNlo, .inl (g.2.1 0, 12, .inl (nIf nlo)))]) dX9_works_88 0 19 inX9 tyX9_ok nmX9 fl_X9_48 rfl rfl (by decide) rfl (rfl) rfl (xlt rfl) rfl ?_
      refine x_aload_n dX9_works_91 rfl ?_
      refine x_iconst 0 dX9_works_92 (by decide) ?_
      refine x_put (ws' := [(aN, .inr (9, [.ref aNs, .ref aNk, .int nkp, .ref aNf, .ref aNr, .ref aNp, .ref aNb, .ref aNa, .ref aNt, .int (nI nts), .ref aNbo, .ref aNsz, .ref aNnu, .int (nI qat), .int (nI qop), .int qbd, .int 0, .int (nI qpr), .int 0, .int 0, .int 1, .ref aNl, .ref aNal, .ref aNlo, .int 0, .ref aNw, .ref aNtr, .ref aNis, .ref aNbg, .ref aNow])), (aNs, .inl (g.2.1 0, 919, .inl (msF gr wk z lk sz br ru ki ma bb ce hd))), (aNt, .inl (g.2.1 0, 60, .inl (nIf tb))), (aNa, .inl (g.2.1 0, 2475, .inl (nIf fcN))), (aNr, .inl (g.2.1 0, 495, .inl (nIf rowB))), (aNb, .inl (g.2.1 0, 4096, .inl (nIf popN))), (aNl, .inl (g.2.1 0, 495, .inl (nIf sd))), (aNal, .inl (g.2.1 0, 495, .inl (nIf nal))), (aNlo, .inl (g.2.1 0, 12, .inl (nIf nlo)))]) dX9_works_93 0 24 inX9 tyX9_ok nmX9 fl_X9_192 rfl rfl (by decide) rfl (rfl) rfl (xlt rfl) rfl ?_
      refine x_iconst 0 dX9_works_96 (by decide) ?_
      refine x_istore_n (lv' := [some (.ref aN), some (.int 0), none]) dX9_works_97 (xlt rfl) rfl ?_
      have L98_2 : ∀ (i : Nat), i ≤ 495 → ∀ (af : Nat → Nat), af = fillT i (crH 0 ki ma hd L sd) nal → Xs κ g 27 0 0 cX9_works yX9_works none Q 0 0 98 [some (.ref aN), some (.int (nI i)), none] [] [(aN, .inr (9, [.ref aNs, .ref aNk, .int nkp, .ref aNf, .ref aNr, .ref aNp, .ref aNb, .ref aNa, .ref aNt, .int (nI nts), .ref aNbo, .ref aNsz, .ref aNnu, .int (nI qat), .int (nI qop), .int qbd, .int 0, .int (nI qpr), .int 0, .int 0, .int 1, .ref aNl, .ref aNal, .ref aNlo, .int 0, .ref aNw, .ref aNtr, .ref aNis, .ref aNbg, .ref aNow])), (aNs, .inl (g.2.1 0, 919, .inl (msF gr wk z lk sz br ru ki ma bb ce hd))), (aNt, .inl (g.2.1 0, 60, .inl (nIf tb))), (aNa, .inl (g.2.1 0, 2475, .inl (nIf fcN))), (aNr, .inl (g.2.1 0, 495, .inl (nIf rowB))), (aNb, .inl (g.2.1 0, 4096, .inl (nIf popN))), (aNl, .inl (g.2.1 0, 495, .inl (nIf sd))), (aNal, .inl (g.2.1 0, 495, .inl (nIf af))), (aNlo, .inl (g.2.1 0, 12, .inl (nIf nlo)))] := by
        refine upTo 495 (fun i hi98 ih98 => ?_)
        intro af eaf
        subst eaf
        refine x_iload_n dX9_works_98 rfl ?_
        refine x_sipush 495 dX9_works_99 (by decide) ?_
        refine x_icmp_ge dX9_works_102 (fun c102 => ?_) (fun c102 => ?_)
        · have c102 : 495 ≤ (nI i) := c102
          have c102n := (nI_leI (a := 495) (b := i) (by omega) (by omega)).mp c102
          have hxc102 : i = 495 := by omega
          try rw [hxc102]
          refine x_funi (ws' := [(aN, .inr (9, [.ref aNs, .ref aNk, .int nkp, .ref aNf, .ref aNr, .ref aNp, .ref aNb, .ref aNa, .ref aNt, .int (nI nts), .ref aNbo, .ref aNsz, .ref aNnu, .int (nI qat), .int (nI qop), .int qbd, .int 0, .int (nI qpr), .int 0, .int 0, .int 1, .ref aNl, .ref aNal, .ref aNlo, .int 0, .ref aNw, .ref aNtr, .ref aNis, .ref aNbg, .ref aNow])), (aNs, .inl (g.2.1 0, 919, .inl (msF gr wk z lk sz br ru ki ma bb ce hd))), (aNt, .inl (g.2.1 0, 60, .inl (nIf tb))), (aNa, .inl (g.2.1 0, 2475, .inl (nIf fcN))), (aNr, .inl (g.2.1 0, 495, .inl (nIf rowB))), (aNb, .inl (g.2.1 0, 4096, .inl (nIf popN))), (aNl, .inl (g.2.1 0, 495, .inl (nIf sd))), (aNal, .inl (g.2.1 0, 495, .inl (nIf (crH 0 ki ma hd L sd)))), (aNlo, .inl (g.2.1 0, 12, .inl (nIf nlo)))]) (q0 := 7) rfl (fun j hj => congrArg nI (fillT_in _ _ hj)) rfl ?_
          refine x_iconst 0 dX9_works_127 (by decide) ?_
          refine x_istore_n (lv' := [some (.ref aN), some (.int 0), none]) dX9_works_128 (xlt rfl) rfl ?_
          have L129_3 : ∀ (u : Nat), u ≤ gr → ∀ (ag : Nat → Nat), ag = crH u ki ma hd L sd → ∀ (lg : Nat → Nat), lg = fillT u (fun q => laN (ki q) (ma q) L sd) nlo → Xs κ g 27 0 0 cX9_works yX9_works none Q 0 0 129 [some (.ref aN), some (.int (nI u)), none] [] [(aN, .inr (9, [.ref aNs, .ref aNk, .int nkp, .ref aNf, .ref aNr, .ref aNp, .ref aNb, .ref aNa, .ref aNt, .int (nI nts), .ref aNbo, .ref aNsz, .ref aNnu, .int (nI qat), .int (nI qop), .int qbd, .int 0, .int (nI qpr), .int 0, .int 0, .int 1, .ref aNl, .ref aNal, .ref aNlo, .int 0, .ref aNw, .ref aNtr, .ref aNis, .ref aNbg, .ref aNow])), (aNs, .inl (g.2.1 0, 919, .inl (msF gr wk z lk sz br ru ki ma bb ce hd))), (aNt, .inl (g.2.1 0, 60, .inl (nIf tb))), (aNa, .inl (g.2.1 0, 2475, .inl (nIf fcN))), (aNr, .inl (g.2.1 0, 495, .inl (nIf rowB))), (aNb, .inl (g.2.1 0, 4096, .inl (nIf popN))), (aNl, .inl (g.2.1 0, 495, .inl (nIf sd))), (aNal, .inl (g.2.1 0, 495, .inl (nIf ag))), (aNlo, .inl (g.2.1 0, 12, .inl (nIf lg)))] := by
            refine upTo gr (fun u hi129 ih129 => ?_)
            intro ag eag
            subst eag
            intro lg elg
            subst elg
            refine x_iload_n dX9_works_129 rfl ?_
            refine x_aload_n dX9_works_130 rfl ?_
            refine x_get dX9_works_131 0 0 inX9 fl_X9_7 rfl rfl (by decide) rfl ?_
            refine x_iconst 0 dX9_works_134 (by decide) ?_
            refine x_iald dX9_works_135 1 0 rfl (rfl) (by decide) (by decide) ?_
            refine x_rei (nI gr) (rfl) ?_
            refine x_icmp_ge dX9_works_136 (fun c136 => ?_) (fun c136 => ?_)
            · have c136 : (nI gr) ≤ (nI u) := c136
              have c136n := (nI_leI (a := gr) (b := u) (by omega) (by omega)).mp c136
              have hxc136 : u = gr := by omega
              try rw [hxc136]
              refine x_iconst 0 dX9_works_212 (by decide) ?_
              refine x_istore_n (lv' := [some (.ref aN), some (.int 0), none]) dX9_works_213 (xlt rfl) rfl ?_
              have L214_4 : ∀ (i : Nat), i ≤ 495 → ∀ (tt : Nat), tt = sumN (crH gr ki ma hd L sd) i → Xs κ g 27 0 0 cX9_works yX9_works none Q 0 0 214 [some (.ref aN), some (.int (nI i)), none] [] [(aN, .inr (9, [.ref aNs, .ref aNk, .int nkp, .ref aNf, .ref aNr, .ref aNp, .ref aNb, .ref aNa, .ref aNt, .int (nI nts), .ref aNbo, .ref aNsz, .ref aNnu, .int (nI qat), .int (nI qop), .int qbd, .int 0, .int (nI qpr), .int 0, .int 0, .int 1, .ref aNl, .ref aNal, .ref aNlo, .int (nI tt), .ref aNw, .ref aNtr, .ref aNis, .ref aNbg, .ref aNow])), (aNs, .inl (g.2.1 0, 919, .inl (msF gr wk z lk sz br ru ki ma bb ce hd))), (aNt, .inl (g.2.1 0, 60, .inl (nIf tb))), (aNa, .inl (g.2.1 0, 2475, .inl (nIf fcN))), (aNr, .inl (g.2.1 0, 495, .inl (nIf rowB))), (aNb, .inl (g.2.1 0, 4096, .inl (nIf popN))), (aNl, .inl (g.2.1 0, 495, .inl (nIf sd))), (aNal, .inl (g.2.1 0, 495, .inl (nIf (crH gr ki ma hd L sd)))), (aNlo, .inl (g.2.1 0, 12, .inl (nIf (fillT gr (fun q => laN (ki q) (ma q) L sd) nlo))))] := by
                refine upTo 495 (fun i hi214 ih214 => ?_)
                intro tt ett
                subst ett
                refine x_iload_n dX9_works_214 rfl ?_
                refine x_sipush 495 dX9_works_215 (by decide) ?_
                refine x_icmp_ge dX9_works_218 (fun c218 => ?_) (fun c218 => ?_)
                · have c218 : 495 ≤ (nI i) := c218
                  have c218n := (nI_leI (a := 495) (b := i) (by omega) (by omega)).mp c218
                  have hxc218 : i = 495 := by omega
                  try rw [hxc218]
                  rw [← hQ]
                  refine x_vret dX9_works_242 rfl (Nat.le_of_ble_eq_true rfl) (Nat.le_of_ble_eq_true rfl) ?_
                  exact ⟨_, _, _, _, _, rfl, rfl, fill_la gr _ _⟩
                · have c218 : ¬ (495 ≤ (nI i)) := c218
                  have c218n := mt (nI_leI (a := 495) (b := i) (by omega) (by omega)).mpr c218
                  refine x_aload_n dX9_works_221 rfl ?_
                  refine x_dup dX9_works_222 rfl ?_
                  refine x_get dX9_works_223 0 24 inX9 fl_X9_192 rfl rfl (by decide) rfl ?_
                  refine x_aload_n dX9_works_226 rfl ?_
                  refine x_get dX9_works_227 0 22 inX9 fl_X9_57 rfl rfl (by decide) rfl ?_
                  refine x_iload_n dX9_works_230 rfl ?_
                  refine x_iald dX9_works_231 7 i rfl (rfl) (by omega) (by decide) ?_
                  refine x_iadd dX9_works_232 ?_
                  refine x_rei (nI ((sumN (crH gr ki ma hd L sd) i) + ((crH gr ki ma hd L sd) i))) (nI_iadd (sumN (crH gr ki ma hd L sd) i) ((crH gr ki ma hd L sd) i)) ?_
                  refine x_put (ws' := [(aN, .inr (9, [.ref aNs, .ref aNk, .int nkp, .ref aNf, .ref aNr, .ref aNp, .ref aNb, .ref aNa, .ref aNt, .int (nI nts), .ref aNbo, .ref aNsz, .ref aNnu, .int (nI qat), .int (nI qop), .int qbd, .int 0, .int (nI qpr), .int 0, .int 0, .int 1, .ref aNl, .ref aNal, .ref aNlo, .int (nI ((sumN (crH gr ki ma hd L sd) i) + ((crH gr ki ma hd L sd) i))), .ref aNw, .ref aNtr, .ref aNis, .ref aNbg, .ref aNow])), (aNs, .inl (g.2.1 0, 919, .inl (msF gr wk z lk sz br ru ki ma bb ce hd))), (aNt, .inl (g.2.1 0, 60, .inl (nIf tb))), (aNa, .inl (g.2.1 0, 2475, .inl (nIf fcN))), (aNr, .inl (g.2.1 0, 495, .inl (nIf rowB))), (aNb, .inl (g.2.1 0, 4096, .inl (nIf popN))), (aNl, .inl (g.2.1 0, 495, .inl (nIf sd))), (aNal, .inl (g.2.1 0, 495, .inl (nIf (crH gr ki ma hd L sd)))), (aNlo, .inl (g.2.1 0, 12, .inl (nIf (fillT gr (fun q => laN (ki q) (ma q) L sd) nlo))))]) dX9_works_233 0 24 inX9 tyX9_ok nmX9 fl_X9_192 rfl rfl (by decide) rfl (rfl) rfl (xlt rfl) rfl ?_
                  refine x_iinc (lv' := [some (.ref aN), some (.int (nI (i + 1))), none]) (nI (i + 1)) dX9_works_236 rfl (nI_addc i 1 rfl) rfl ?_
                  refine x_goto dX9_works_239 ?_
                  exact ih214 (by omega) ((sumN (crH gr ki ma hd L sd) i) + ((crH gr ki ma hd L sd) i)) (by rfl)
              exact L214_4 0 (Nat.zero_le _) 0 (by rfl)
            · have c136 : ¬ ((nI gr) ≤ (nI u)) := c136
              have c136n := mt (nI_leI (a := gr) (b := u) (by omega) (by omega)).mpr c136
              refine x_aload_n dX9_works_139 rfl ?_
              refine x_get dX9_works_140 0 23 inX9 fl_X9_60 rfl rfl (by decide) rfl ?_
              refine x_iload_n dX9_works_143 rfl ?_
              refine x_iconst 0 dX9_works_144 (by decide) ?_
              refine x_rei (nI 0) rfl ?_
              refine x_iast (ws' := [(aN, .inr (9, [.ref aNs, .ref aNk, .int nkp, .ref aNf, .ref aNr, .ref aNp, .ref aNb, .ref aNa, .ref aNt, .int (nI nts), .ref aNbo, .ref aNsz, .ref aNnu, .int (nI qat), .int (nI qop), .int qbd, .int 0, .int (nI qpr), .int 0, .int 0, .int 1, .ref aNl, .ref aNal, .ref aNlo, .int 0, .ref aNw, .ref aNtr, .ref aNis, .ref aNbg, .ref aNow])), (aNs, .inl (g.2.1 0, 919, .inl (msF gr wk z lk sz br ru ki ma bb ce hd))), (aNt, .inl (g.2.1 0, 60, .inl (nIf tb))), (aNa, .inl (g.2.1 0, 2475, .inl (nIf fcN))), (aNr, .inl (g.2.1 0, 495, .inl (nIf rowB))), (aNb, .inl (g.2.1 0, 4096, .inl (nIf popN))), (aNl, .inl (g.2.1 0, 495, .inl (nIf sd))), (aNal, .inl (g.2.1 0, 495, .inl (nIf (crH u ki ma hd L sd)))), (aNlo, .inl (g.2.1 0, 12, .inl (nIf (updN (fillT u (fun q => laN (ki q) (ma q) L sd) nlo) u 0))))]) dX9_works_145 8 u rfl (rfl) (by omega) (by decide) (by rw [upd_nIf]; rfl) ?_
              refine x_iconst 0 dX9_works_146 (by decide) ?_
              refine x_istore_n (lv' := [some (.ref aN), some (.int (nI u)), some (.int 0)]) dX9_works_147 (xlt rfl) rfl ?_
              have L148_5 : ∀ (i : Nat), i ≤ 495 → ∀ (lh : Nat → Nat), lh = updN (fillT u (fun q => laN (ki q) (ma q) L sd) nlo) u (sumN (fun p => lkN (ki u) (ma u) p L (sd p)) i) → Xs κ g 27 0 0 cX9_works yX9_works none Q 0 0 148 [some (.ref aN), some (.int (nI u)), some (.int (nI i))] [] [(aN, .inr (9, [.ref aNs, .ref aNk, .int nkp, .ref aNf, .ref aNr, .ref aNp, .ref aNb, .ref aNa, .ref aNt, .int (nI nts), .ref aNbo, .ref aNsz, .ref aNnu, .int (nI qat), .int (nI qop), .int qbd, .int 0, .int (nI qpr), .int 0, .int 0, .int 1, .ref aNl, .ref aNal, .ref aNlo, .int 0, .ref aNw, .ref aNtr, .ref aNis, .ref aNbg, .ref aNow])), (aNs, .inl (g.2.1 0, 919, .inl (msF gr wk z lk sz br ru ki ma bb ce hd))), (aNt, .inl (g.2.1 0, 60, .inl (nIf tb))), (aNa, .inl (g.2.1 0, 2475, .inl (nIf fcN))), (aNr, .inl (g.2.1 0, 495, .inl (nIf rowB))), (aNb, .inl (g.2.1 0, 4096, .inl (nIf popN))), (aNl, .inl (g.2.1 0, 495, .inl (nIf sd))), (aNal, .inl (g.2.1 0, 495, .inl (nIf (crH u ki ma hd L sd)))), (aNlo, .inl (g.2.1 0, 12, .inl (nIf lh)))] := by
                refine upTo 495 (fun i hi148 ih148 => ?_)
                intro lh elh
                subst elh
                refine x_iload_n dX9_works_148 rfl ?_
                refine x_sipush 495 dX9_works_149 (by decide) ?_
                refine x_icmp_ge dX9_works_152 (fun c152 => ?_) (fun c152 => ?_)
                · have c152 : 495 ≤ (nI i) := c152
                  have c152n := (nI_leI (a := 495) (b := i) (by omega) (by omega)).mp c152
                  have hxc152 : i = 495 := by omega
                  try rw [hxc152]
                  refine x_iconst 0 dX9_works_176 (by decide) ?_
                  refine x_istore_n (lv' := [some (.ref aN), some (.int (nI u)), some (.int 0)]) dX9_works_177 (xlt rfl) rfl ?_
                  have L178_6 : ∀ (i : Nat), i ≤ 495 → ∀ (ah : Nat → Nat), ah = fillT i (crH (u + 1) ki ma hd L sd) (crH u ki ma hd L sd) → Xs κ g 27 0 0 cX9_works yX9_works none Q 0 0 178 [some (.ref aN), some (.int (nI u)), some (.int (nI i))] [] [(aN, .inr (9, [.ref aNs, .ref aNk, .int nkp, .ref aNf, .ref aNr, .ref aNp, .ref aNb, .ref aNa, .ref aNt, .int (nI nts), .ref aNbo, .ref aNsz, .ref aNnu, .int (nI qat), .int (nI qop), .int qbd, .int 0, .int (nI qpr), .int 0, .int 0, .int 1, .ref aNl, .ref aNal, .ref aNlo, .int 0, .ref aNw, .ref aNtr, .ref aNis, .ref aNbg, .ref aNow])), (aNs, .inl (g.2.1 0, 919, .inl (msF gr wk z lk sz br ru ki ma bb ce hd))), (aNt, .inl (g.2.1 0, 60, .inl (nIf tb))), (aNa, .inl (g.2.1 0, 2475, .inl (nIf fcN))), (aNr, .inl (g.2.1 0, 495, .inl (nIf rowB))), (aNb, .inl (g.2.1 0, 4096, .inl (nIf popN))), (aNl, .inl (g.2.1 0, 495, .inl (nIf sd))), (aNal, .inl (g.2.1 0, 495, .inl (nIf ah))), (aNlo, .inl (g.2.1 0, 12, .inl (nIf (updN (fillT u (fun q => laN (ki q) (ma q) L sd) nlo) u (sumN (fun p => lkN (ki u) (ma u) p L (sd p)) 495)))))] := by
                    refine upTo 495 (fun i hi178 ih178 => ?_)
                    intro ah eah
                    subst eah
                    refine x_iload_n dX9_works_178 rfl ?_
                    refine x_sipush 495 dX9_works_179 (by decide) ?_
                    refine x_icmp_ge dX9_works_182 (fun c182 => ?_) (fun c182 => ?_)
                    · have c182 : 495 ≤ (nI i) := c182
                      have c182n := (nI_leI (a := 495) (b := i) (by omega) (by omega)).mp c182
                      have hxc182 : i = 495 := by omega
                      try rw [hxc182]
                      refine x_funi (ws' := [(aN, .inr (9, [.ref aNs, .ref aNk, .int nkp, .ref aNf, .ref aNr, .ref aNp, .ref aNb, .ref aNa, .ref aNt, .int (nI nts), .ref aNbo, .ref aNsz, .ref aNnu, .int (nI qat), .int (nI qop), .int qbd, .int 0, .int (nI qpr), .int 0, .int 0, .int 1, .ref aNl, .ref aNal, .ref aNlo, .int 0, .ref aNw, .ref aNtr, .ref aNis, .ref aNbg, .ref aNow])), (aNs, .inl (g.2.1 0, 919, .inl (msF gr wk z lk sz br ru ki ma bb ce hd))), (aNt, .inl (g.2.1 0, 60, .inl (nIf tb))), (aNa, .inl (g.2.1 0, 2475, .inl (nIf fcN))), (aNr, .inl (g.2.1 0, 495, .inl (nIf rowB))), (aNb, .inl (g.2.1 0, 4096, .inl (nIf popN))), (aNl, .inl (g.2.1 0, 495, .inl (nIf sd))), (aNal, .inl (g.2.1 0, 495, .inl (nIf (crH (u + 1) ki ma hd L sd)))), (aNlo, .inl (g.2.1 0, 12, .inl (nIf (updN (fillT u (fun q => laN (ki q) (ma q) L sd) nlo) u (sumN (fun p => lkN (ki u) (ma u) p L (sd p)) 495)))))]) (q0 := 7) rfl (fun j hj => congrArg nI (fillT_in _ _ hj)) rfl ?_
                      refine x_iinc (lv' := [some (.ref aN), some (.int (nI (u + 1))), some (.int 495)]) (nI (u + 1)) dX9_works_206 rfl (nI_addc u 1 rfl) rfl ?_
                      refine x_goto dX9_works_209 ?_
                      refine x_fgt (lv' := [some (.ref aN), some (.int (nI (u + 1))), none]) ⟨Or.inr rfl, Or.inr rfl, Or.inl rfl, trivial⟩ ?_
                      exact ih129 (by omega) (crH (u + 1) ki ma hd L sd) (by rfl) (updN (fillT u (fun q => laN (ki q) (ma q) L sd) nlo) u (sumN (fun p => lkN (ki u) (ma u) p L (sd p)) 495)) (by exact lo_step nlo (fun q => laN (ki q) (ma q) L sd) u)
                    · have c182 : ¬ (495 ≤ (nI i)) := c182
                      have c182n := mt (nI_leI (a := 495) (b := i) (by omega) (by omega)).mpr c182
                      refine x_aload_n dX9_works_185 rfl ?_
                      refine x_get dX9_works_186 0 22 inX9 fl_X9_57 rfl rfl (by decide) rfl ?_
                      refine x_iload_n dX9_works_189 rfl ?_
                      refine x_dup2 dX9_works_190 rfl rfl ?_
                      refine x_iald dX9_works_191 7 i rfl (rfl) (by omega) (by decide) ?_
                      refine x_aload_n dX9_works_192 rfl ?_
                      refine x_iload_n dX9_works_193 rfl ?_
                      refine x_iload_n dX9_works_194 rfl ?_
                      refine x_cVi0 dX9_works_195 ml_X9_195 mX9_crossedBy (ct_X9_crossedBy κ.2.1 g aN aNs aNk aNf aNr aNp aNb aNa aNt aNbo aNsz aNnu aNl aNal aNlo aNw aNtr aNis aNbg aNow nts qat qop qpr 0 nkp qbd 0 0 0 1 gr wk lk sz br z ru ki ma bb hd ce L i u sd (updN (fillT u (fun q => laN (ki q) (ma q) L sd) nlo) u (sumN (fun p => lkN (ki u) (ma u) p L (sd p)) 495)) (by omega) (hki) (hma) (by omega) (hwk) (hlat) (hL) (hsd) (updN_self _ _ _)) [0, 1, 4, 5, 6, 8] rfl rfl 0 rfl rfl rfl (Nat.le_of_ble_eq_true rfl) (by decide) (Nat.le_refl _) (Nat.le_refl _) ?_
                      refine x_iadd dX9_works_198 ?_
                      refine x_rei (nI (((fillT i (crH (u + 1) ki ma hd L sd) (crH u ki ma hd L sd)) i) + (shN (ki u) (ma u) i L sd))) (nI_iadd ((fillT i (crH (u + 1) ki ma hd L sd) (crH u ki ma hd L sd)) i) (shN (ki u) (ma u) i L sd)) ?_
                      refine x_iast (ws' := [(aN, .inr (9, [.ref aNs, .ref aNk, .int nkp, .ref aNf, .ref aNr, .ref aNp, .ref aNb, .ref aNa, .ref aNt, .int (nI nts), .ref aNbo, .ref aNsz, .ref aNnu, .int (nI qat), .int (nI qop), .int qbd, .int 0, .int (nI qpr), .int 0, .int 0, .int 1, .ref aNl, .ref aNal, .ref aNlo, .int 0, .ref aNw, .ref aNtr, .ref aNis, .ref aNbg, .ref aNow])), (aNs, .inl (g.2.1 0, 919, .inl (msF gr wk z lk sz br ru ki ma bb ce hd))), (aNt, .inl (g.2.1 0, 60, .inl (nIf tb))), (aNa, .inl (g.2.1 0, 2475, .inl (nIf fcN))), (aNr, .inl (g.2.1 0, 495, .inl (nIf rowB))), (aNb, .inl (g.2.1 0, 4096, .inl (nIf popN))), (aNl, .inl (g.2.1 0, 495, .inl (nIf sd))), (aNal, .inl (g.2.1 0, 495, .inl (nIf (updN (fillT i (crH (u + 1) ki ma hd L sd) (crH u ki ma hd L sd)) i (((fillT i (crH (u + 1) ki ma hd L sd) (crH u ki ma hd L sd)) i) + (shN (ki u) (ma u) i L sd)))))), (aNlo, .inl (g.2.1 0, 12, .inl (nIf (updN (fillT u (fun q => laN (ki q) (ma q) L sd) nlo) u (sumN (fun p => lkN (ki u) (ma u) p L (sd p)) 495)))))]) dX9_works_199 7 i rfl (rfl) (by omega) (by decide) (by rw [upd_nIf]; rfl) ?_
                      refine x_iinc (lv' := [some (.ref aN), some (.int (nI u)), some (.int (nI (i + 1)))]) (nI (i + 1)) dX9_works_200 rfl (nI_addc i 1 rfl) rfl ?_
                      refine x_goto dX9_works_203 ?_
                      exact ih178 (by omega) (updN (fillT i (crH (u + 1) ki ma hd L sd) (crH u ki ma hd L sd)) i (((fillT i (crH (u + 1) ki ma hd L sd) (crH u ki ma hd L sd)) i) + (shN (ki u) (ma u) i L sd))) (by exact crH_step gr ki ma hd L sd u i)
                  exact L178_6 0 (Nat.zero_le _) (crH u ki ma hd L sd) (by exact (fillT_0 _ _).symm)
                · have c152 : ¬ (495 ≤ (nI i)) := c152
                  have c152n := mt (nI_leI (a := 495) (b := i) (by omega) (by omega)).mpr c152
                  refine x_aload_n dX9_works_155 rfl ?_
                  refine x_get dX9_works_156 0 23 inX9 fl_X9_60 rfl rfl (by decide) rfl ?_
                  refine x_iload_n dX9_works_159 rfl ?_
                  refine x_dup2 dX9_works_160 rfl rfl ?_
                  refine x_iald dX9_works_161 8 u rfl (rfl) (by omega) (by decide) ?_
                  refine x_rei (nI (sumN (fun p => lkN (ki u) (ma u) p L (sd p)) i)) (congrArg nI (updN_self _ _ _)) ?_
                  refine x_aload_n dX9_works_162 rfl ?_
                  refine x_iload_n dX9_works_163 rfl ?_
                  refine x_iload_n dX9_works_164 rfl ?_
                  refine x_cVi0 dX9_works_165 ml_X9_188 mX9_likesBy (ct_X9_likesBy κ.2.1 g aN aNs aNk aNf aNr aNp aNb aNa aNt aNbo aNsz aNnu aNl aNal aNlo aNw aNtr aNis aNbg aNow nts qat qop qpr 0 nkp qbd 0 0 0 1 gr wk lk sz br z ru ki ma bb hd ce L i u sd (by omega) (hki) (hma) (by omega) (hwk) (hlat) (hL)) [0, 1, 4, 5, 6] rfl rfl 0 rfl rfl rfl (Nat.le_of_ble_eq_true rfl) (by decide) (Nat.le_refl _) (Nat.le_refl _) ?_
                  refine x_iadd dX9_works_168 ?_
                  refine x_rei (nI ((sumN (fun p => lkN (ki u) (ma u) p L (sd p)) i) + (lkN (ki u) (ma u) i L (sd i)))) (nI_iadd (sumN (fun p => lkN (ki u) (ma u) p L (sd p)) i) (lkN (ki u) (ma u) i L (sd i))) ?_
                  refine x_iast (ws' := [(aN, .inr (9, [.ref aNs, .ref aNk, .int nkp, .ref aNf, .ref aNr, .ref aNp, .ref aNb, .ref aNa, .ref aNt, .int (nI nts), .ref aNbo, .ref aNsz, .ref aNnu, .int (nI qat), .int (nI qop), .int qbd, .int 0, .int (nI qpr), .int 0, .int 0, .int 1, .ref aNl, .ref aNal, .ref aNlo, .int 0, .ref aNw, .ref aNtr, .ref aNis, .ref aNbg, .ref aNow])), (aNs, .inl (g.2.1 0, 919, .inl (msF gr wk z lk sz br ru ki ma bb ce hd))), (aNt, .inl (g.2.1 0, 60, .inl (nIf tb))), (aNa, .inl (g.2.1 0, 2475, .inl (nIf fcN))), (aNr, .inl (g.2.1 0, 495, .inl (nIf rowB))), (aNb, .inl (g.2.1 0, 4096, .inl (nIf popN))), (aNl, .inl (g.2.1 0, 495, .inl (nIf sd))), (aNal, .inl (g.2.1 0, 495, .inl (nIf (crH u ki ma hd L sd)))), (aNlo, .inl (g.2.1 0, 12, .inl (nIf (updN (updN (fillT u (fun q => laN (ki q) (ma q) L sd) nlo) u (sumN (fun p => lkN (ki u) (ma u) p L (sd p)) i)) u ((sumN (fun p => lkN (ki u) (ma u) p L (sd p)) i) + (lkN (ki u) (ma u) i L (sd i)))))))]) dX9_works_169 8 u rfl (rfl) (by omega) (by decide) (by rw [upd_nIf]; rfl) ?_
                  refine x_iinc (lv' := [some (.ref aN), some (.int (nI u)), some (.int (nI (i + 1)))]) (nI (i + 1)) dX9_works_170 rfl (nI_addc i 1 rfl) rfl ?_
                  refine x_goto dX9_works_173 ?_
                  exact ih148 (by omega) (updN (updN (fillT u (fun q => laN (ki q) (ma q) L sd) nlo) u (sumN (fun p => lkN (ki u) (ma u) p L (sd p)) i)) u ((sumN (fun p => lkN (ki u) (ma u) p L (sd p)) i) + (lkN (ki u) (ma u) i L (sd i)))) (by exact updN_acc _ u (fun p => lkN (ki u) (ma u) p L (sd p)) i)
              exact L148_5 0 (Nat.zero_le _) (updN (fillT u (fun q => laN (ki q) (ma q) L sd) nlo) u 0) (by rfl)
          exact L129_3 0 (Nat.zero_le _) (crH 0 ki ma hd L sd) (by rfl) nlo (by exact (fillT_0 _ _).symm)
        · have c102 : ¬ (495 ≤ (nI i)) := c102
          have c102n := mt (nI_leI (a := 495) (b := i) (by omega) (by omega)).mpr c102
          refine x_aload_n dX9_works_105 rfl ?_
          refine x_get dX9_works_106 0 22 inX9 fl_X9_57 rfl rfl (by decide) rfl ?_
          refine x_iload_n dX9_works_109 rfl ?_
          refine x_aload_n dX9_works_110 rfl ?_
          refine x_get dX9_works_111 0 0 inX9 fl_X9_7 rfl rfl (by decide) rfl ?_
          refine x_sipush 424 dX9_works_114 (by decide) ?_
          refine x_iload_n dX9_works_117 rfl ?_
          refine x_iadd dX9_works_118 ?_
          refine x_rei (nI (424 + i)) (nI_iadd 424 i) ?_
          refine x_iald dX9_works_119 1 (424 + i) rfl (rfl) (by omega) (by decide) ?_
          refine x_rei (nI (hd i)) (msg_hd (x := i) (by omega)) ?_
          refine x_iast (ws' := [(aN, .inr (9, [.ref aNs, .ref aNk, .int nkp, .ref aNf, .ref aNr, .ref aNp, .ref aNb, .ref aNa, .ref aNt, .int (nI nts), .ref aNbo, .ref aNsz, .ref aNnu, .int (nI qat), .int (nI qop), .int qbd, .int 0, .int (nI qpr), .int 0, .int 0, .int 1, .ref aNl, .ref aNal, .ref aNlo, .int 0, .ref aNw, .ref aNtr, .ref aNis, .ref aNbg, .ref aNow])), (aNs, .inl (g.2.1 0, 919, .inl (msF gr wk z lk sz br ru ki ma bb ce hd))), (aNt, .inl (g.2.1 0, 60, .inl (nIf tb))), (aNa, .inl (g.2.1 0, 2475, .inl (nIf fcN))), (aNr, .inl (g.2.1 0, 495, .inl (nIf rowB))), (aNb, .inl (g.2.1 0, 4096, .inl (nIf popN))), (aNl, .inl (g.2.1 0, 495, .inl (nIf sd))), (aNal, .inl (g.2.1 0, 495, .inl (nIf (updN (fillT i (crH 0 ki ma hd L sd) nal) i (hd i))))), (aNlo, .inl (g.2.1 0, 12, .inl (nIf nlo)))]) dX9_works_120 7 i rfl (rfl) (by omega) (by decide) (by rw [upd_nIf]; rfl) ?_
          refine x_iinc (lv' := [some (.ref aN), some (.int (nI (i + 1))), none]) (nI (i + 1)) dX9_works_121 rfl (nI_addc i 1 rfl) rfl ?_
          refine x_goto dX9_works_124 ?_
          exact ih98 (by omega) (updN (fillT i (crH 0 ki ma hd L sd) nal) i (hd i)) (by exact fillT_updN i (crH 0 ki ma hd L sd) nal)
      exact L98_2 0 (Nat.zero_le _) nal (by exact (fillT_0 _ _).symm)
    · have c24 : ¬ (495 ≤ (nI i)) := c24
      have c24n := mt (nI_leI (a := 495) (b := i) (by omega) (by omega)).mpr c24
      refine x_aload_n dX9_works_27 rfl ?_
      refine x_get dX9_works_28 0 19 inX9 fl_X9_48 rfl rfl (by decide) rfl ?_
      refine x_if_eq dX9_works_31 (fun c31 => ?_) (fun c31 => ?_)
      · exact absurd c31 (by decide)
      refine x_aload_n dX9_works_34 rfl ?_
      refine x_get dX9_works_35 0 0 inX9 fl_X9_7 rfl rfl (by decide) rfl ?_
      refine x_iconst 3 dX9_works_38 (by decide) ?_
      refine x_iald dX9_works_39 1 3 rfl (rfl) (by decide) (by decide) ?_
      refine x_rei (nI lk) (rfl) ?_
      refine x_iconst 1 dX9_works_40 (by decide) ?_
      refine x_icmp_ne dX9_works_41 (fun c41 => ?_) (fun c41 => ?_)
      · have c41 : ¬ ((nI lk) = 1) := c41
        have c41n := mt (nI_eq (a := lk) (b := 1) (by omega) (by omega)).mpr c41
        refine x_iconst 1 dX9_works_52 (by decide) ?_
        refine x_istore_n (lv' := [some (.ref aN), some (.int (nI i)), some (.int 1)]) dX9_works_53 (xlt rfl) rfl ?_
        refine x_aload_n dX9_works_54 rfl ?_
        refine x_get dX9_works_55 0 21 inX9 fl_X9_54 rfl rfl (by decide) rfl ?_
        refine x_iload_n dX9_works_58 rfl ?_
        refine x_iload_n dX9_works_59 rfl ?_
        refine x_if_ge dX9_works_60 (fun c60 => ?_) (fun c60 => ?_)
        rotate_left
        · exact absurd c60 (by decide)
        refine x_iload_n dX9_works_67 rfl ?_
        refine x_bipush 99 dX9_works_68 (by decide) ?_
        refine x_icmp_le dX9_works_70 (fun c70 => ?_) (fun c70 => ?_)
        rotate_left
        · exact absurd c70 (by decide)
        refine x_iload_n dX9_works_78 rfl ?_
        refine x_rei (nI (sd i)) (by rw [hsv i (by omega)]; (try simp only []); first | (rw [if_pos c41n]; exact clN_if _) | (rw [if_neg c41n]; rfl)) ?_
        refine x_iast (ws' := [(aN, .inr (9, [.ref aNs, .ref aNk, .int nkp, .ref aNf, .ref aNr, .ref aNp, .ref aNb, .ref aNa, .ref aNt, .int (nI nts), .ref aNbo, .ref aNsz, .ref aNnu, .int (nI qat), .int (nI qop), .int qbd, .int 0, .int (nI qpr), .int 0, .int 1, .int 1, .ref aNl, .ref aNal, .ref aNlo, .int (nI nac), .ref aNw, .ref aNtr, .ref aNis, .ref aNbg, .ref aNow])), (aNs, .inl (g.2.1 0, 919, .inl (msF gr wk z lk sz br ru ki ma bb ce hd))), (aNt, .inl (g.2.1 0, 60, .inl (nIf tb))), (aNa, .inl (g.2.1 0, 2475, .inl (nIf fcN))), (aNr, .inl (g.2.1 0, 495, .inl (nIf rowB))), (aNb, .inl (g.2.1 0, 4096, .inl (nIf popN))), (aNl, .inl (g.2.1 0, 495, .inl (nIf (updN (fillT i sd nli) i (sd i))))), (aNal, .inl (g.2.1 0, 495, .inl (nIf nal))), (aNlo, .inl (g.2.1 0, 12, .inl (nIf nlo)))]) dX9_works_79 6 i rfl (rfl) (by omega) (by decide) (by rw [upd_nIf]; rfl) ?_
        refine x_iinc (lv' := [some (.ref aN), some (.int (nI (i + 1))), some (.int 1)]) (nI (i + 1)) dX9_works_80 rfl (nI_addc i 1 rfl) rfl ?_
        refine x_goto dX9_works_83 ?_
        refine x_fgt (lv' := [some (.ref aN), some (.int (nI (i + 1))), none]) ⟨Or.inr rfl, Or.inr rfl, Or.inl rfl, trivial⟩ ?_
        exact ih20 (by omega) qat qop _ qpr (updN (fillT i sd nli) i (sd i)) (by exact fillT_updN i sd nli)
      · have c41 : (nI lk) = 1 := c41
        have c41n := (nI_eq (a := lk) (b := 1) (by omega) (by omega)).mp c41
        refine x_aload_n dX9_works_44 rfl ?_
        refine x_iload_n dX9_works_45 rfl ?_
        refine x_cVi (ws' := [(aN, .inr (9, [.ref aNs, .ref aNk, .int nkp, .ref aNf, .ref aNr, .ref aNp, .ref aNb, .ref aNa, .ref aNt, .int (nI nts), .ref aNbo, .ref aNsz, .ref aNnu, .int (nI ((srL (hB bb sz) (nmI wk L i) 4 0).1)), .int 0, .int (syI (srL (hB bb sz) (nmI wk L i) 4 0) sz), .int 0, .int (nI i), .int 0, .int 1, .int 1, .ref aNl, .ref aNal, .ref aNlo, .int (nI nac), .ref aNw, .ref aNtr, .ref aNis, .ref aNbg, .ref aNow])), (aNs, .inl (g.2.1 0, 919, .inl (msF gr wk z lk sz br ru ki ma bb ce hd))), (aNt, .inl (g.2.1 0, 60, .inl (nIf tb))), (aNa, .inl (g.2.1 0, 2475, .inl (nIf fcN))), (aNr, .inl (g.2.1 0, 495, .inl (nIf rowB))), (aNb, .inl (g.2.1 0, 4096, .inl (nIf popN))), (aNl, .inl (g.2.1 0, 495, .inl (nIf (fillT i sd nli)))), (aNal, .inl (g.2.1 0, 495, .inl (nIf nal))), (aNlo, .inl (g.2.1 0, 12, .inl (nIf nlo)))]) dX9_works_46 ml_X9_175 mX9_says (ct_X9_says κ.2.1 g aN aNs aNk aNf aNr aNp aNb aNa aNt aNbo aNsz aNnu aNl aNal aNlo aNw aNtr aNis aNbg aNow nts qat qop qpr nac nkp qbd 0 1 1 gr wk lk sz br z ru ki ma bb hd ce tb L i (hsz) (hbb) (by omega) (hwk) (hlat)) [0, 1, 2, 3, 4, 5] rfl rfl 0 rfl rfl rfl (Nat.le_of_ble_eq_true rfl) (by decide) (Nat.le_refl _) (Nat.le_refl _) (rfl : [aN, aNs, aNt, aNa, aNr, aNb] = [aN, aNs, aNt, aNa, aNr, aNb]) rfl ?_
        refine x_goto dX9_works_49 ?_
        refine x_istore_n (lv' := [some (.ref aN), some (.int (nI i)), some (.int ((srL (hB bb sz) (nmI wk L i) 4 0).2.2))]) dX9_works_53 (xlt rfl) rfl ?_
        refine x_aload_n dX9_works_54 rfl ?_
        refine x_get dX9_works_55 0 21 inX9 fl_X9_54 rfl rfl (by decide) rfl ?_
        refine x_iload_n dX9_works_58 rfl ?_
        refine x_iload_n dX9_works_59 rfl ?_
        have J60_10 : ∀ (v9 : Int32), v9 = (if 0 ≤ ((srL (hB bb sz) (nmI wk L i) 4 0).2.2) then ((if ((srL (hB bb sz) (nmI wk L i) 4 0).2.2) ≤ 99 then (srL (hB bb sz) (nmI wk L i) 4 0).2.2 else 99)) else 0) → Xs κ g 27 0 0 cX9_works yX9_works none Q 0 0 79 [some (.ref aN), some (.int (nI i)), some (.int ((srL (hB bb sz) (nmI wk L i) 4 0).2.2))] [.int v9, .int (nI i), .ref aNl] [(aN, .inr (9, [.ref aNs, .ref aNk, .int nkp, .ref aNf, .ref aNr, .ref aNp, .ref aNb, .ref aNa, .ref aNt, .int (nI nts), .ref aNbo, .ref aNsz, .ref aNnu, .int (nI ((srL (hB bb sz) (nmI wk L i) 4 0).1)), .int 0, .int (syI (srL (hB bb sz) (nmI wk L i) 4 0) sz), .int 0, .int (nI i), .int 0, .int 1, .int 1, .ref aNl, .ref aNal, .ref aNlo, .int (nI nac), .ref aNw, .ref aNtr, .ref aNis, .ref aNbg, .ref aNow])), (aNs, .inl (g.2.1 0, 919, .inl (msF gr wk z lk sz br ru ki ma bb ce hd))), (aNt, .inl (g.2.1 0, 60, .inl (nIf tb))), (aNa, .inl (g.2.1 0, 2475, .inl (nIf fcN))), (aNr, .inl (g.2.1 0, 495, .inl (nIf rowB))), (aNb, .inl (g.2.1 0, 4096, .inl (nIf popN))), (aNl, .inl (g.2.1 0, 495, .inl (nIf (fillT i sd nli)))), (aNal, .inl (g.2.1 0, 495, .inl (nIf nal))), (aNlo, .inl (g.2.1 0, 12, .inl (nIf nlo)))] := by
          intro v9 ev9
          refine x_rei (nI (sd i)) (by rw [hsv i (by omega)]; (try simp only [ev9]); first | (rw [if_pos c41n]; exact clN_if _) | (rw [if_neg c41n]; rfl)) ?_
          refine x_iast (ws' := [(aN, .inr (9, [.ref aNs, .ref aNk, .int nkp, .ref aNf, .ref aNr, .ref aNp, .ref aNb, .ref aNa, .ref aNt, .int (nI nts), .ref aNbo, .ref aNsz, .ref aNnu, .int (nI ((srL (hB bb sz) (nmI wk L i) 4 0).1)), .int 0, .int (syI (srL (hB bb sz) (nmI wk L i) 4 0) sz), .int 0, .int (nI i), .int 0, .int 1, .int 1, .ref aNl, .ref aNal, .ref aNlo, .int (nI nac), .ref aNw, .ref aNtr, .ref aNis, .ref aNbg, .ref aNow])), (aNs, .inl (g.2.1 0, 919, .inl (msF gr wk z lk sz br ru ki ma bb ce hd))), (aNt, .inl (g.2.1 0, 60, .inl (nIf tb))), (aNa, .inl (g.2.1 0, 2475, .inl (nIf fcN))), (aNr, .inl (g.2.1 0, 495, .inl (nIf rowB))), (aNb, .inl (g.2.1 0, 4096, .inl (nIf popN))), (aNl, .inl (g.2.1 0, 495, .inl (nIf (updN (fillT i sd nli) i (sd i))))), (aNal, .inl (g.2.1 0, 495, .inl (nIf nal))), (aNlo, .inl (g.2.1 0, 12, .inl (nIf nlo)))]) dX9_works_79 6 i rfl (rfl) (by omega) (by decide) (by rw [upd_nIf]; rfl) ?_
          refine x_iinc (lv' := [some (.ref aN), some (.int (nI (i + 1))), some (.int ((srL (hB bb sz) (nmI wk L i) 4 0).2.2))]) (nI (i + 1)) dX9_works_80 rfl (nI_addc i 1 rfl) rfl ?_
          refine x_goto dX9_works_83 ?_
          refine x_fgt (lv' := [some (.ref aN), some (.int (nI (i + 1))), none]) ⟨Or.inr rfl, Or.inr rfl, Or.inl rfl, trivial⟩ ?_
          exact ih20 (by omega) ((srL (hB bb sz) (nmI wk L i) 4 0).1) 0 _ i (updN (fillT i sd nli) i (sd i)) (by exact fillT_updN i sd nli)
        refine x_if_ge dX9_works_60 (fun c60 => ?_) (fun c60 => ?_)
        · have c60 : 0 ≤ ((srL (hB bb sz) (nmI wk L i) 4 0).2.2) := c60
          refine x_iload_n dX9_works_67 rfl ?_
          refine x_bipush 99 dX9_works_68 (by decide) ?_
          have J70_12 : ∀ (v11 : Int32), v11 = (if ((srL (hB bb sz) (nmI wk L i) 4 0).2.2) ≤ 99 then (srL (hB bb sz) (nmI wk L i) 4 0).2.2 else 99) → Xs κ g 27 0 0 cX9_works yX9_works none Q 0 0 79 [some (.ref aN), some (.int (nI i)), some (.int ((srL (hB bb sz) (nmI wk L i) 4 0).2.2))] [.int v11, .int (nI i), .ref aNl] [(aN, .inr (9, [.ref aNs, .ref aNk, .int nkp, .ref aNf, .ref aNr, .ref aNp, .ref aNb, .ref aNa, .ref aNt, .int (nI nts), .ref aNbo, .ref aNsz, .ref aNnu, .int (nI ((srL (hB bb sz) (nmI wk L i) 4 0).1)), .int 0, .int (syI (srL (hB bb sz) (nmI wk L i) 4 0) sz), .int 0, .int (nI i), .int 0, .int 1, .int 1, .ref aNl, .ref aNal, .ref aNlo, .int (nI nac), .ref aNw, .ref aNtr, .ref aNis, .ref aNbg, .ref aNow])), (aNs, .inl (g.2.1 0, 919, .inl (msF gr wk z lk sz br ru ki ma bb ce hd))), (aNt, .inl (g.2.1 0, 60, .inl (nIf tb))), (aNa, .inl (g.2.1 0, 2475, .inl (nIf fcN))), (aNr, .inl (g.2.1 0, 495, .inl (nIf rowB))), (aNb, .inl (g.2.1 0, 4096, .inl (nIf popN))), (aNl, .inl (g.2.1 0, 495, .inl (nIf (fillT i sd nli)))), (aNal, .inl (g.2.1 0, 495, .inl (nIf nal))), (aNlo, .inl (g.2.1 0, 12, .inl (nIf nlo)))] := by
            intro v11 ev11
            exact J60_10 _ (by rw [if_pos c60]; try simp only [ev11])
          refine x_icmp_le dX9_works_70 (fun c70 => ?_) (fun c70 => ?_)
          · have c70 : ((srL (hB bb sz) (nmI wk L i) 4 0).2.2) ≤ 99 := c70
            refine x_iload_n dX9_works_78 rfl ?_
            exact J70_12 _ (if_pos c70).symm
          · have c70 : ¬ (((srL (hB bb sz) (nmI wk L i) 4 0).2.2) ≤ 99) := c70
            refine x_bipush 99 dX9_works_73 (by decide) ?_
            refine x_goto dX9_works_75 ?_
            exact J70_12 _ (if_neg c70).symm
        · have c60 : ¬ (0 ≤ ((srL (hB bb sz) (nmI wk L i) 4 0).2.2)) := c60
          refine x_iconst 0 dX9_works_63 (by decide) ?_
          refine x_goto dX9_works_64 ?_
          exact J60_10 _ (if_neg c60).symm
  exact L20_1 0 (Nat.zero_le _) nta nop _ npr nli (by exact (fillT_0 _ _).symm)

-- == wk_0 ==
set_option maxRecDepth 100000 in
set_option maxHeartbeats 4000000 in
theorem ct_wk_0 (l : Launch) (g : XG) (aN aNs aNk aNf aNr aNp aNb aNa aNt aNbo aNsz aNnu aNl aNal aNlo aNw aNtr aNis aNbg aNow nts nta nop npr nac : Nat) (nkp nbd nwn : Int32) (gr wk lk sz br : Nat) (z : Int32) (ru ki ma bb hd : Nat → Nat) (ce : Nat → Int32) (tb nal nlo sd : Nat → Nat) (L : Nat) (hgr : gr ≤ 12) (hki : ∀ j, ki j ≤ 7) (hma : ∀ j, ma j ≤ 99999) (hwk : wk ≤ 40) (hlat : latI ce wk = nI L) (hL : L < 4096) (hsz : sz ≤ 60) (hbb : ∀ j, bb j < 256) (hsd : ∀ p, sd p ≤ 99) (hsv : ∀ p, p < 495 → sd p = if lk = 1 then clN (txV bb sz wk L p) else 1) (hlk : lk ≤ 1) : Ct l g 27 0 0 yX9_works cX9_works 3 none [.ref aN] [(aN, .inr (9, [.ref aNs, .ref aNk, .int nkp, .ref aNf, .ref aNr, .ref aNp, .ref aNb, .ref aNa, .ref aNt, .int (nI nts), .ref aNbo, .ref aNsz, .ref aNnu, .int (nI nta), .int (nI nop), .int nbd, .int 0, .int (nI npr), .int 1, .int 0, .int nwn, .ref aNl, .ref aNal, .ref aNlo, .int (nI nac), .ref aNw, .ref aNtr, .ref aNis, .ref aNbg, .ref aNow])), (aNs, .inl (g.2.1 0, 919, .inl (msF gr wk z lk sz br ru ki ma bb ce hd))), (aNt, .inl (g.2.1 0, 60, .inl (nIf tb))), (aNa, .inl (g.2.1 0, 2475, .inl (nIf fcN))), (aNr, .inl (g.2.1 0, 495, .inl (nIf rowB))), (aNb, .inl (g.2.1 0, 4096, .inl (nIf popN))), (aNl, .inl (g.2.1 0, 495, .inl (nIf sd))), (aNal, .inl (g.2.1 0, 495, .inl (nIf nal))), (aNlo, .inl (g.2.1 0, 12, .inl (nIf nlo)))] (fun vv_ ww_ => ∃ (zat : Nat) (zop : Nat) (zbd : Int32) (zpr : Nat) (lo2 : Nat → Nat), vv_ = none ∧ ww_ = [(aN, .inr (9, [.ref aNs, .ref aNk, .int nkp, .ref aNf, .ref aNr, .ref aNp, .ref aNb, .ref aNa, .ref aNt, .int (nI nts), .ref aNbo, .ref aNsz, .ref aNnu, .int (nI zat), .int (nI zop), .int zbd, .int 0, .int (nI zpr), .int 0, .int 0, .int 1, .ref aNl, .ref aNal, .ref aNlo, .int (nI (toH gr ki ma hd L sd)), .ref aNw, .ref aNtr, .ref aNis, .ref aNbg, .ref aNow])), (aNs, .inl (g.2.1 0, 919, .inl (msF gr wk z lk sz br ru ki ma bb ce hd))), (aNt, .inl (g.2.1 0, 60, .inl (nIf tb))), (aNa, .inl (g.2.1 0, 2475, .inl (nIf fcN))), (aNr, .inl (g.2.1 0, 495, .inl (nIf rowB))), (aNb, .inl (g.2.1 0, 4096, .inl (nIf popN))), (aNl, .inl (g.2.1 0, 495, .inl (nIf sd))), (aNal, .inl (g.2.1 0, 495, .inl (nIf (crH gr ki ma hd L sd)))), (aNlo, .inl (g.2.1 0, 12, .inl (nIf lo2)))] ∧ (∀ q, q < gr → lo2 q = laN (ki q) (ma q) L sd)) := by
  refine Ct.ofX (lv := [some (.ref aN), none, none]) (by decide) rfl (Nat.le_of_ble_eq_true rfl) (fun κ => ?_)
  generalize hQ : xQ κ g 0 0 _ = Q
  refine x_aload_n dX9_works_0 rfl ?_
  refine x_get dX9_works_1 0 18 inX9 fl_X9_44 rfl rfl (by decide) rfl ?_
  refine x_if_ne dX9_works_4 (fun c4 => ?_) (fun c4 => ?_)
  rotate_left
  · exact absurd c4 (by decide)
  refine x_aload_n dX9_works_8 rfl ?_
  refine x_iconst 0 dX9_works_9 (by decide) ?_
  refine x_put (ws' := [(aN, .inr (9, [.ref aNs, .ref aNk, .int nkp, .ref aNf, .ref aNr, .ref aNp, .ref aNb, .ref aNa, .ref aNt, .int (nI nts), .ref aNbo, .ref aNsz, .ref aNnu, .int (nI nta), .int (nI nop), .int nbd, .int 0, .int (nI npr), .int 0, .int 0, .int nwn, .ref aNl, .ref aNal, .ref aNlo, .int (nI nac), .ref aNw, .ref aNtr, .ref aNis, .ref aNbg, .ref aNow])), (aNs, .inl (g.2.1 0, 919, .inl (msF gr wk z lk sz br ru ki ma bb ce hd))), (aNt, .inl (g.2.1 0, 60, .inl (nIf tb))), (aNa, .inl (g.2.1 0, 2475, .inl (nIf fcN))), (aNr, .inl (g.2.1 0, 495, .inl (nIf rowB))), (aNb, .inl (g.2.1 0, 4096, .inl (nIf popN))), (aNl, .inl (g.2.1 0, 495, .inl (nIf sd))), (aNal, .inl (g.2.1 0, 495, .inl (nIf nal))), (aNlo, .inl (g.2.1 0, 12, .inl (nIf nlo)))]) dX9_works_10 0 18 inX9 tyX9_ok nmX9 fl_X9_44 rfl rfl (by decide) rfl (rfl) rfl (xlt rfl) rfl ?_
  refine x_aload_n dX9_works_13 rfl ?_
  refine x_iconst 1 dX9_works_14 (by decide) ?_
  refine x_put (ws' := [(aN, .inr (9, [.ref aNs, .ref aNk, .int nkp, .ref aNf, .ref aNr, .ref aNp, .ref aNb, .ref aNa, .ref aNt, .int (nI nts), .ref aNbo, .ref aNsz, .ref aNnu, .int (nI nta), .int (nI nop), .int nbd, .int 0, .int (nI npr), .int 0, .int 0, .int 1, .ref aNl, .ref aNal, .ref aNlo, .int (nI nac), .ref aNw, .ref aNtr, .ref aNis, .ref aNbg, .ref aNow])), (aNs, .inl (g.2.1 0, 919, .inl (msF gr wk z lk sz br ru ki ma bb ce hd))), (aNt, .inl (g.2.1 0, 60, .inl (nIf tb))), (aNa, .inl (g.2.1 0, 2475, .inl (nIf fcN))), (aNr, .inl (g.2.1 0, 495, .inl (nIf rowB))), (aNb, .inl (g.2.1 0, 4096, .inl (nIf popN))), (aNl, .inl (g.2.1 0, 495, .inl (nIf sd))), (aNal, .inl (g.2.1 0, 495, .inl (nIf nal))), (aNlo, .inl (g.2.1 0, 12, .inl (nIf nlo)))]) dX9_works_15 0 20 inX9 tyX9_ok nmX9 fl_X9_51 rfl rfl (by decide) rfl (rfl) rfl (xlt rfl) rfl ?_
  refine x_iconst 0 dX9_works_18 (by decide) ?_
  refine x_istore_n (lv' := [some (.ref aN), some (.int 0), none]) dX9_works_19 (xlt rfl) rfl ?_
  refine x_iload_n dX9_works_20 rfl ?_
  refine x_sipush 495 dX9_works_21 (by decide) ?_
  refine x_icmp_ge dX9_works_24 (fun c24 => ?_) (fun c24 => ?_)
  · exact absurd c24 (by decide)
  refine x_aload_n dX9_works_27 rfl ?_
  refine x_get dX9_works_28 0 19 inX9 fl_X9_48 rfl rfl (by decide) rfl ?_
  refine x_if_eq dX9_works_31 (fun c31 => ?_) (fun c31 => ?_)
  rotate_left
  · exact absurd c31 (by decide)
  refine x_aload_n dX9_works_86 rfl ?_
  refine x_iconst 0 dX9_works_87 (by decide) ?_
  refine x_put (ws' := [(aN, .inr (9, [.ref aNs, .ref aNk, .int nkp, .ref aNf, .ref aNr, .ref aNp, .ref aNb, .ref aNa, .ref aNt, .int (nI nts), .ref aNbo, .ref aNsz, .ref aNnu, .int (nI nta), .int (nI nop), .int nbd, .int 0, .int (nI npr), .int 0, .int 0, .int 1, .ref aNl, .ref aNal, .ref aNlo, .int (nI nac), .ref aNw, .ref aNtr, .ref aNis, .ref aNbg, .ref aNow])), (aNs, .inl (g.2.1 0, 919, .inl (msF gr wk z lk sz br ru ki ma bb ce hd))), (aNt, .inl (g.2.1 0, 60, .inl (nIf tb))), (aNa, .inl (g.2.1 0, 2475, .inl (nIf fcN))), (aNr, .inl (g.2.1 0, 495, .inl (nIf rowB))), (aNb, .inl (g.2.1 0, 4096, .inl (nIf popN))), (aNl, .inl (g.2.1 0, 495, .inl (nIf sd))), (aNal, .inl (g.2.1 0, 495, .inl (nIf nal))), (aNlo, .inl (g.2.1 0, 12, .inl (nIf nlo)))]) dX9_works_88 0 19 inX9 tyX9_ok nmX9 fl_X9_48 rfl rfl (by decide) rfl (rfl) rfl (xlt rfl) rfl ?_
  refine x_aload_n dX9_works_91 rfl ?_
  refine x_iconst 0 dX9_works_92 (by decide) ?_
  refine x_put (ws' := [(aN, .inr (9, [.ref aNs, .ref aNk, .int nkp, .ref aNf, .ref aNr, .ref aNp, .ref aNb, .ref aNa, .ref aNt, .int (nI nts), .ref aNbo, .ref aNsz, .ref aNnu, .int (nI nta), .int (nI nop), .int nbd, .int 0, .int (nI npr), .int 0, .int 0, .int 1, .ref aNl, .ref aNal, .ref aNlo, .int 0, .ref aNw, .ref aNtr, .ref aNis, .ref aNbg, .ref aNow])), (aNs, .inl (g.2.1 0, 919, .inl (msF gr wk z lk sz br ru ki ma bb ce hd))), (aNt, .inl (g.2.1 0, 60, .inl (nIf tb))), (aNa, .inl (g.2.1 0, 2475, .inl (nIf fcN))), (aNr, .inl (g.2.1 0, 495, .inl (nIf rowB))), (aNb, .inl (g.2.1 0, 4096, .inl (nIf popN))), (aNl, .inl (g.2.1 0, 495, .inl (nIf sd))), (aNal, .inl (g.2.1 0, 495, .inl (nIf nal))), (aNlo, .inl (g.2.1 0, 12, .inl (nIf nlo)))]) dX9_works_93 0 24 inX9 tyX9_ok nmX9 fl_X9_192 rfl rfl (by decide) rfl (rfl) rfl (xlt rfl) rfl ?_
  refine x_iconst 0 dX9_works_96 (by decide) ?_
  refine x_istore_n (lv' := [some (.ref aN), some (.int 0), none]) dX9_works_97 (xlt rfl) rfl ?_
  have L98_1 : ∀ (i : Nat), i ≤ 495 → ∀ (af : Nat → Nat), af = fillT i (crH 0 ki ma hd L sd) nal → Xs κ g 27 0 0 cX9_works yX9_works none Q 0 0 98 [some (.ref aN), some (.int (nI i)), none] [] [(aN, .inr (9, [.ref aNs, .ref aNk, .int nkp, .ref aNf, .ref aNr, .ref aNp, .ref aNb, .ref aNa, .ref aNt, .int (nI nts), .ref aNbo, .ref aNsz, .ref aNnu, .int (nI nta), .int (nI nop), .int nbd, .int 0, .int (nI npr), .int 0, .int 0, .int 1, .ref aNl, .ref aNal, .ref aNlo, .int 0, .ref aNw, .ref aNtr, .ref aNis, .ref aNbg, .ref aNow])), (aNs, .inl (g.2.1 0, 919, .inl (msF gr wk z lk sz br ru ki ma bb ce hd))), (aNt, .inl (g.2.1 0, 60, .inl (nIf tb))), (aNa, .inl (g.2.1 0, 2475, .inl (nIf fcN))), (aNr, .inl (g.2.1 0, 495, .inl (nIf rowB))), (aNb, .inl (g.2.1 0, 4096, .inl (nIf popN))), (aNl, .inl (g.2.1 0, 495, .inl (nIf sd))), (aNal, .inl (g.2.1 0, 495, .inl (nIf af))), (aNlo, .inl (g.2.1 0, 12, .inl (nIf nlo)))] := by
    refine upTo 495 (fun i hi98 ih98 => ?_)
    intro af eaf
    subst eaf
    refine x_iload_n dX9_works_98 rfl ?_
    refine x_sipush 495 dX9_works_99 (by decide) ?_
    refine x_icmp_ge dX9_works_102 (fun c102 => ?_) (fun c102 => ?_)
    · have c102 : 495 ≤ (nI i) := c102
      have c102n := (nI_leI (a := 495) (b := i) (by omega) (by omega)).mp c102
      have hxc102 : i = 495 := by omega
      try rw [hxc102]
      refine x_funi (ws' := [(aN, .inr (9, [.ref aNs, .ref aNk, .int nkp, .ref aNf, .ref aNr, .ref aNp, .ref aNb, .ref aNa, .ref aNt, .int (nI nts), .ref aNbo, .ref aNsz, .ref aNnu, .int (nI nta), .int (nI nop), .int nbd, .int 0, .int (nI npr), .int 0, .int 0, .int 1, .ref aNl, .ref aNal, .ref aNlo, .int 0, .ref aNw, .ref aNtr, .ref aNis, .ref aNbg, .ref aNow])), (aNs, .inl (g.2.1 0, 919, .inl (msF gr wk z lk sz br ru ki ma bb ce hd))), (aNt, .inl (g.2.1 0, 60, .inl (nIf tb))), (aNa, .inl (g.2.1 0, 2475, .inl (nIf fcN))), (aNr, .inl (g.2.1 0, 495, .inl (nIf rowB))), (aNb, .inl (g.2.1 0, 4096, .inl (nIf popN))), (aNl, .inl (g.2.1 0, 495, .inl (nIf sd))), (aNal, .inl (g.2.1 0, 495, .inl (nIf (crH 0 ki ma hd L sd)))), (aNlo, .inl (g.2.1 0, 12, .inl (nIf nlo)))]) (q0 := 7) rfl (fun j hj => congrArg nI (fillT_in _ _ hj)) rfl ?_
      refine x_iconst 0 dX9_works_127 (by decide) ?_
      refine x_istore_n (lv' := [some (.ref aN), some (.int 0), none]) dX9_works_128 (xlt rfl) rfl ?_
      have L129_2 : ∀ (u : Nat), u ≤ gr → ∀ (ag : Nat → Nat), ag = crH u ki ma hd L sd → ∀ (lg : Nat → Nat), lg = fillT u (fun q => laN (ki q) (ma q) L sd) nlo → Xs κ g 27 0 0 cX9_works yX9_works none Q 0 0 129 [some (.ref aN), some (.int (nI u)), none] [] [(aN, .inr (9, [.ref aNs, .ref aNk, .int nkp, .ref aNf, .ref aNr, .ref aNp, .ref aNb, .ref aNa, .ref aNt, .int (nI nts), .ref aNbo, .ref aNsz, .ref aNnu, .int (nI nta), .int (nI nop), .int nbd, .int 0, .int (nI npr), .int 0, .int 0, .int 1, .ref aNl, .ref aNal, .ref aNlo, .int 0, .ref aNw, .ref aNtr, .ref aNis, .ref aNbg, .ref aNow])), (aNs, .inl (g.2.1 0, 919, .inl (msF gr wk z lk sz br ru ki ma bb ce hd))), (aNt, .inl (g.2.1 0, 60, .inl (nIf tb))), (aNa, .inl (g.2.1 0, 2475, .inl (nIf fcN))), (aNr, .inl (g.2.1 0, 495, .inl (nIf rowB))), (aNb, .inl (g.2.1 0, 4096, .inl (nIf popN))), (aNl, .inl (g.2.1 0, 495, .inl (nIf sd))), (aNal, .inl (g.2.1 0, 495, .inl (nIf ag))), (aNlo, .inl (g.2.1 0, 12, .inl (nIf lg)))] := by
        refine upTo gr (fun u hi129 ih129 => ?_)
        intro ag eag
        subst eag
        intro lg elg
        subst elg
        refine x_iload_n dX9_works_129 rfl ?_
        refine x_aload_n dX9_works_130 rfl ?_
        refine x_get dX9_works_131 0 0 inX9 fl_X9_7 rfl rfl (by decide) rfl ?_
        refine x_iconst 0 dX9_works_134 (by decide) ?_
        refine x_iald dX9_works_135 1 0 rfl (rfl) (by decide) (by decide) ?_
        refine x_rei (nI gr) (rfl) ?_
        refine x_icmp_ge dX9_works_136 (fun c136 => ?_) (fun c136 => ?_)
        · have c136 : (nI gr) ≤ (nI u) := c136
          have c136n := (nI_leI (a := gr) (b := u) (by omega) (by omega)).mp c136
          have hxc136 : u = gr := by omega
          try rw [hxc136]
          refine x_iconst 0 dX9_works_212 (by decide) ?_
          refine x_istore_n (lv' := [some (.ref aN), some (.int 0), none]) dX9_works_213 (xlt rfl) rfl ?_
          have L214_3 : ∀ (i : Nat), i ≤ 495 → ∀ (tt : Nat), tt = sumN (crH gr ki ma hd L sd) i → Xs κ g 27 0 0 cX9_works yX9_works none Q 0 0 214 [some (.ref aN), some (.int (nI i)), none] [] [(aN, .inr (9, [.ref aNs, .ref aNk, .int nkp, .ref aNf, .ref aNr, .ref aNp, .ref aNb, .ref aNa, .ref aNt, .int (nI nts), .ref aNbo, .ref aNsz, .ref aNnu, .int (nI nta), .int (nI nop), .int nbd, .int 0, .int (nI npr), .int 0, .int 0, .int 1, .ref aNl, .ref aNal, .ref aNlo, .int (nI tt), .ref aNw, .ref aNtr, .ref aNis, .ref aNbg, .ref aNow])), (aNs, .inl (g.2.1 0, 919, .inl (msF gr wk z lk sz br ru ki ma bb ce hd))), (aNt, .inl (g.2.1 0, 60, .inl (nIf tb))), (aNa, .inl (g.2.1 0, 2475, .inl (nIf fcN))), (aNr, .inl (g.2.1 0, 495, .inl (nIf rowB))), (aNb, .inl (g.2.1 0, 4096, .inl (nIf popN))), (aNl, .inl (g.2.1 0, 495, .inl (nIf sd))), (aNal, .inl (g.2.1 0, 495, .inl (nIf (crH gr ki ma hd L sd)))), (aNlo, .inl (g.2.1 0, 12, .inl (nIf (fillT gr (fun q => laN (ki q) (ma q) L sd) nlo))))] := by
            refine upTo 495 (fun i hi214 ih214 => ?_)
            intro tt ett
            subst ett
            refine x_iload_n dX9_works_214 rfl ?_
            refine x_sipush 495 dX9_works_215 (by decide) ?_
            refine x_icmp_ge dX9_works_218 (fun c218 => ?_) (fun c218 => ?_)
            · have c218 : 495 ≤ (nI i) := c218
              have c218n := (nI_leI (a := 495) (b := i) (by omega) (by omega)).mp c218
              have hxc218 : i = 495 := by omega
              try rw [hxc218]
              rw [← hQ]
              refine x_vret dX9_works_242 rfl (Nat.le_of_ble_eq_true rfl) (Nat.le_of_ble_eq_true rfl) ?_
              exact ⟨_, _, _, _, _, rfl, rfl, fill_la gr _ _⟩
            · have c218 : ¬ (495 ≤ (nI i)) := c218
              have c218n := mt (nI_leI (a := 495) (b := i) (by omega) (by omega)).mpr c218
              refine x_aload_n dX9_works_221 rfl ?_
              refine x_dup dX9_works_222 rfl ?_
              refine x_get dX9_works_223 0 24 inX9 fl_X9_192 rfl rfl (by decide) rfl ?_
              refine x_aload_n dX9_works_226 rfl ?_
              refine x_get dX9_works_227 0 22 inX9 fl_X9_57 rfl rfl (by decide) rfl ?_
              refine x_iload_n dX9_works_230 rfl ?_
              refine x_iald dX9_works_231 7 i rfl (rfl) (by omega) (by decide) ?_
              refine x_iadd dX9_works_232 ?_
              refine x_rei (nI ((sumN (crH gr ki ma hd L sd) i) + ((crH gr ki ma hd L sd) i))) (nI_iadd (sumN (crH gr ki ma hd L sd) i) ((crH gr ki ma hd L sd) i)) ?_
              refine x_put (ws' := [(aN, .inr (9, [.ref aNs, .ref aNk, .int nkp, .ref aNf, .ref aNr, .ref aNp, .ref aNb, .ref aNa, .ref aNt, .int (nI nts), .ref aNbo, .ref aNsz, .ref aNnu, .int (nI nta), .int (nI nop), .int nbd, .int 0, .int (nI npr), .int 0, .int 0, .int 1, .ref aNl, .ref aNal, .ref aNlo, .int (nI ((sumN (crH gr ki ma hd L sd) i) + ((crH gr ki ma hd L sd) i))), .ref aNw, .ref aNtr, .ref aNis, .ref aNbg, .ref aNow])), (aNs, .inl (g.2.1 0, 919, .inl (msF gr wk z lk sz br ru ki ma bb ce hd))), (aNt, .inl (g.2.1 0, 60, .inl (nIf tb))), (aNa, .inl (g.2.1 0, 2475, .inl (nIf fcN))), (aNr, .inl (g.2.1 0, 495, .inl (nIf rowB))), (aNb, .inl (g.2.1 0, 4096, .inl (nIf popN))), (aNl, .inl (g.2.1 0, 495, .inl (nIf sd))), (aNal, .inl (g.2.1 0, 495, .inl (nIf (crH gr ki ma hd L sd)))), (aNlo, .inl (g.2.1 0, 12, .inl (nIf (fillT gr (fun q => laN (ki q) (ma q) L sd) nlo))))]) dX9_works_233 0 24 inX9 tyX9_ok nmX9 fl_X9_192 rfl rfl (by decide) rfl (rfl) rfl (xlt rfl) rfl ?_
              refine x_iinc (lv' := [some (.ref aN), some (.int (nI (i + 1))), none]) (nI (i + 1)) dX9_works_236 rfl (nI_addc i 1 rfl) rfl ?_
              refine x_goto dX9_works_239 ?_
              exact ih214 (by omega) ((sumN (crH gr ki ma hd L sd) i) + ((crH gr ki ma hd L sd) i)) (by rfl)
          exact L214_3 0 (Nat.zero_le _) 0 (by rfl)
        · have c136 : ¬ ((nI gr) ≤ (nI u)) := c136
          have c136n := mt (nI_leI (a := gr) (b := u) (by omega) (by omega)).mpr c136
          refine x_aload_n dX9_works_139 rfl ?_
          refine x_get dX9_works_140 0 23 inX9 fl_X9_60 rfl rfl (by decide) rfl ?_
          refine x_iload_n dX9_works_143 rfl ?_
          refine x_iconst 0 dX9_works_144 (by decide) ?_
          refine x_rei (nI 0) rfl ?_
          refine x_iast (ws' := [(aN, .inr (9, [.ref aNs, .ref aNk, .int nkp, .ref aNf, .ref aNr, .ref aNp, .ref aNb, .ref aNa, .ref aNt, .int (nI nts), .ref aNbo, .ref aNsz, .ref aNnu, .int (nI nta), .int (nI nop), .int nbd, .int 0, .int (nI npr), .int 0, .int 0, .int 1, .ref aNl, .ref aNal, .ref aNlo, .int 0, .ref aNw, .ref aNtr, .ref aNis, .ref aNbg, .ref aNow])), (aNs, .inl (g.2.1 0, 919, .inl (msF gr wk z lk sz br ru ki ma bb ce hd))), (aNt, .inl (g.2.1 0, 60, .inl (nIf tb))), (aNa, .inl (g.2.1 0, 2475, .inl (nIf fcN))), (aNr, .inl (g.2.1 0, 495, .inl (nIf rowB))), (aNb, .inl (g.2.1 0, 4096, .inl (nIf popN))), (aNl, .inl (g.2.1 0, 495, .inl (nIf sd))), (aNal, .inl (g.2.1 0, 495, .inl (nIf (crH u ki ma hd L sd)))), (aNlo, .inl (g.2.1 0, 12, .inl (nIf (updN (fillT u (fun q => laN (ki q) (ma q) L sd) nlo) u 0))))]) dX9_works_145 8 u rfl (rfl) (by omega) (by decide) (by rw [upd_nIf]; rfl) ?_
          refine x_iconst 0 dX9_works_146 (by decide) ?_
          refine x_istore_n (lv' := [some (.ref aN), some (.int (nI u)), some (.int 0)]) dX9_works_147 (xlt rfl) rfl ?_
          have L148_4 : ∀ (i : Nat), i ≤ 495 → ∀ (lh : Nat → Nat), lh = updN (fillT u (fun q => laN (ki q) (ma q) L sd) nlo) u (sumN (fun p => lkN (ki u) (ma u) p L (sd p)) i) → Xs κ g 27 0 0 cX9_works yX9_works none Q 0 0 148 [some (.ref aN), some (.int (nI u)), some (.int (nI i))] [] [(aN, .inr (9, [.ref aNs, .ref aNk, .int nkp, .ref aNf, .ref aNr, .ref aNp, .ref aNb, .ref aNa, .ref aNt, .int (nI nts), .ref aNbo, .ref aNsz, .ref aNnu, .int (nI nta), .int (nI nop), .int nbd, .int 0, .int (nI npr), .int 0, .int 0, .int 1, .ref aNl, .ref aNal, .ref aNlo, .int 0, .ref aNw, .ref aNtr, .ref aNis, .ref aNbg, .ref aNow])), (aNs, .inl (g.2.1 0, 919, .inl (msF gr wk z lk sz br ru ki ma bb ce hd))), (aNt, .inl (g.2.1 0, 60, .inl (nIf tb))), (aNa, .inl (g.2.1 0, 2475, .inl (nIf fcN))), (aNr, .inl (g.2.1 0, 495, .inl (nIf rowB))), (aNb, .inl (g.2.1 0, 4096, .inl (nIf popN))), (aNl, .inl (g.2.1 0, 495, .inl (nIf sd))), (aNal, .inl (g.2.1 0, 495, .inl (nIf (crH u ki ma hd L sd)))), (aNlo, .inl (g.2.1 0, 12, .inl (nIf lh)))] := by
            refine upTo 495 (fun i hi148 ih148 => ?_)
            intro lh elh
            subst elh
            refine x_iload_n dX9_works_148 rfl ?_
            refine x_sipush 495 dX9_works_149 (by decide) ?_
            refine x_icmp_ge dX9_works_152 (fun c152 => ?_) (fun c152 => ?_)
            · have c152 : 495 ≤ (nI i) := c152
              have c152n := (nI_leI (a := 495) (b := i) (by omega) (by omega)).mp c152
              have hxc152 : i = 495 := by omega
              try rw [hxc152]
              refine x_iconst 0 dX9_works_176 (by decide) ?_
              refine x_istore_n (lv' := [some (.ref aN), some (.int (nI u)), some (.int 0)]) dX9_works_177 (xlt rfl) rfl ?_
              have L178_5 : ∀ (i : Nat), i ≤ 495 → ∀ (ah : Nat → Nat), ah = fillT i (crH (u + 1) ki ma hd L sd) (crH u ki ma hd L sd) → Xs κ g 27 0 0 cX9_works yX9_works none Q 0 0 178 [some (.ref aN), some (.int (nI u)), some (.int (nI i))] [] [(aN, .inr (9, [.ref aNs, .ref aNk, .int nkp, .ref aNf, .ref aNr, .ref aNp, .ref aNb, .ref aNa, .ref aNt, .int (nI nts), .ref aNbo, .ref aNsz, .ref aNnu, .int (nI nta), .int (nI nop), .int nbd, .int 0, .int (nI npr), .int 0, .int 0, .int 1, .ref aNl, .ref aNal, .ref aNlo, .int 0, .ref aNw, .ref aNtr, .ref aNis, .ref aNbg, .ref aNow])), (aNs, .inl (g.2.1 0, 919, .inl (msF gr wk z lk sz br ru ki ma bb ce hd))), (aNt, .inl (g.2.1 0, 60, .inl (nIf tb))), (aNa, .inl (g.2.1 0, 2475, .inl (nIf fcN))), (aNr, .inl (g.2.1 0, 495, .inl (nIf rowB))), (aNb, .inl (g.2.1 0, 4096, .inl (nIf popN))), (aNl, .inl (g.2.1 0, 495, .inl (nIf sd))), (aNal, .inl (g.2.1 0, 495, .inl (nIf ah))), (aNlo, .inl (g.2.1 0, 12, .inl (nIf (updN (fillT u (fun q => laN (ki q) (ma q) L sd) nlo) u (sumN (fun p => lkN (ki u) (ma u) p L (sd p)) 495)))))] := by
                refine upTo 495 (fun i hi178 ih178 => ?_)
                intro ah eah
                subst eah
                refine x_iload_n dX9_works_178 rfl ?_
                refine x_sipush 495 dX9_works_179 (by decide) ?_
                refine x_icmp_ge dX9_works_182 (fun c182 => ?_) (fun c182 => ?_)
                · have c182 : 495 ≤ (nI i) := c182
                  have c182n := (nI_leI (a := 495) (b := i) (by omega) (by omega)).mp c182
                  have hxc182 : i = 495 := by omega
                  try rw [hxc182]
                  refine x_funi (ws' := [(aN, .inr (9, [.ref aNs, .ref aNk, .int nkp, .ref aNf, .ref aNr, .ref aNp, .ref aNb, .ref aNa, .ref aNt, .int (nI nts), .ref aNbo, .ref aNsz, .ref aNnu, .int (nI nta), .int (nI nop), .int nbd, .int 0, .int (nI npr), .int 0, .int 0, .int 1, .ref aNl, .ref aNal, .ref aNlo, .int 0, .ref aNw, .ref aNtr, .ref aNis, .ref aNbg, .ref aNow])), (aNs, .inl (g.2.1 0, 919, .inl (msF gr wk z lk sz br ru ki ma bb ce hd))), (aNt, .inl (g.2.1 0, 60, .inl (nIf tb))), (aNa, .inl (g.2.1 0, 2475, .inl (nIf fcN))), (aNr, .inl (g.2.1 0, 495, .inl (nIf rowB))), (aNb, .inl (g.2.1 0, 4096, .inl (nIf popN))), (aNl, .inl (g.2.1 0, 495, .inl (nIf sd))), (aNal, .inl (g.2.1 0, 495, .inl (nIf (crH (u + 1) ki ma hd L sd)))), (aNlo, .inl (g.2.1 0, 12, .inl (nIf (updN (fillT u (fun q => laN (ki q) (ma q) L sd) nlo) u (sumN (fun p => lkN (ki u) (ma u) p L (sd p)) 495)))))]) (q0 := 7) rfl (fun j hj => congrArg nI (fillT_in _ _ hj)) rfl ?_
                  refine x_iinc (lv' := [some (.ref aN), some (.int (nI (u + 1))), some (.int 495)]) (nI (u + 1)) dX9_works_206 rfl (nI_addc u 1 rfl) rfl ?_
                  refine x_goto dX9_works_209 ?_
                  refine x_fgt (lv' := [some (.ref aN), some (.int (nI (u + 1))), none]) ⟨Or.inr rfl, Or.inr rfl, Or.inl rfl, trivial⟩ ?_
                  exact ih129 (by omega) (crH (u + 1) ki ma hd L sd) (by rfl) (updN (fillT u (fun q => laN (ki q) (ma q) L sd) nlo) u (sumN (fun p => lkN (ki u) (ma u) p L (sd p)) 495)) (by exact lo_step nlo (fun q => laN (ki q) (ma q) L sd) u)
                · have c182 : ¬ (495 ≤ (nI i)) := c182
                  have c182n := mt (nI_leI (a := 495) (b := i) (by omega) (by omega)).mpr c182
                  refine x_aload_n dX9_works_185 rfl ?_
                  refine x_get dX9_works_186 0 22 inX9 fl_X9_57 rfl rfl (by decide) rfl ?_
                  refine x_iload_n dX9_works_189 rfl ?_
                  refine x_dup2 dX9_works_190 rfl rfl ?_
                  refine x_iald dX9_works_191 7 i rfl (rfl) (by omega) (by decide) ?_
                  refine x_aload_n dX9_works_192 rfl ?_
                  refine x_iload_n dX9_works_193 rfl ?_
                  refine x_iload_n dX9_works_194 rfl ?_
                  refine x_cVi0 dX9_works_195 ml_X9_195 mX9_crossedBy (ct_X9_crossedBy κ.2.1 g aN aNs aNk aNf aNr aNp aNb aNa aNt aNbo aNsz aNnu aNl aNal aNlo aNw aNtr aNis aNbg aNow nts nta nop npr 0 nkp nbd 0 0 0 1 gr wk lk sz br z ru ki ma bb hd ce L i u sd (updN (fillT u (fun q => laN (ki q) (ma q) L sd) nlo) u (sumN (fun p => lkN (ki u) (ma u) p L (sd p)) 495)) (by omega) (hki) (hma) (by omega) (hwk) (hlat) (hL) (hsd) (updN_self _ _ _)) [0, 1, 4, 5, 6, 8] rfl rfl 0 rfl rfl rfl (Nat.le_of_ble_eq_true rfl) (by decide) (Nat.le_refl _) (Nat.le_refl _) ?_
                  refine x_iadd dX9_works_198 ?_
                  refine x_rei (nI (((fillT i (crH (u + 1) ki ma hd L sd) (crH u ki ma hd L sd)) i) + (shN (ki u) (ma u) i L sd))) (nI_iadd ((fillT i (crH (u + 1) ki ma hd L sd) (crH u ki ma hd L sd)) i) (shN (ki u) (ma u) i L sd)) ?_
                  refine x_iast (ws' := [(aN, .inr (9, [.ref aNs, .ref aNk, .int nkp, .ref aNf, .ref aNr, .ref aNp, .ref aNb, .ref aNa, .ref aNt, .int (nI nts), .ref aNbo, .ref aNsz, .ref aNnu, .int (nI nta), .int (nI nop), .int nbd, .int 0, .int (nI npr), .int 0, .int 0, .int 1, .ref aNl, .ref aNal, .ref aNlo, .int 0, .ref aNw, .ref aNtr, .ref aNis, .ref aNbg, .ref aNow])), (aNs, .inl (g.2.1 0, 919, .inl (msF gr wk z lk sz br ru ki ma bb ce hd))), (aNt, .inl (g.2.1 0, 60, .inl (nIf tb))), (aNa, .inl (g.2.1 0, 2475, .inl (nIf fcN))), (aNr, .inl (g.2.1 0, 495, .inl (nIf rowB))), (aNb, .inl (g.2.1 0, 4096, .inl (nIf popN))), (aNl, .inl (g.2.1 0, 495, .inl (nIf sd))), (aNal, .inl (g.2.1 0, 495, .inl (nIf (updN (fillT i (crH (u + 1) ki ma hd L sd) (crH u ki ma hd L sd)) i (((fillT i (crH (u + 1) ki ma hd L sd) (crH u ki ma hd L sd)) i) + (shN (ki u) (ma u) i L sd)))))), (aNlo, .inl (g.2.1 0, 12, .inl (nIf (updN (fillT u (fun q => laN (ki q) (ma q) L sd) nlo) u (sumN (fun p => lkN (ki u) (ma u) p L (sd p)) 495)))))]) dX9_works_199 7 i rfl (rfl) (by omega) (by decide) (by rw [upd_nIf]; rfl) ?_
                  refine x_iinc (lv' := [some (.ref aN), some (.int (nI u)), some (.int (nI (i + 1)))]) (nI (i + 1)) dX9_works_200 rfl (nI_addc i 1 rfl) rfl ?_
                  refine x_goto dX9_works_203 ?_
                  exact ih178 (by omega) (updN (fillT i (crH (u + 1) ki ma hd L sd) (crH u ki ma hd L sd)) i (((fillT i (crH (u + 1) ki ma hd L sd) (crH u ki ma hd L sd)) i) + (shN (ki u) (ma u) i L sd))) (by exact crH_step gr ki ma hd L sd u i)
              exact L178_5 0 (Nat.zero_le _) (crH u ki ma hd L sd) (by exact (fillT_0 _ _).symm)
            · have c152 : ¬ (495 ≤ (nI i)) := c152
              have c152n := mt (nI_leI (a := 495) (b := i) (by omega) (by omega)).mpr c152
              refine x_aload_n dX9_works_155 rfl ?_
              refine x_get dX9_works_156 0 23 inX9 fl_X9_60 rfl rfl (by decide) rfl ?_
              refine x_iload_n dX9_works_159 rfl ?_
              refine x_dup2 dX9_works_160 rfl rfl ?_
              refine x_iald dX9_works_161 8 u rfl (rfl) (by omega) (by decide) ?_
              refine x_rei (nI (sumN (fun p => lkN (ki u) (ma u) p L (sd p)) i)) (congrArg nI (updN_self _ _ _)) ?_
              refine x_aload_n dX9_works_162 rfl ?_
              refine x_iload_n dX9_works_163 rfl ?_
              refine x_iload_n dX9_works_164 rfl ?_
              refine x_cVi0 dX9_works_165 ml_X9_188 mX9_likesBy (ct_X9_likesBy κ.2.1 g aN aNs aNk aNf aNr aNp aNb aNa aNt aNbo aNsz aNnu aNl aNal aNlo aNw aNtr aNis aNbg aNow nts nta nop npr 0 nkp nbd 0 0 0 1 gr wk lk sz br z ru ki ma bb hd ce L i u sd (by omega) (hki) (hma) (by omega) (hwk) (hlat) (hL)) [0, 1, 4, 5, 6] rfl rfl 0 rfl rfl rfl (Nat.le_of_ble_eq_true rfl) (by decide) (Nat.le_refl _) (Nat.le_refl _) ?_
              refine x_iadd dX9_works_168 ?_
              refine x_rei (nI ((sumN (fun p => lkN (ki u) (ma u) p L (sd p)) i) + (lkN (ki u) (ma u) i L (sd i)))) (nI_iadd (sumN (fun p => lkN (ki u) (ma u) p L (sd p)) i) (lkN (ki u) (ma u) i L (sd i))) ?_
              refine x_iast (ws' := [(aN, .inr (9, [.ref aNs, .ref aNk, .int nkp, .ref aNf, .ref aNr, .ref aNp, .ref aNb, .ref aNa, .ref aNt, .int (nI nts), .ref aNbo, .ref aNsz, .ref aNnu, .int (nI nta), .int (nI nop), .int nbd, .int 0, .int (nI npr), .int 0, .int 0, .int 1, .ref aNl, .ref aNal, .ref aNlo, .int 0, .ref aNw, .ref aNtr, .ref aNis, .ref aNbg, .ref aNow])), (aNs, .inl (g.2.1 0, 919, .inl (msF gr wk z lk sz br ru ki ma bb ce hd))), (aNt, .inl (g.2.1 0, 60, .inl (nIf tb))), (aNa, .inl (g.2.1 0, 2475, .inl (nIf fcN))), (aNr, .inl (g.2.1 0, 495, .inl (nIf rowB))), (aNb, .inl (g.2.1 0, 4096, .inl (nIf popN))), (aNl, .inl (g.2.1 0, 495, .inl (nIf sd))), (aNal, .inl (g.2.1 0, 495, .inl (nIf (crH u ki ma hd L sd)))), (aNlo, .inl (g.2.1 0, 12, .inl (nIf (updN (updN (fillT u (fun q => laN (ki q) (ma q) L sd) nlo) u (sumN (fun p => lkN (ki u) (ma u) p L (sd p)) i)) u ((sumN (fun p => lkN (ki u) (ma u) p L (sd p)) i) + (lkN (ki u) (ma u) i L (sd i)))))))]) dX9_works_169 8 u rfl (rfl) (by omega) (by decide) (by rw [upd_nIf]; rfl) ?_
              refine x_iinc (lv' := [some (.ref aN), some (.int (nI u)), some (.int (nI (i + 1)))]) (nI (i + 1)) dX9_works_170 rfl (nI_addc i 1 rfl) rfl ?_
              refine x_goto dX9_works_173 ?_
              exact ih148 (by omega) (updN (updN (fillT u (fun q => laN (ki q) (ma q) L sd) nlo) u (sumN (fun p => lkN (ki u) (ma u) p L (sd p)) i)) u ((sumN (fun p => lkN (ki u) (ma u) p L (sd p)) i) + (lkN (ki u) (ma u) i L (sd i)))) (by exact updN_acc _ u (fun p => lkN (ki u) (ma u) p L (sd p)) i)
          exact L148_4 0 (Nat.zero_le _) (updN (fillT u (fun q => laN (ki q) (ma q) L sd) nlo) u 0) (by rfl)
      exact L129_2 0 (Nat.zero_le _) (crH 0 ki ma hd L sd) (by rfl) nlo (by exact (fillT_0 _ _).symm)
    · have c102 : ¬ (495 ≤ (nI i)) := c102
      have c102n := mt (nI_leI (a := 495) (b := i) (by omega) (by omega)).mpr c102
      refine x_aload_n dX9_works_105 rfl ?_
      refine x_get dX9_works_106 0 22 inX9 fl_X9_57 rfl rfl (by decide) rfl ?_
      refine x_iload_n dX9_works_109 rfl ?_
      refine x_aload_n dX9_works_110 rfl ?_
      refine x_get dX9_works_111 0 0 inX9 fl_X9_7 rfl rfl (by decide) rfl ?_
      refine x_sipush 424 dX9_works_114 (by decide) ?_
      refine x_iload_n dX9_works_117 rfl ?_
      refine x_iadd dX9_works_118 ?_
      refine x_rei (nI (424 + i)) (nI_iadd 424 i) ?_
      refine x_iald dX9_works_119 1 (424 + i) rfl (rfl) (by omega) (by decide) ?_
      refine x_rei (nI (hd i)) (msg_hd (x := i) (by omega)) ?_
      refine x_iast (ws' := [(aN, .inr (9, [.ref aNs, .ref aNk, .int nkp, .ref aNf, .ref aNr, .ref aNp, .ref aNb, .ref aNa, .ref aNt, .int (nI nts), .ref aNbo, .ref aNsz, .ref aNnu, .int (nI nta), .int (nI nop), .int nbd, .int 0, .int (nI npr), .int 0, .int 0, .int 1, .ref aNl, .ref aNal, .ref aNlo, .int 0, .ref aNw, .ref aNtr, .ref aNis, .ref aNbg, .ref aNow])), (aNs, .inl (g.2.1 0, 919, .inl (msF gr wk z lk sz br ru ki ma bb ce hd))), (aNt, .inl (g.2.1 0, 60, .inl (nIf tb))), (aNa, .inl (g.2.1 0, 2475, .inl (nIf fcN))), (aNr, .inl (g.2.1 0, 495, .inl (nIf rowB))), (aNb, .inl (g.2.1 0, 4096, .inl (nIf popN))), (aNl, .inl (g.2.1 0, 495, .inl (nIf sd))), (aNal, .inl (g.2.1 0, 495, .inl (nIf (updN (fillT i (crH 0 ki ma hd L sd) nal) i (hd i))))), (aNlo, .inl (g.2.1 0, 12, .inl (nIf nlo)))]) dX9_works_120 7 i rfl (rfl) (by omega) (by decide) (by rw [upd_nIf]; rfl) ?_
      refine x_iinc (lv' := [some (.ref aN), some (.int (nI (i + 1))), none]) (nI (i + 1)) dX9_works_121 rfl (nI_addc i 1 rfl) rfl ?_
      refine x_goto dX9_works_124 ?_
      exact ih98 (by omega) (updN (fillT i (crH 0 ki ma hd L sd) nal) i (hd i)) (by exact fillT_updN i (crH 0 ki ma hd L sd) nal)
  exact L98_1 0 (Nat.zero_le _) nal (by exact (fillT_0 _ _).symm)

-- == wk_old ==
set_option maxRecDepth 100000 in
set_option maxHeartbeats 4000000 in
theorem ct_wk_old (l : Launch) (g : XG) (aN aNs aNk aNf aNr aNp aNb aNa aNt aNbo aNsz aNnu aNl aNal aNlo aNw aNtr aNis aNbg aNow nts nta nop npr nac : Nat) (nkp nbd nsn nwn : Int32) (gr wk lk sz br : Nat) (z : Int32) (ru ki ma bb hd : Nat → Nat) (ce : Nat → Int32) (tb nli nal nlo : Nat → Nat) : Ct l g 27 0 0 yX9_works cX9_works 3 none [.ref aN] [(aN, .inr (9, [.ref aNs, .ref aNk, .int nkp, .ref aNf, .ref aNr, .ref aNp, .ref aNb, .ref aNa, .ref aNt, .int (nI nts), .ref aNbo, .ref aNsz, .ref aNnu, .int (nI nta), .int (nI nop), .int nbd, .int 0, .int (nI npr), .int 0, .int nsn, .int nwn, .ref aNl, .ref aNal, .ref aNlo, .int (nI nac), .ref aNw, .ref aNtr, .ref aNis, .ref aNbg, .ref aNow])), (aNs, .inl (g.2.1 0, 919, .inl (msF gr wk z lk sz br ru ki ma bb ce hd))), (aNt, .inl (g.2.1 0, 60, .inl (nIf tb))), (aNa, .inl (g.2.1 0, 2475, .inl (nIf fcN))), (aNr, .inl (g.2.1 0, 495, .inl (nIf rowB))), (aNb, .inl (g.2.1 0, 4096, .inl (nIf popN))), (aNl, .inl (g.2.1 0, 495, .inl (nIf nli))), (aNal, .inl (g.2.1 0, 495, .inl (nIf nal))), (aNlo, .inl (g.2.1 0, 12, .inl (nIf nlo)))] (xpv [(aN, .inr (9, [.ref aNs, .ref aNk, .int nkp, .ref aNf, .ref aNr, .ref aNp, .ref aNb, .ref aNa, .ref aNt, .int (nI nts), .ref aNbo, .ref aNsz, .ref aNnu, .int (nI nta), .int (nI nop), .int nbd, .int 0, .int (nI npr), .int 0, .int nsn, .int nwn, .ref aNl, .ref aNal, .ref aNlo, .int (nI nac), .ref aNw, .ref aNtr, .ref aNis, .ref aNbg, .ref aNow])), (aNs, .inl (g.2.1 0, 919, .inl (msF gr wk z lk sz br ru ki ma bb ce hd))), (aNt, .inl (g.2.1 0, 60, .inl (nIf tb))), (aNa, .inl (g.2.1 0, 2475, .inl (nIf fcN))), (aNr, .inl (g.2.1 0, 495, .inl (nIf rowB))), (aNb, .inl (g.2.1 0, 4096, .inl (nIf popN))), (aNl, .inl (g.2.1 0, 495, .inl (nIf nli))), (aNal, .inl (g.2.1 0, 495, .inl (nIf nal))), (aNlo, .inl (g.2.1 0, 12, .inl (nIf nlo)))]) := by
  refine Ct.ofX (lv := [some (.ref aN), none, none]) (by decide) rfl (Nat.le_of_ble_eq_true rfl) (fun κ => ?_)
  generalize hQ : xQ κ g 0 0 _ = Q
  refine x_aload_n dX9_works_0 rfl ?_
  refine x_get dX9_works_1 0 18 inX9 fl_X9_44 rfl rfl (by decide) rfl ?_
  refine x_if_ne dX9_works_4 (fun c4 => ?_) (fun c4 => ?_)
  · exact absurd c4 (by decide)
  rw [← hQ]
  refine x_vret dX9_works_7 rfl (Nat.le_of_ble_eq_true rfl) (Nat.le_of_ble_eq_true rfl) ?_
  exact ⟨rfl, rfl⟩

-- == X9_works ==
theorem ct_X9_works (l : Launch) (g : XG) (aN aNs aNk aNf aNr aNp aNb aNa aNt aNbo aNsz aNnu aNl aNal aNlo aNw aNtr aNis aNbg aNow nts nta nop npr nac : Nat) (nkp nbd nnw nsn nwn : Int32) (gr wk lk sz br : Nat) (z : Int32) (ru ki ma bb hd : Nat → Nat) (ce : Nat → Int32) (tb nli nal nlo sd : Nat → Nat) (L : Nat) (hgr : gr ≤ 12) (hki : ∀ j, ki j ≤ 7) (hma : ∀ j, ma j ≤ 99999) (hwk : wk ≤ 40) (hlat : latI ce wk = nI L) (hL : L < 4096) (hsz : sz ≤ 60) (hbb : ∀ j, bb j < 256) (hsd : ∀ p, sd p ≤ 99) (hsv : ∀ p, p < 495 → sd p = if lk = 1 then clN (txV bb sz wk L p) else 1) (hlk : lk ≤ 1) (hwo : (nnw = 1 ∧ (nsn = 1 ∨ (nsn = 0 ∧ nli = sd))) ∨ (nnw = 0 ∧ nsn = 0 ∧ nli = sd ∧ nal = crH gr ki ma hd L sd ∧ nac = toH gr ki ma hd L sd ∧ ∀ q, q < gr → nlo q = laN (ki q) (ma q) L sd)) : Ct l g 27 0 0 yX9_works cX9_works 3 none [.ref aN] [(aN, .inr (9, [.ref aNs, .ref aNk, .int nkp, .ref aNf, .ref aNr, .ref aNp, .ref aNb, .ref aNa, .ref aNt, .int (nI nts), .ref aNbo, .ref aNsz, .ref aNnu, .int (nI nta), .int (nI nop), .int nbd, .int 0, .int (nI npr), .int nnw, .int nsn, .int nwn, .ref aNl, .ref aNal, .ref aNlo, .int (nI nac), .ref aNw, .ref aNtr, .ref aNis, .ref aNbg, .ref aNow])), (aNs, .inl (g.2.1 0, 919, .inl (msF gr wk z lk sz br ru ki ma bb ce hd))), (aNt, .inl (g.2.1 0, 60, .inl (nIf tb))), (aNa, .inl (g.2.1 0, 2475, .inl (nIf fcN))), (aNr, .inl (g.2.1 0, 495, .inl (nIf rowB))), (aNb, .inl (g.2.1 0, 4096, .inl (nIf popN))), (aNl, .inl (g.2.1 0, 495, .inl (nIf nli))), (aNal, .inl (g.2.1 0, 495, .inl (nIf nal))), (aNlo, .inl (g.2.1 0, 12, .inl (nIf nlo)))] (fun vv_ ww_ => ∃ (zat : Nat) (zop : Nat) (zbd : Int32) (zpr : Nat) (lo2 : Nat → Nat), vv_ = none ∧ ww_ = [(aN, .inr (9, [.ref aNs, .ref aNk, .int nkp, .ref aNf, .ref aNr, .ref aNp, .ref aNb, .ref aNa, .ref aNt, .int (nI nts), .ref aNbo, .ref aNsz, .ref aNnu, .int (nI zat), .int (nI zop), .int zbd, .int 0, .int (nI zpr), .int 0, .int 0, .int (wnI nnw nwn), .ref aNl, .ref aNal, .ref aNlo, .int (nI (toH gr ki ma hd L sd)), .ref aNw, .ref aNtr, .ref aNis, .ref aNbg, .ref aNow])), (aNs, .inl (g.2.1 0, 919, .inl (msF gr wk z lk sz br ru ki ma bb ce hd))), (aNt, .inl (g.2.1 0, 60, .inl (nIf tb))), (aNa, .inl (g.2.1 0, 2475, .inl (nIf fcN))), (aNr, .inl (g.2.1 0, 495, .inl (nIf rowB))), (aNb, .inl (g.2.1 0, 4096, .inl (nIf popN))), (aNl, .inl (g.2.1 0, 495, .inl (nIf sd))), (aNal, .inl (g.2.1 0, 495, .inl (nIf (crH gr ki ma hd L sd)))), (aNlo, .inl (g.2.1 0, 12, .inl (nIf lo2)))] ∧ (∀ q, q < gr → lo2 q = laN (ki q) (ma q) L sd)) := by
  rcases hwo with ⟨rfl, rfl | ⟨rfl, rfl⟩⟩ | ⟨rfl, rfl, rfl, rfl, rfl, hlo⟩
  · exact ct_wk_1 l g _ _ _ _ _ _ _ _ _ _ _ _ _ _ _ _ _ _ _ _ _ _ _ _ _ _ _ _ _ _ _ _ _ _ _ _ _ _ _ _ _ _ _ _ _ _ hgr hki hma hwk hlat hL hsz hbb hsd hsv hlk
  · exact ct_wk_0 l g _ _ _ _ _ _ _ _ _ _ _ _ _ _ _ _ _ _ _ _ _ _ _ _ _ _ _ _ _ _ _ _ _ _ _ _ _ _ _ _ _ _ _ _ _ hgr hki hma hwk hlat hL hsz hbb hsd hsv hlk
  · exact (ct_wk_old l g _ _ _ _ _ _ _ _ _ _ _ _ _ _ _ _ _ _ _ _ _ _ _ _ _ _ _ _ _ _ _ _ _ _ _ _ _ _ _ _ _ _ _ _ _ ).mono (fun v w h => ⟨_, _, _, _, nlo, h.1, h.2, hlo⟩)

