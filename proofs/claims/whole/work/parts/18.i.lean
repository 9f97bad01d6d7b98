theorem sayN_le (cs : Nat) (v : Int32) : sayN cs v ≤ 99 := by
  unfold sayN; split
  · decide
  · exact clN_le v
def sdF (cs : Nat) (V : Nat → Int32) : Nat → Nat := fun p => sayN cs (V p)
theorem sdF_le (cs : Nat) (V : Nat → Int32) : ∀ p, sdF cs V p ≤ 99 := fun p => sayN_le cs (V p)
/-- CROSSED of a row by all people and by hand -/
def crF (gr : Nat) (ki ma bp bt : Nat → Nat) (br L : Nat) (sd : Nat → Nat) : Nat → Nat := fun p => sumN (fun q => shN (ki q) (ma q) p L sd) gr + sumN (fun i => if bp i = p then bt i else 0) br
theorem crF_0 (gr : Nat) (ki ma bp bt : Nat → Nat) (L : Nat) (sd : Nat → Nat) : crF gr ki ma bp bt 0 L sd = fun p => sumN (fun q => shN (ki q) (ma q) p L sd) gr := by funext p; simp [crF, sumN]
theorem crF_step (gr : Nat) (ki ma bp bt : Nat → Nat) (i L : Nat) (sd : Nat → Nat) : updN (crF gr ki ma bp bt i L sd) (bp i) (crF gr ki ma bp bt i L sd (bp i) + bt i) = crF gr ki ma bp bt (i + 1) L sd := by
  funext p
  simp only [updN]
  by_cases e : p = bp i
  · subst e; simp [crF, sumN, Nat.add_assoc]
  · have e2 : ¬ bp i = p := fun q => e q.symm
    simp [crF, sumN, e, e2]
def totF (gr : Nat) (ki ma bp bt : Nat → Nat) (br L : Nat) (sd : Nat → Nat) : Nat := sumN (crF gr ki ma bp bt br L sd) 495

-- == isPlace_n ==
theorem ct_isPlace_n (l : Launch) (g : XG) (n : Nat) (hn : n < 495) : Ct l g 2 0 0 yX8_isPlace cX8_isPlace 1 (some .boolean) [.int (nI n)] [] (xpi (1) []) := by
  have h := ct_X8_isPlace l g (nI n)
  rw [show wI (nI n) 0 494 = 1 from wI_nat (a := 0) (b := 494) ⟨Nat.zero_le _, by omega, by omega, by decide⟩] at h
  exact h

-- == settle_0 ==
theorem dX0_settle_0 : xd cX0_settle 0 (.aload_n 0) 1 1 := ⟨by decide +kernel, rfl⟩
theorem dX0_settle_1 : xd cX0_settle 1 (.getfield 51) 3 4 := ⟨by decide +kernel, rfl⟩
theorem dX0_settle_4 : xj cX0_settle 4 (.ifCond .eq) 7 8 := ⟨4, by decide +kernel, rfl, by decide⟩
theorem dX0_settle_7 : xd cX0_settle 7 .return_ 1 8 := ⟨by decide +kernel, rfl⟩
theorem dX0_settle_8 : xd cX0_settle 8 (.aload_n 0) 1 9 := ⟨by decide +kernel, rfl⟩
theorem dX0_settle_9 : xd cX0_settle 9 (.aload_n 0) 1 10 := ⟨by decide +kernel, rfl⟩
theorem dX0_settle_10 : xd cX0_settle 10 (.getfield 30) 3 13 := ⟨by decide +kernel, rfl⟩
theorem dX0_settle_13 : xd cX0_settle 13 (.invokevirtual 58) 3 16 := ⟨by decide +kernel, rfl⟩
theorem dX0_settle_16 : xd cX0_settle 16 (.putfield 64) 3 19 := ⟨by decide +kernel, rfl⟩
theorem dX0_settle_19 : xd cX0_settle 19 (.iconst 0) 1 20 := ⟨by decide +kernel, rfl⟩
theorem dX0_settle_20 : xd cX0_settle 20 (.istore_n 1) 1 21 := ⟨by decide +kernel, rfl⟩
theorem dX0_settle_21 : xd cX0_settle 21 (.iload_n 1) 1 22 := ⟨by decide +kernel, rfl⟩
theorem dX0_settle_22 : xd cX0_settle 22 (.sipush 495) 3 25 := ⟨by decide +kernel, rfl⟩
theorem dX0_settle_25 : xj cX0_settle 25 (.if_icmp .ge) 28 69 := ⟨44, by decide +kernel, rfl, by decide⟩
theorem dX0_settle_28 : xd cX0_settle 28 (.aload_n 0) 1 29 := ⟨by decide +kernel, rfl⟩
theorem dX0_settle_29 : xd cX0_settle 29 (.getfield 9) 3 32 := ⟨by decide +kernel, rfl⟩
theorem dX0_settle_32 : xd cX0_settle 32 (.iload_n 1) 1 33 := ⟨by decide +kernel, rfl⟩
theorem dX0_settle_33 : xd cX0_settle 33 (.aload_n 0) 1 34 := ⟨by decide +kernel, rfl⟩
theorem dX0_settle_34 : xd cX0_settle 34 (.getfield 47) 3 37 := ⟨by decide +kernel, rfl⟩
theorem dX0_settle_37 : xd cX0_settle 37 (.aload_n 0) 1 38 := ⟨by decide +kernel, rfl⟩
theorem dX0_settle_38 : xd cX0_settle 38 (.getfield 34) 3 41 := ⟨by decide +kernel, rfl⟩
theorem dX0_settle_41 : xd cX0_settle 41 (.getfield 68) 3 44 := ⟨by decide +kernel, rfl⟩
theorem dX0_settle_44 : xd cX0_settle 44 (.iload_n 1) 1 45 := ⟨by decide +kernel, rfl⟩
theorem dX0_settle_45 : xd cX0_settle 45 .iaload 1 46 := ⟨by decide +kernel, rfl⟩
theorem dX0_settle_46 : xd cX0_settle 46 (.aload_n 0) 1 47 := ⟨by decide +kernel, rfl⟩
theorem dX0_settle_47 : xd cX0_settle 47 (.getfield 34) 3 50 := ⟨by decide +kernel, rfl⟩
theorem dX0_settle_50 : xd cX0_settle 50 (.getfield 73) 3 53 := ⟨by decide +kernel, rfl⟩
theorem dX0_settle_53 : xd cX0_settle 53 (.iload_n 1) 1 54 := ⟨by decide +kernel, rfl⟩
theorem dX0_settle_54 : xd cX0_settle 54 .iaload 1 55 := ⟨by decide +kernel, rfl⟩
theorem dX0_settle_55 : xd cX0_settle 55 (.aload_n 0) 1 56 := ⟨by decide +kernel, rfl⟩
theorem dX0_settle_56 : xd cX0_settle 56 (.getfield 64) 3 59 := ⟨by decide +kernel, rfl⟩
theorem dX0_settle_59 : xd cX0_settle 59 (.invokevirtual 76) 3 62 := ⟨by decide +kernel, rfl⟩
theorem dX0_settle_62 : xd cX0_settle 62 .iastore 1 63 := ⟨by decide +kernel, rfl⟩
theorem dX0_settle_63 : xd cX0_settle 63 (.iinc 1 1) 3 66 := ⟨by decide +kernel, rfl⟩
theorem dX0_settle_66 : xj cX0_settle 66 .goto 69 21 := ⟨(-45), by decide +kernel, rfl, by decide⟩
theorem dX0_settle_69 : xd cX0_settle 69 (.aload_n 0) 1 70 := ⟨by decide +kernel, rfl⟩
theorem dX0_settle_70 : xd cX0_settle 70 (.getfield 24) 3 73 := ⟨by decide +kernel, rfl⟩
theorem dX0_settle_73 : xd cX0_settle 73 (.iconst 0) 1 74 := ⟨by decide +kernel, rfl⟩
theorem dX0_settle_74 : xd cX0_settle 74 (.invokestatic 80) 3 77 := ⟨by decide +kernel, rfl⟩
theorem dX0_settle_77 : xd cX0_settle 77 (.iconst 0) 1 78 := ⟨by decide +kernel, rfl⟩
theorem dX0_settle_78 : xd cX0_settle 78 (.istore_n 1) 1 79 := ⟨by decide +kernel, rfl⟩
theorem dX0_settle_79 : xd cX0_settle 79 (.iload_n 1) 1 80 := ⟨by decide +kernel, rfl⟩
theorem dX0_settle_80 : xd cX0_settle 80 (.aload_n 0) 1 81 := ⟨by decide +kernel, rfl⟩
theorem dX0_settle_81 : xd cX0_settle 81 (.getfield 30) 3 84 := ⟨by decide +kernel, rfl⟩
theorem dX0_settle_84 : xd cX0_settle 84 (.getfield 86) 3 87 := ⟨by decide +kernel, rfl⟩
theorem dX0_settle_87 : xj cX0_settle 87 (.if_icmp .ge) 90 139 := ⟨52, by decide +kernel, rfl, by decide⟩
theorem dX0_settle_90 : xd cX0_settle 90 (.iload_n 1) 1 91 := ⟨by decide +kernel, rfl⟩
theorem dX0_settle_91 : xd cX0_settle 91 (.bipush 12) 2 93 := ⟨by decide +kernel, rfl⟩
theorem dX0_settle_93 : xj cX0_settle 93 (.if_icmp .ge) 96 139 := ⟨46, by decide +kernel, rfl, by decide⟩
theorem dX0_settle_96 : xd cX0_settle 96 (.aload_n 0) 1 97 := ⟨by decide +kernel, rfl⟩
theorem dX0_settle_97 : xd cX0_settle 97 (.aload_n 0) 1 98 := ⟨by decide +kernel, rfl⟩
theorem dX0_settle_98 : xd cX0_settle 98 (.getfield 30) 3 101 := ⟨by decide +kernel, rfl⟩
theorem dX0_settle_101 : xd cX0_settle 101 (.getfield 89) 3 104 := ⟨by decide +kernel, rfl⟩
theorem dX0_settle_104 : xd cX0_settle 104 (.iload_n 1) 1 105 := ⟨by decide +kernel, rfl⟩
theorem dX0_settle_105 : xd cX0_settle 105 .iaload 1 106 := ⟨by decide +kernel, rfl⟩
theorem dX0_settle_106 : xd cX0_settle 106 (.aload_n 0) 1 107 := ⟨by decide +kernel, rfl⟩
theorem dX0_settle_107 : xd cX0_settle 107 (.getfield 30) 3 110 := ⟨by decide +kernel, rfl⟩
theorem dX0_settle_110 : xd cX0_settle 110 (.getfield 92) 3 113 := ⟨by decide +kernel, rfl⟩
theorem dX0_settle_113 : xd cX0_settle 113 (.iload_n 1) 1 114 := ⟨by decide +kernel, rfl⟩
theorem dX0_settle_114 : xd cX0_settle 114 .iaload 1 115 := ⟨by decide +kernel, rfl⟩
theorem dX0_settle_115 : xd cX0_settle 115 (.invokevirtual 95) 3 118 := ⟨by decide +kernel, rfl⟩
theorem dX0_settle_118 : xd cX0_settle 118 (.istore_n 2) 1 119 := ⟨by decide +kernel, rfl⟩
theorem dX0_settle_119 : xd cX0_settle 119 (.aload_n 0) 1 120 := ⟨by decide +kernel, rfl⟩
theorem dX0_settle_120 : xd cX0_settle 120 (.aload_n 0) 1 121 := ⟨by decide +kernel, rfl⟩
theorem dX0_settle_121 : xd cX0_settle 121 (.getfield 30) 3 124 := ⟨by decide +kernel, rfl⟩
theorem dX0_settle_124 : xd cX0_settle 124 (.getfield 92) 3 127 := ⟨by decide +kernel, rfl⟩
theorem dX0_settle_127 : xd cX0_settle 127 (.iload_n 1) 1 128 := ⟨by decide +kernel, rfl⟩
theorem dX0_settle_128 : xd cX0_settle 128 .iaload 1 129 := ⟨by decide +kernel, rfl⟩
theorem dX0_settle_129 : xd cX0_settle 129 (.iload_n 2) 1 130 := ⟨by decide +kernel, rfl⟩
theorem dX0_settle_130 : xd cX0_settle 130 (.invokevirtual 99) 3 133 := ⟨by decide +kernel, rfl⟩
theorem dX0_settle_133 : xd cX0_settle 133 (.iinc 1 1) 3 136 := ⟨by decide +kernel, rfl⟩
theorem dX0_settle_136 : xj cX0_settle 136 .goto 139 79 := ⟨(-57), by decide +kernel, rfl, by decide⟩
theorem dX0_settle_139 : xd cX0_settle 139 (.iconst 0) 1 140 := ⟨by decide +kernel, rfl⟩
theorem dX0_settle_140 : xd cX0_settle 140 (.istore_n 1) 1 141 := ⟨by decide +kernel, rfl⟩
theorem dX0_settle_141 : xd cX0_settle 141 (.iload_n 1) 1 142 := ⟨by decide +kernel, rfl⟩
theorem dX0_settle_142 : xd cX0_settle 142 (.aload_n 0) 1 143 := ⟨by decide +kernel, rfl⟩
theorem dX0_settle_143 : xd cX0_settle 143 (.getfield 30) 3 146 := ⟨by decide +kernel, rfl⟩
theorem dX0_settle_146 : xd cX0_settle 146 (.getfield 103) 3 149 := ⟨by decide +kernel, rfl⟩
theorem dX0_settle_149 : xj cX0_settle 149 (.if_icmp .ge) 152 205 := ⟨56, by decide +kernel, rfl, by decide⟩
theorem dX0_settle_152 : xd cX0_settle 152 (.iload_n 1) 1 153 := ⟨by decide +kernel, rfl⟩
theorem dX0_settle_153 : xd cX0_settle 153 (.bipush 40) 2 155 := ⟨by decide +kernel, rfl⟩
theorem dX0_settle_155 : xj cX0_settle 155 (.if_icmp .ge) 158 205 := ⟨50, by decide +kernel, rfl, by decide⟩
theorem dX0_settle_158 : xd cX0_settle 158 (.aload_n 0) 1 159 := ⟨by decide +kernel, rfl⟩
theorem dX0_settle_159 : xd cX0_settle 159 (.getfield 30) 3 162 := ⟨by decide +kernel, rfl⟩
theorem dX0_settle_162 : xd cX0_settle 162 (.getfield 106) 3 165 := ⟨by decide +kernel, rfl⟩
theorem dX0_settle_165 : xd cX0_settle 165 (.iload_n 1) 1 166 := ⟨by decide +kernel, rfl⟩
theorem dX0_settle_166 : xd cX0_settle 166 .iaload 1 167 := ⟨by decide +kernel, rfl⟩
theorem dX0_settle_167 : xd cX0_settle 167 (.invokestatic 109) 3 170 := ⟨by decide +kernel, rfl⟩
theorem dX0_settle_170 : xj cX0_settle 170 (.ifCond .eq) 173 199 := ⟨29, by decide +kernel, rfl, by decide⟩
theorem dX0_settle_173 : xd cX0_settle 173 (.aload_n 0) 1 174 := ⟨by decide +kernel, rfl⟩
theorem dX0_settle_174 : xd cX0_settle 174 (.getfield 24) 3 177 := ⟨by decide +kernel, rfl⟩
theorem dX0_settle_177 : xd cX0_settle 177 (.aload_n 0) 1 178 := ⟨by decide +kernel, rfl⟩
theorem dX0_settle_178 : xd cX0_settle 178 (.getfield 30) 3 181 := ⟨by decide +kernel, rfl⟩
theorem dX0_settle_181 : xd cX0_settle 181 (.getfield 106) 3 184 := ⟨by decide +kernel, rfl⟩
theorem dX0_settle_184 : xd cX0_settle 184 (.iload_n 1) 1 185 := ⟨by decide +kernel, rfl⟩
theorem dX0_settle_185 : xd cX0_settle 185 .iaload 1 186 := ⟨by decide +kernel, rfl⟩
theorem dX0_settle_186 : xd cX0_settle 186 .dup2 1 187 := ⟨by decide +kernel, rfl⟩
theorem dX0_settle_187 : xd cX0_settle 187 .iaload 1 188 := ⟨by decide +kernel, rfl⟩
theorem dX0_settle_188 : xd cX0_settle 188 (.aload_n 0) 1 189 := ⟨by decide +kernel, rfl⟩
theorem dX0_settle_189 : xd cX0_settle 189 (.getfield 30) 3 192 := ⟨by decide +kernel, rfl⟩
theorem dX0_settle_192 : xd cX0_settle 192 (.getfield 113) 3 195 := ⟨by decide +kernel, rfl⟩
theorem dX0_settle_195 : xd cX0_settle 195 (.iload_n 1) 1 196 := ⟨by decide +kernel, rfl⟩
theorem dX0_settle_196 : xd cX0_settle 196 .iaload 1 197 := ⟨by decide +kernel, rfl⟩
theorem dX0_settle_197 : xd cX0_settle 197 .iadd 1 198 := ⟨by decide +kernel, rfl⟩
theorem dX0_settle_198 : xd cX0_settle 198 .iastore 1 199 := ⟨by decide +kernel, rfl⟩
theorem dX0_settle_199 : xd cX0_settle 199 (.iinc 1 1) 3 202 := ⟨by decide +kernel, rfl⟩
theorem dX0_settle_202 : xj cX0_settle 202 .goto 205 141 := ⟨(-61), by decide +kernel, rfl, by decide⟩
theorem dX0_settle_205 : xd cX0_settle 205 (.aload_n 0) 1 206 := ⟨by decide +kernel, rfl⟩
theorem dX0_settle_206 : xd cX0_settle 206 (.iconst 0) 1 207 := ⟨by decide +kernel, rfl⟩
theorem dX0_settle_207 : xd cX0_settle 207 (.putfield 116) 3 210 := ⟨by decide +kernel, rfl⟩
theorem dX0_settle_210 : xd cX0_settle 210 (.iconst 0) 1 211 := ⟨by decide +kernel, rfl⟩
theorem dX0_settle_211 : xd cX0_settle 211 (.istore_n 1) 1 212 := ⟨by decide +kernel, rfl⟩
theorem dX0_settle_212 : xd cX0_settle 212 (.iload_n 1) 1 213 := ⟨by decide +kernel, rfl⟩
theorem dX0_settle_213 : xd cX0_settle 213 (.sipush 495) 3 216 := ⟨by decide +kernel, rfl⟩
theorem dX0_settle_216 : xj cX0_settle 216 (.if_icmp .ge) 219 240 := ⟨24, by decide +kernel, rfl, by decide⟩
theorem dX0_settle_219 : xd cX0_settle 219 (.aload_n 0) 1 220 := ⟨by decide +kernel, rfl⟩
theorem dX0_settle_220 : xd cX0_settle 220 .dup 1 221 := ⟨by decide +kernel, rfl⟩
theorem dX0_settle_221 : xd cX0_settle 221 (.getfield 116) 3 224 := ⟨by decide +kernel, rfl⟩
theorem dX0_settle_224 : xd cX0_settle 224 (.aload_n 0) 1 225 := ⟨by decide +kernel, rfl⟩
theorem dX0_settle_225 : xd cX0_settle 225 (.getfield 24) 3 228 := ⟨by decide +kernel, rfl⟩
theorem dX0_settle_228 : xd cX0_settle 228 (.iload_n 1) 1 229 := ⟨by decide +kernel, rfl⟩
theorem dX0_settle_229 : xd cX0_settle 229 .iaload 1 230 := ⟨by decide +kernel, rfl⟩
theorem dX0_settle_230 : xd cX0_settle 230 .iadd 1 231 := ⟨by decide +kernel, rfl⟩
theorem dX0_settle_231 : xd cX0_settle 231 (.putfield 116) 3 234 := ⟨by decide +kernel, rfl⟩
theorem dX0_settle_234 : xd cX0_settle 234 (.iinc 1 1) 3 237 := ⟨by decide +kernel, rfl⟩
theorem dX0_settle_237 : xj cX0_settle 237 .goto 240 212 := ⟨(-25), by decide +kernel, rfl, by decide⟩
theorem dX0_settle_240 : xd cX0_settle 240 (.aload_n 0) 1 241 := ⟨by decide +kernel, rfl⟩
theorem dX0_settle_241 : xd cX0_settle 241 (.iconst 1) 1 242 := ⟨by decide +kernel, rfl⟩
theorem dX0_settle_242 : xd cX0_settle 242 (.putfield 51) 3 245 := ⟨by decide +kernel, rfl⟩
theorem dX0_settle_245 : xd cX0_settle 245 .return_ 1 246 := ⟨by decide +kernel, rfl⟩

set_option maxRecDepth 100000 in
set_option maxHeartbeats 4000000 in
theorem ct_settle_0 (l : Launch) (g : XG) (aC aS aL aV aO aCs aCl aCh aCw aCc aCb tot lat : Nat) (se sw : Int32) (aLb aLp aVs aSk aSm aSp aSt aSc aSr aSe gr br cs wk : Nat) (z : Int32) (sd li cr ki ma bp bt : Nat → Nat) (co ce sk : Nat → Int32) (V : Nat → Int32) (L : Nat) (hgr : gr ≤ 12) (hbr : br ≤ 40) (hcs : cs ≤ 60) (hwk : wk ≤ 40) (hki : ∀ j, ki j ≤ 7) (hma : ∀ j, ma j ≤ 99999) (hbp : ∀ j, bp j < 495) (hlat : latI ce wk = nI L) (hL : L < 4096) (hV : cs ≠ 0 → ∀ p, p < 495 → evR (nmI wk L p) (cdF co 0 cs) [] = some [V p]) : Ct l g 6 0 0 yX0_settle cX0_settle 3 none [.ref aC] [(aC, .inr (0, [.ref aS, .ref aL, .ref aV, .ref aO, .ref aCs, .ref aCl, .ref aCh, .ref aCw, .ref aCc, .ref aCb, .int (nI tot), .int (nI lat), .int 0, .int sw])), (aCs, .inl (g.2.1 0, 495, .inl (nIf sd))), (aCl, .inl (g.2.1 0, 495, .inl (nIf li))), (aCc, .inl (g.2.1 0, 495, .inl (nIf cr))), (aL, .inr (5, [.ref aLb, .ref aLp])), (aLb, .inl (g.2.1 0, 495, .inl (nIf rowB))), (aLp, .inl (g.2.1 0, 495, .inl (nIf packB))), (aV, .inr (2, [.ref aS, .ref aVs])), (aVs, .inl (g.2.1 0, 60, .inl sk)), (aS, .inr (6, [.ref aSk, .ref aSm, .ref aSp, .ref aSt, .ref aSc, .ref aSr, .ref aSe, .int (nI gr), .int (nI br), .int (nI cs), .int (nI wk), .int z])), (aSk, .inl (g.2.1 0, 12, .inl (nIf ki))), (aSm, .inl (g.2.1 0, 12, .inl (nIf ma))), (aSp, .inl (g.2.1 0, 40, .inl (nIf bp))), (aSt, .inl (g.2.1 0, 40, .inl (nIf bt))), (aSc, .inl (g.2.1 0, 60, .inl co)), (aSe, .inl (g.2.1 0, 320, .inl ce))] (fun vv_ ww_ => ∃ (li2 : Nat → Nat) (sk2 : Nat → Int32), vv_ = none ∧ ww_ = [(aC, .inr (0, [.ref aS, .ref aL, .ref aV, .ref aO, .ref aCs, .ref aCl, .ref aCh, .ref aCw, .ref aCc, .ref aCb, .int (nI (totF gr ki ma bp bt br L (sdF cs V))), .int (nI L), .int 1, .int sw])), (aCs, .inl (g.2.1 0, 495, .inl (nIf (sdF cs V)))), (aCl, .inl (g.2.1 0, 495, .inl (nIf li2))), (aCc, .inl (g.2.1 0, 495, .inl (nIf (crF gr ki ma bp bt br L (sdF cs V))))), (aL, .inr (5, [.ref aLb, .ref aLp])), (aLb, .inl (g.2.1 0, 495, .inl (nIf rowB))), (aLp, .inl (g.2.1 0, 495, .inl (nIf packB))), (aV, .inr (2, [.ref aS, .ref aVs])), (aVs, .inl (g.2.1 0, 60, .inl sk2)), (aS, .inr (6, [.ref aSk, .ref aSm, .ref aSp, .ref aSt, .ref aSc, .ref aSr, .ref aSe, .int (nI gr), .int (nI br), .int (nI cs), .int (nI wk), .int z])), (aSk, .inl (g.2.1 0, 12, .inl (nIf ki))), (aSm, .inl (g.2.1 0, 12, .inl (nIf ma))), (aSp, .inl (g.2.1 0, 40, .inl (nIf bp))), (aSt, .inl (g.2.1 0, 40, .inl (nIf bt))), (aSc, .inl (g.2.1 0, 60, .inl co)), (aSe, .inl (g.2.1 0, 320, .inl ce))]) := by
  refine Ct.ofX (lv := [some (.ref aC), none, none]) (by decide) rfl (Nat.le_of_ble_eq_true rfl) (fun κ => ?_)
  generalize hQ : xQ κ g 0 0 _ = Q
  have hsd := sdF_le cs V
  refine x_aload_n dX0_settle_0 rfl ?_
  refine x_get dX0_settle_1 0 12 inX0 fl_X0_51 rfl rfl (by decide) rfl ?_
  refine x_if_eq dX0_settle_4 (fun c4 => ?_) (fun c4 => ?_)
  rotate_left
  · exact absurd c4 (by decide)
  refine x_aload_n dX0_settle_8 rfl ?_
  refine x_aload_n dX0_settle_9 rfl ?_
  refine x_get dX0_settle_10 0 0 inX0 fl_X0_30 rfl rfl (by decide) rfl ?_
  refine x_cVi0 dX0_settle_13 ml_X0_58 mX6_latestDraw (ct_X6_latestDraw κ.2.1 g aS aSk aSm aSp aSt aSc aSr aSe gr br cs wk z ce L (hwk) (hlat)) [9, 15] rfl rfl 9 rfl rfl rfl (Nat.le_of_ble_eq_true rfl) (by decide) (Nat.le_refl _) (Nat.le_refl _) ?_
  refine x_put (ws' := [(aC, .inr (0, [.ref aS, .ref aL, .ref aV, .ref aO, .ref aCs, .ref aCl, .ref aCh, .ref aCw, .ref aCc, .ref aCb, .int (nI tot), .int (nI L), .int 0, .int sw])), (aCs, .inl (g.2.1 0, 495, .inl (nIf sd))), (aCl, .inl (g.2.1 0, 495, .inl (nIf li))), (aCc, .inl (g.2.1 0, 495, .inl (nIf cr))), (aL, .inr (5, [.ref aLb, .ref aLp])), (aLb, .inl (g.2.1 0, 495, .inl (nIf rowB))), (aLp, .inl (g.2.1 0, 495, .inl (nIf packB))), (aV, .inr (2, [.ref aS, .ref aVs])), (aVs, .inl (g.2.1 0, 60, .inl sk)), (aS, .inr (6, [.ref aSk, .ref aSm, .ref aSp, .ref aSt, .ref aSc, .ref aSr, .ref aSe, .int (nI gr), .int (nI br), .int (nI cs), .int (nI wk), .int z])), (aSk, .inl (g.2.1 0, 12, .inl (nIf ki))), (aSm, .inl (g.2.1 0, 12, .inl (nIf ma))), (aSp, .inl (g.2.1 0, 40, .inl (nIf bp))), (aSt, .inl (g.2.1 0, 40, .inl (nIf bt))), (aSc, .inl (g.2.1 0, 60, .inl co)), (aSe, .inl (g.2.1 0, 320, .inl ce))]) dX0_settle_16 0 11 inX0 tyX0_ok nmX0 fl_X0_64 rfl rfl (by decide) rfl (rfl) rfl (xlt rfl) rfl ?_
  refine x_iconst 0 dX0_settle_19 (by decide) ?_
  refine x_istore_n (lv' := [some (.ref aC), some (.int 0), none]) dX0_settle_20 (xlt rfl) rfl ?_
  have L21_1 : ∀ (i : Nat), i ≤ 495 → ∀ (sf : Nat → Nat), sf = fillT i (sdF cs V) sd → ∀ (sq : Nat → Int32), Xs κ g 6 0 0 cX0_settle yX0_settle none Q 0 0 21 [some (.ref aC), some (.int (nI i)), none] [] [(aC, .inr (0, [.ref aS, .ref aL, .ref aV, .ref aO, .ref aCs, .ref aCl, .ref aCh, .ref aCw, .ref aCc, .ref aCb, .int (nI tot), .int (nI L), .int 0, .int sw])), (aCs, .inl (g.2.1 0, 495, .inl (nIf sf))), (aCl, .inl (g.2.1 0, 495, .inl (nIf li))), (aCc, .inl (g.2.1 0, 495, .inl (nIf cr))), (aL, .inr (5, [.ref aLb, .ref aLp])), (aLb, .inl (g.2.1 0, 495, .inl (nIf rowB))), (aLp, .inl (g.2.1 0, 495, .inl (nIf packB))), (aV, .inr (2, [.ref aS, .ref aVs])), (aVs, .inl (g.2.1 0, 60, .inl sq)), (aS, .inr (6, [.ref aSk, .ref aSm, .ref aSp, .ref aSt, .ref aSc, .ref aSr, .ref aSe, .int (nI gr), .int (nI br), .int (nI cs), .int (nI wk), .int z])), (aSk, .inl (g.2.1 0, 12, .inl (nIf ki))), (aSm, .inl (g.2.1 0, 12, .inl (nIf ma))), (aSp, .inl (g.2.1 0, 40, .inl (nIf bp))), (aSt, .inl (g.2.1 0, 40, .inl (nIf bt))), (aSc, .inl (g.2.1 0, 60, .inl co)), (aSe, .inl (g.2.1 0, 320, .inl ce))] := by
    refine upTo 495 (fun i hi21 ih21 => ?_)
    intro sf esf
    subst esf
    intro sq
    refine x_iload_n dX0_settle_21 rfl ?_
    refine x_sipush 495 dX0_settle_22 (by decide) ?_
    refine x_icmp_ge dX0_settle_25 (fun c25 => ?_) (fun c25 => ?_)
    · have c25 : 495 ≤ (nI i) := c25
      have c25n := (nI_leI (a := 495) (b := i) (by omega) (by omega)).mp c25
      have hxc25 : i = 495 := by omega
      try rw [hxc25]
      refine x_funi (ws' := [(aC, .inr (0, [.ref aS, .ref aL, .ref aV, .ref aO, .ref aCs, .ref aCl, .ref aCh, .ref aCw, .ref aCc, .ref aCb, .int (nI tot), .int (nI L), .int 0, .int sw])), (aCs, .inl (g.2.1 0, 495, .inl (nIf (sdF cs V)))), (aCl, .inl (g.2.1 0, 495, .inl (nIf li))), (aCc, .inl (g.2.1 0, 495, .inl (nIf cr))), (aL, .inr (5, [.ref aLb, .ref aLp])), (aLb, .inl (g.2.1 0, 495, .inl (nIf rowB))), (aLp, .inl (g.2.1 0, 495, .inl (nIf packB))), (aV, .inr (2, [.ref aS, .ref aVs])), (aVs, .inl (g.2.1 0, 60, .inl sq)), (aS, .inr (6, [.ref aSk, .ref aSm, .ref aSp, .ref aSt, .ref aSc, .ref aSr, .ref aSe, .int (nI gr), .int (nI br), .int (nI cs), .int (nI wk), .int z])), (aSk, .inl (g.2.1 0, 12, .inl (nIf ki))), (aSm, .inl (g.2.1 0, 12, .inl (nIf ma))), (aSp, .inl (g.2.1 0, 40, .inl (nIf bp))), (aSt, .inl (g.2.1 0, 40, .inl (nIf bt))), (aSc, .inl (g.2.1 0, 60, .inl co)), (aSe, .inl (g.2.1 0, 320, .inl ce))]) (q0 := 1) rfl (fun j hj => congrArg nI (fillT_in _ _ hj)) rfl ?_
      refine x_aload_n dX0_settle_69 rfl ?_
      refine x_get dX0_settle_70 0 8 inX0 fl_X0_24 rfl rfl (by decide) rfl ?_
      refine x_iconst 0 dX0_settle_73 (by decide) ?_
      refine x_cSw (ws' := [(aC, .inr (0, [.ref aS, .ref aL, .ref aV, .ref aO, .ref aCs, .ref aCl, .ref aCh, .ref aCw, .ref aCc, .ref aCb, .int (nI tot), .int (nI L), .int 0, .int sw])), (aCs, .inl (g.2.1 0, 495, .inl (nIf (sdF cs V)))), (aCl, .inl (g.2.1 0, 495, .inl (nIf li))), (aCc, .inl (g.2.1 0, 495, .inl (nIf (fun _ => 0)))), (aL, .inr (5, [.ref aLb, .ref aLp])), (aLb, .inl (g.2.1 0, 495, .inl (nIf rowB))), (aLp, .inl (g.2.1 0, 495, .inl (nIf packB))), (aV, .inr (2, [.ref aS, .ref aVs])), (aVs, .inl (g.2.1 0, 60, .inl sq)), (aS, .inr (6, [.ref aSk, .ref aSm, .ref aSp, .ref aSt, .ref aSc, .ref aSr, .ref aSe, .int (nI gr), .int (nI br), .int (nI cs), .int (nI wk), .int z])), (aSk, .inl (g.2.1 0, 12, .inl (nIf ki))), (aSm, .inl (g.2.1 0, 12, .inl (nIf ma))), (aSp, .inl (g.2.1 0, 40, .inl (nIf bp))), (aSt, .inl (g.2.1 0, 40, .inl (nIf bt))), (aSc, .inl (g.2.1 0, 60, .inl co)), (aSe, .inl (g.2.1 0, 320, .inl ce))]) dX0_settle_74 ml_X0_80 mJ7_fill_53178 (ct_J7_fill_53178 κ.2.1 g aCc 495 0 (nIf cr) (by decide)) [3] rfl rfl rfl (Nat.le_of_ble_eq_true rfl) (by decide) (Nat.le_refl _) (Nat.le_refl _) (rfl : [aCc] = [aCc]) rfl ?_
      refine x_iconst 0 dX0_settle_77 (by decide) ?_
      refine x_istore_n (lv' := [some (.ref aC), some (.int 0), none]) dX0_settle_78 (xlt rfl) rfl ?_
      have L79_2 : ∀ (i : Nat), i ≤ gr → ∀ (cf : Nat → Nat), cf = (fun p => sumN (fun q => shN (ki q) (ma q) p L (sdF cs V)) i) → ∀ (lq : Nat → Nat), Xs κ g 6 0 0 cX0_settle yX0_settle none Q 0 0 79 [some (.ref aC), some (.int (nI i)), none] [] [(aC, .inr (0, [.ref aS, .ref aL, .ref aV, .ref aO, .ref aCs, .ref aCl, .ref aCh, .ref aCw, .ref aCc, .ref aCb, .int (nI tot), .int (nI L), .int 0, .int sw])), (aCs, .inl (g.2.1 0, 495, .inl (nIf (sdF cs V)))), (aCl, .inl (g.2.1 0, 495, .inl (nIf lq))), (aCc, .inl (g.2.1 0, 495, .inl (nIf cf))), (aL, .inr (5, [.ref aLb, .ref aLp])), (aLb, .inl (g.2.1 0, 495, .inl (nIf rowB))), (aLp, .inl (g.2.1 0, 495, .inl (nIf packB))), (aV, .inr (2, [.ref aS, .ref aVs])), (aVs, .inl (g.2.1 0, 60, .inl sq)), (aS, .inr (6, [.ref aSk, .ref aSm, .ref aSp, .ref aSt, .ref aSc, .ref aSr, .ref aSe, .int (nI gr), .int (nI br), .int (nI cs), .int (nI wk), .int z])), (aSk, .inl (g.2.1 0, 12, .inl (nIf ki))), (aSm, .inl (g.2.1 0, 12, .inl (nIf ma))), (aSp, .inl (g.2.1 0, 40, .inl (nIf bp))), (aSt, .inl (g.2.1 0, 40, .inl (nIf bt))), (aSc, .inl (g.2.1 0, 60, .inl co)), (aSe, .inl (g.2.1 0, 320, .inl ce))] := by
        refine upTo gr (fun i hi79 ih79 => ?_)
        intro cf ecf
        subst ecf
        intro lq
        refine x_iload_n dX0_settle_79 rfl ?_
        refine x_aload_n dX0_settle_80 rfl ?_
        refine x_get dX0_settle_81 0 0 inX0 fl_X0_30 rfl rfl (by decide) rfl ?_
        refine x_get dX0_settle_84 9 7 inX6 fl_X0_86 rfl rfl (by decide) rfl ?_
        refine x_icmp_ge dX0_settle_87 (fun c87 => ?_) (fun c87 => ?_)
        · have c87 : (nI gr) ≤ (nI i) := c87
          have c87n := (nI_leI (a := gr) (b := i) (by omega) (by omega)).mp c87
          have hxc87 : i = gr := by omega
          try rw [hxc87]
          refine x_iconst 0 dX0_settle_139 (by decide) ?_
          refine x_istore_n (lv' := [some (.ref aC), some (.int 0), none]) dX0_settle_140 (xlt rfl) rfl ?_
          have L141_3 : ∀ (i : Nat), i ≤ br → ∀ (cf : Nat → Nat), cf = crF gr ki ma bp bt i L (sdF cs V) → Xs κ g 6 0 0 cX0_settle yX0_settle none Q 0 0 141 [some (.ref aC), some (.int (nI i)), none] [] [(aC, .inr (0, [.ref aS, .ref aL, .ref aV, .ref aO, .ref aCs, .ref aCl, .ref aCh, .ref aCw, .ref aCc, .ref aCb, .int (nI tot), .int (nI L), .int 0, .int sw])), (aCs, .inl (g.2.1 0, 495, .inl (nIf (sdF cs V)))), (aCl, .inl (g.2.1 0, 495, .inl (nIf lq))), (aCc, .inl (g.2.1 0, 495, .inl (nIf cf))), (aL, .inr (5, [.ref aLb, .ref aLp])), (aLb, .inl (g.2.1 0, 495, .inl (nIf rowB))), (aLp, .inl (g.2.1 0, 495, .inl (nIf packB))), (aV, .inr (2, [.ref aS, .ref aVs])), (aVs, .inl (g.2.1 0, 60, .inl sq)), (aS, .inr (6, [.ref aSk, .ref aSm, .ref aSp, .ref aSt, .ref aSc, .ref aSr, .ref aSe, .int (nI gr), .int (nI br), .int (nI cs), .int (nI wk), .int z])), (aSk, .inl (g.2.1 0, 12, .inl (nIf ki))), (aSm, .inl (g.2.1 0, 12, .inl (nIf ma))), (aSp, .inl (g.2.1 0, 40, .inl (nIf bp))), (aSt, .inl (g.2.1 0, 40, .inl (nIf bt))), (aSc, .inl (g.2.1 0, 60, .inl co)), (aSe, .inl (g.2.1 0, 320, .inl ce))] := by
            refine upTo br (fun i hi141 ih141 => ?_)
            intro cf ecf
            subst ecf
            have hbi := hbp i
            refine x_iload_n dX0_settle_141 rfl ?_
            refine x_aload_n dX0_settle_142 rfl ?_
            refine x_get dX0_settle_143 0 0 inX0 fl_X0_30 rfl rfl (by decide) rfl ?_
            refine x_get dX0_settle_146 9 8 inX6 fl_X0_103 rfl rfl (by decide) rfl ?_
            refine x_icmp_ge dX0_settle_149 (fun c149 => ?_) (fun c149 => ?_)
            · have c149 : (nI br) ≤ (nI i) := c149
              have c149n := (nI_leI (a := br) (b := i) (by omega) (by omega)).mp c149
              have hxc149 : i = br := by omega
              try rw [hxc149]
              refine x_aload_n dX0_settle_205 rfl ?_
              refine x_iconst 0 dX0_settle_206 (by decide) ?_
              refine x_put (ws' := [(aC, .inr (0, [.ref aS, .ref aL, .ref aV, .ref aO, .ref aCs, .ref aCl, .ref aCh, .ref aCw, .ref aCc, .ref aCb, .int 0, .int (nI L), .int 0, .int sw])), (aCs, .inl (g.2.1 0, 495, .inl (nIf (sdF cs V)))), (aCl, .inl (g.2.1 0, 495, .inl (nIf lq))), (aCc, .inl (g.2.1 0, 495, .inl (nIf (crF gr ki ma bp bt br L (sdF cs V))))), (aL, .inr (5, [.ref aLb, .ref aLp])), (aLb, .inl (g.2.1 0, 495, .inl (nIf rowB))), (aLp, .inl (g.2.1 0, 495, .inl (nIf packB))), (aV, .inr (2, [.ref aS, .ref aVs])), (aVs, .inl (g.2.1 0, 60, .inl sq)), (aS, .inr (6, [.ref aSk, .ref aSm, .ref aSp, .ref aSt, .ref aSc, .ref aSr, .ref aSe, .int (nI gr), .int (nI br), .int (nI cs), .int (nI wk), .int z])), (aSk, .inl (g.2.1 0, 12, .inl (nIf ki))), (aSm, .inl (g.2.1 0, 12, .inl (nIf ma))), (aSp, .inl (g.2.1 0, 40, .inl (nIf bp))), (aSt, .inl (g.2.1 0, 40, .inl (nIf bt))), (aSc, .inl (g.2.1 0, 60, .inl co)), (aSe, .inl (g.2.1 0, 320, .inl ce))]) dX0_settle_207 0 10 inX0 tyX0_ok nmX0 fl_X0_116 rfl rfl (by decide) rfl (rfl) rfl (xlt rfl) rfl ?_
              refine x_iconst 0 dX0_settle_210 (by decide) ?_
              refine x_istore_n (lv' := [some (.ref aC), some (.int 0), none]) dX0_settle_211 (xlt rfl) rfl ?_
              have L212_4 : ∀ (i : Nat), i ≤ 495 → ∀ (tt : Nat), tt = sumN (crF gr ki ma bp bt br L (sdF cs V)) i → Xs κ g 6 0 0 cX0_settle yX0_settle none Q 0 0 212 [some (.ref aC), some (.int (nI i)), none] [] [(aC, .inr (0, [.ref aS, .ref aL, .ref aV, .ref aO, .ref aCs, .ref aCl, .ref aCh, .ref aCw, .ref aCc, .ref aCb, .int (nI tt), .int (nI L), .int 0, .int sw])), (aCs, .inl (g.2.1 0, 495, .inl (nIf (sdF cs V)))), (aCl, .inl (g.2.1 0, 495, .inl (nIf lq))), (aCc, .inl (g.2.1 0, 495, .inl (nIf (crF gr ki ma bp bt br L (sdF cs V))))), (aL, .inr (5, [.ref aLb, .ref aLp])), (aLb, .inl (g.2.1 0, 495, .inl (nIf rowB))), (aLp, .inl (g.2.1 0, 495, .inl (nIf packB))), (aV, .inr (2, [.ref aS, .ref aVs])), (aVs, .inl (g.2.1 0, 60, .inl sq)), (aS, .inr (6, [.ref aSk, .ref aSm, .ref aSp, .ref aSt, .ref aSc, .ref aSr, .ref aSe, .int (nI gr), .int (nI br), .int (nI cs), .int (nI wk), .int z])), (aSk, .inl (g.2.1 0, 12, .inl (nIf ki))), (aSm, .inl (g.2.1 0, 12, .inl (nIf ma))), (aSp, .inl (g.2.1 0, 40, .inl (nIf bp))), (aSt, .inl (g.2.1 0, 40, .inl (nIf bt))), (aSc, .inl (g.2.1 0, 60, .inl co)), (aSe, .inl (g.2.1 0, 320, .inl ce))] := by
                refine upTo 495 (fun i hi212 ih212 => ?_)
                intro tt ett
                subst ett
                refine x_iload_n dX0_settle_212 rfl ?_
                refine x_sipush 495 dX0_settle_213 (by decide) ?_
                refine x_icmp_ge dX0_settle_216 (fun c216 => ?_) (fun c216 => ?_)
                · have c216 : 495 ≤ (nI i) := c216
                  have c216n := (nI_leI (a := 495) (b := i) (by omega) (by omega)).mp c216
                  have hxc216 : i = 495 := by omega
                  try rw [hxc216]
                  refine x_aload_n dX0_settle_240 rfl ?_
                  refine x_iconst 1 dX0_settle_241 (by decide) ?_
                  refine x_put (ws' := [(aC, .inr (0, [.ref aS, .ref aL, .ref aV, .ref aO, .ref aCs, .ref aCl, .ref aCh, .ref aCw, .ref aCc, .ref aCb, .int (nI ((sumN (crF gr ki ma bp bt br L (sdF cs V)) 495))), .int (nI L), .int 1, .int sw])), (aCs, .inl (g.2.1 0, 495, .inl (nIf (sdF cs V)))), (aCl, .inl (g.2.1 0, 495, .inl (nIf lq))), (aCc, .inl (g.2.1 0, 495, .inl (nIf (crF gr ki ma bp bt br L (sdF cs V))))), (aL, .inr (5, [.ref aLb, .ref aLp])), (aLb, .inl (g.2.1 0, 495, .inl (nIf rowB))), (aLp, .inl (g.2.1 0, 495, .inl (nIf packB))), (aV, .inr (2, [.ref aS, .ref aVs])), (aVs, .inl (g.2.1 0, 60, .inl sq)), (aS, .inr (6, [.ref aSk, .ref aSm, .ref aSp, .ref aSt, .ref aSc, .ref aSr, .ref aSe, .int (nI gr), .int (nI br), .int (nI cs), .int (nI wk), .int z])), (aSk, .inl (g.2.1 0, 12, .inl (nIf ki))), (aSm, .inl (g.2.1 0, 12, .inl (nIf ma))), (aSp, .inl (g.2.1 0, 40, .inl (nIf bp))), (aSt, .inl (g.2.1 0, 40, .inl (nIf bt))), (aSc, .inl (g.2.1 0, 60, .inl co)), (aSe, .inl (g.2.1 0, 320, .inl ce))]) dX0_settle_242 0 12 inX0 tyX0_ok nmX0 fl_X0_51 rfl rfl (by decide) rfl (rfl) rfl (xlt rfl) rfl ?_
                  rw [← hQ]
                  refine x_vret dX0_settle_245 rfl (Nat.le_of_ble_eq_true rfl) (Nat.le_of_ble_eq_true rfl) ?_
                  exact ⟨_, _, rfl, rfl⟩
                · have c216 : ¬ (495 ≤ (nI i)) := c216
                  have c216n := mt (nI_leI (a := 495) (b := i) (by omega) (by omega)).mpr c216
                  refine x_aload_n dX0_settle_219 rfl ?_
                  refine x_dup dX0_settle_220 rfl ?_
                  refine x_get dX0_settle_221 0 10 inX0 fl_X0_116 rfl rfl (by decide) rfl ?_
                  refine x_aload_n dX0_settle_224 rfl ?_
                  refine x_get dX0_settle_225 0 8 inX0 fl_X0_24 rfl rfl (by decide) rfl ?_
                  refine x_iload_n dX0_settle_228 rfl ?_
                  refine x_iald dX0_settle_229 3 i rfl (rfl) (by omega) (by decide) ?_
                  refine x_iadd dX0_settle_230 ?_
                  refine x_rei (nI ((sumN (crF gr ki ma bp bt br L (sdF cs V)) i) + ((crF gr ki ma bp bt br L (sdF cs V)) i))) (nI_iadd (sumN (crF gr ki ma bp bt br L (sdF cs V)) i) ((crF gr ki ma bp bt br L (sdF cs V)) i)) ?_
                  refine x_put (ws' := [(aC, .inr (0, [.ref aS, .ref aL, .ref aV, .ref aO, .ref aCs, .ref aCl, .ref aCh, .ref aCw, .ref aCc, .ref aCb, .int (nI ((sumN (crF gr ki ma bp bt br L (sdF cs V)) i) + ((crF gr ki ma bp bt br L (sdF cs V)) i))), .int (nI L), .int 0, .int sw])), (aCs, .inl (g.2.1 0, 495, .inl (nIf (sdF cs V)))), (aCl, .inl (g.2.1 0, 495, .inl (nIf lq))), (aCc, .inl (g.2.1 0, 495, .inl (nIf (crF gr ki ma bp bt br L (sdF cs V))))), (aL, .inr (5, [.ref aLb, .ref aLp])), (aLb, .inl (g.2.1 0, 495, .inl (nIf rowB))), (aLp, .inl (g.2.1 0, 495, .inl (nIf packB))), (aV, .inr (2, [.ref aS, .ref aVs])), (aVs, .inl (g.2.1 0, 60, .inl sq)), (aS, .inr (6, [.ref aSk, .ref aSm, .ref aSp, .ref aSt, .ref aSc, .ref aSr, .ref aSe, .int (nI gr), .int (nI br), .int (nI cs), .int (nI wk), .int z])), (aSk, .inl (g.2.1 0, 12, .inl (nIf ki))), (aSm, .inl (g.2.1 0, 12, .inl (nIf ma))), (aSp, .inl (g.2.1 0, 40, .inl (nIf bp))), (aSt, .inl (g.2.1 0, 40, .inl (nIf bt))), (aSc, .inl (g.2.1 0, 60, .inl co)), (aSe, .inl (g.2.1 0, 320, .inl ce))]) dX0_settle_231 0 10 inX0 tyX0_ok nmX0 fl_X0_116 rfl rfl (by decide) rfl (rfl) rfl (xlt rfl) rfl ?_
                  refine x_iinc (lv' := [some (.ref aC), some (.int (nI (i + 1))), none]) (nI (i + 1)) dX0_settle_234 rfl (nI_addc i 1 rfl) rfl ?_
                  refine x_goto dX0_settle_237 ?_
                  exact ih212 (by omega) ((sumN (crF gr ki ma bp bt br L (sdF cs V)) i) + ((crF gr ki ma bp bt br L (sdF cs V)) i)) (by rfl)
              exact L212_4 0 (Nat.zero_le _) 0 (by rfl)
            · have c149 : ¬ ((nI br) ≤ (nI i)) := c149
              have c149n := mt (nI_leI (a := br) (b := i) (by omega) (by omega)).mpr c149
              refine x_iload_n dX0_settle_152 rfl ?_
              refine x_bipush 40 dX0_settle_153 (by decide) ?_
              refine x_icmp_ge dX0_settle_155 (fun c155 => ?_) (fun c155 => ?_)
              · have c155 : 40 ≤ (nI i) := c155
                have c155n := (nI_leI (a := 40) (b := i) (by omega) (by omega)).mp c155
                exact absurd c155n (by omega)
              · have c155 : ¬ (40 ≤ (nI i)) := c155
                have c155n := mt (nI_leI (a := 40) (b := i) (by omega) (by omega)).mpr c155
                refine x_aload_n dX0_settle_158 rfl ?_
                refine x_get dX0_settle_159 0 0 inX0 fl_X0_30 rfl rfl (by decide) rfl ?_
                refine x_get dX0_settle_162 9 2 inX6 fl_X0_106 rfl rfl (by decide) rfl ?_
                refine x_iload_n dX0_settle_165 rfl ?_
                refine x_iald dX0_settle_166 12 i rfl (rfl) (by omega) (by decide) ?_
                refine x_cSNi dX0_settle_167 (fun h => h.2.2.2.2.2.2.1) mX8_isPlace (ct_isPlace_n κ.2.1 g (bp i) (hbp i)) rfl (Nat.le_of_ble_eq_true rfl) (by decide) (Nat.le_refl _) (Nat.le_refl _) ?_
                refine x_if_eq dX0_settle_170 (fun c170 => ?_) (fun c170 => ?_)
                · exact absurd c170 (by decide)
                refine x_aload_n dX0_settle_173 rfl ?_
                refine x_get dX0_settle_174 0 8 inX0 fl_X0_24 rfl rfl (by decide) rfl ?_
                refine x_aload_n dX0_settle_177 rfl ?_
                refine x_get dX0_settle_178 0 0 inX0 fl_X0_30 rfl rfl (by decide) rfl ?_
                refine x_get dX0_settle_181 9 2 inX6 fl_X0_106 rfl rfl (by decide) rfl ?_
                refine x_iload_n dX0_settle_184 rfl ?_
                refine x_iald dX0_settle_185 12 i rfl (rfl) (by omega) (by decide) ?_
                refine x_dup2 dX0_settle_186 rfl rfl ?_
                refine x_iald dX0_settle_187 3 (bp i) rfl (rfl) (hbp i) (by decide) ?_
                refine x_aload_n dX0_settle_188 rfl ?_
                refine x_get dX0_settle_189 0 0 inX0 fl_X0_30 rfl rfl (by decide) rfl ?_
                refine x_get dX0_settle_192 9 3 inX6 fl_X0_113 rfl rfl (by decide) rfl ?_
                refine x_iload_n dX0_settle_195 rfl ?_
                refine x_iald dX0_settle_196 13 i rfl (rfl) (by omega) (by decide) ?_
                refine x_iadd dX0_settle_197 ?_
                refine x_rei (nI (((crF gr ki ma bp bt i L (sdF cs V)) (bp i)) + (bt i))) (nI_iadd ((crF gr ki ma bp bt i L (sdF cs V)) (bp i)) (bt i)) ?_
                refine x_iast (ws' := [(aC, .inr (0, [.ref aS, .ref aL, .ref aV, .ref aO, .ref aCs, .ref aCl, .ref aCh, .ref aCw, .ref aCc, .ref aCb, .int (nI tot), .int (nI L), .int 0, .int sw])), (aCs, .inl (g.2.1 0, 495, .inl (nIf (sdF cs V)))), (aCl, .inl (g.2.1 0, 495, .inl (nIf lq))), (aCc, .inl (g.2.1 0, 495, .inl (nIf (updN (crF gr ki ma bp bt i L (sdF cs V)) (bp i) (((crF gr ki ma bp bt i L (sdF cs V)) (bp i)) + (bt i)))))), (aL, .inr (5, [.ref aLb, .ref aLp])), (aLb, .inl (g.2.1 0, 495, .inl (nIf rowB))), (aLp, .inl (g.2.1 0, 495, .inl (nIf packB))), (aV, .inr (2, [.ref aS, .ref aVs])), (aVs, .inl (g.2.1 0, 60, .inl sq)), (aS, .inr (6, [.ref aSk, .ref aSm, .ref aSp, .ref aSt, .ref aSc, .ref aSr, .ref aSe, .int (nI gr), .int (nI br), .int (nI cs), .int (nI wk), .int z])), (aSk, .inl (g.2.1 0, 12, .inl (nIf ki))), (aSm, .inl (g.2.1 0, 12, .inl (nIf ma))), (aSp, .inl (g.2.1 0, 40, .inl (nIf bp))), (aSt, .inl (g.2.1 0, 40, .inl (nIf bt))), (aSc, .inl (g.2.1 0, 60, .inl co)), (aSe, .inl (g.2.1 0, 320, .inl ce))]) dX0_settle_198 3 (bp i) rfl (rfl) (hbp i) (by decide) (by rw [upd_nIf]; rfl) ?_
                refine x_iinc (lv' := [some (.ref aC), some (.int (nI (i + 1))), none]) (nI (i + 1)) dX0_settle_199 rfl (nI_addc i 1 rfl) rfl ?_
                refine x_goto dX0_settle_202 ?_
                exact ih141 (by omega) (updN (crF gr ki ma bp bt i L (sdF cs V)) (bp i) (((crF gr ki ma bp bt i L (sdF cs V)) (bp i)) + (bt i))) (by exact crF_step gr ki ma bp bt i L (sdF cs V))
          exact L141_3 0 (Nat.zero_le _) (fun p => sumN (fun q => shN (ki q) (ma q) p L (sdF cs V)) gr) (by exact (crF_0 gr ki ma bp bt L (sdF cs V)).symm)
        · have c87 : ¬ ((nI gr) ≤ (nI i)) := c87
          have c87n := mt (nI_leI (a := gr) (b := i) (by omega) (by omega)).mpr c87
          refine x_iload_n dX0_settle_90 rfl ?_
          refine x_bipush 12 dX0_settle_91 (by decide) ?_
          refine x_icmp_ge dX0_settle_93 (fun c93 => ?_) (fun c93 => ?_)
          · have c93 : 12 ≤ (nI i) := c93
            have c93n := (nI_leI (a := 12) (b := i) (by omega) (by omega)).mp c93
            exact absurd c93n (by omega)
          · have c93 : ¬ (12 ≤ (nI i)) := c93
            have c93n := mt (nI_leI (a := 12) (b := i) (by omega) (by omega)).mpr c93
            refine x_aload_n dX0_settle_96 rfl ?_
            refine x_aload_n dX0_settle_97 rfl ?_
            refine x_get dX0_settle_98 0 0 inX0 fl_X0_30 rfl rfl (by decide) rfl ?_
            refine x_get dX0_settle_101 9 0 inX6 fl_X0_89 rfl rfl (by decide) rfl ?_
            refine x_iload_n dX0_settle_104 rfl ?_
            refine x_iald dX0_settle_105 10 i rfl (rfl) (by omega) (by decide) ?_
            refine x_aload_n dX0_settle_106 rfl ?_
            refine x_get dX0_settle_107 0 0 inX0 fl_X0_30 rfl rfl (by decide) rfl ?_
            refine x_get dX0_settle_110 9 1 inX6 fl_X0_92 rfl rfl (by decide) rfl ?_
            refine x_iload_n dX0_settle_113 rfl ?_
            refine x_iald dX0_settle_114 11 i rfl (rfl) (by omega) (by decide) ?_
            refine x_cVi (ws' := [(aC, .inr (0, [.ref aS, .ref aL, .ref aV, .ref aO, .ref aCs, .ref aCl, .ref aCh, .ref aCw, .ref aCc, .ref aCb, .int (nI tot), .int (nI L), .int 0, .int sw])), (aCs, .inl (g.2.1 0, 495, .inl (nIf (sdF cs V)))), (aCl, .inl (g.2.1 0, 495, .inl (nIf (fun p => lkN (ki i) (ma i) p L ((sdF cs V) p))))), (aCc, .inl (g.2.1 0, 495, .inl (nIf (fun p => sumN (fun q => shN (ki q) (ma q) p L (sdF cs V)) i)))), (aL, .inr (5, [.ref aLb, .ref aLp])), (aLb, .inl (g.2.1 0, 495, .inl (nIf rowB))), (aLp, .inl (g.2.1 0, 495, .inl (nIf packB))), (aV, .inr (2, [.ref aS, .ref aVs])), (aVs, .inl (g.2.1 0, 60, .inl sq)), (aS, .inr (6, [.ref aSk, .ref aSm, .ref aSp, .ref aSt, .ref aSc, .ref aSr, .ref aSe, .int (nI gr), .int (nI br), .int (nI cs), .int (nI wk), .int z])), (aSk, .inl (g.2.1 0, 12, .inl (nIf ki))), (aSm, .inl (g.2.1 0, 12, .inl (nIf ma))), (aSp, .inl (g.2.1 0, 40, .inl (nIf bp))), (aSt, .inl (g.2.1 0, 40, .inl (nIf bt))), (aSc, .inl (g.2.1 0, 60, .inl co)), (aSe, .inl (g.2.1 0, 320, .inl ce))]) dX0_settle_115 ml_X0_95 mX0_likeAll (ct_X0_likeAll κ.2.1 g aC aS aL aV aO aCs aCl aCh aCw aCc aCb tot L 0 sw aLb aLp (sdF cs V) lq (ki i) (ma i) (by have := hki i; omega) (hma i) (hL) (hsd)) [0, 1, 2, 4, 5] rfl rfl 0 rfl rfl rfl (Nat.le_of_ble_eq_true rfl) (by decide) (Nat.le_refl _) (Nat.le_refl _) (rfl : [aC, aCs, aCl, aL, aLb] = [aC, aCs, aCl, aL, aLb]) rfl ?_
            refine x_istore_n (lv' := [some (.ref aC), some (.int (nI i)), some (.int (nI (laN (ki i) (ma i) L (sdF cs V))))]) dX0_settle_118 (xlt rfl) rfl ?_
            refine x_aload_n dX0_settle_119 rfl ?_
            refine x_aload_n dX0_settle_120 rfl ?_
            refine x_get dX0_settle_121 0 0 inX0 fl_X0_30 rfl rfl (by decide) rfl ?_
            refine x_get dX0_settle_124 9 1 inX6 fl_X0_92 rfl rfl (by decide) rfl ?_
            refine x_iload_n dX0_settle_127 rfl ?_
            refine x_iald dX0_settle_128 11 i rfl (rfl) (by omega) (by decide) ?_
            refine x_iload_n dX0_settle_129 rfl ?_
            refine x_cVv (ws' := [(aC, .inr (0, [.ref aS, .ref aL, .ref aV, .ref aO, .ref aCs, .ref aCl, .ref aCh, .ref aCw, .ref aCc, .ref aCb, .int (nI tot), .int (nI L), .int 0, .int sw])), (aCs, .inl (g.2.1 0, 495, .inl (nIf (sdF cs V)))), (aCl, .inl (g.2.1 0, 495, .inl (nIf (fun p => lkN (ki i) (ma i) p L ((sdF cs V) p))))), (aCc, .inl (g.2.1 0, 495, .inl (nIf (fun p => (fun p => sumN (fun q => shN (ki q) (ma q) p L (sdF cs V)) i) p + (if (laN (ki i) (ma i) L (sdF cs V)) = 0 then 0 else (ma i) * (fun p => lkN (ki i) (ma i) p L ((sdF cs V) p)) p / (laN (ki i) (ma i) L (sdF cs V))))))), (aL, .inr (5, [.ref aLb, .ref aLp])), (aLb, .inl (g.2.1 0, 495, .inl (nIf rowB))), (aLp, .inl (g.2.1 0, 495, .inl (nIf packB))), (aV, .inr (2, [.ref aS, .ref aVs])), (aVs, .inl (g.2.1 0, 60, .inl sq)), (aS, .inr (6, [.ref aSk, .ref aSm, .ref aSp, .ref aSt, .ref aSc, .ref aSr, .ref aSe, .int (nI gr), .int (nI br), .int (nI cs), .int (nI wk), .int z])), (aSk, .inl (g.2.1 0, 12, .inl (nIf ki))), (aSm, .inl (g.2.1 0, 12, .inl (nIf ma))), (aSp, .inl (g.2.1 0, 40, .inl (nIf bp))), (aSt, .inl (g.2.1 0, 40, .inl (nIf bt))), (aSc, .inl (g.2.1 0, 60, .inl co)), (aSe, .inl (g.2.1 0, 320, .inl ce))]) dX0_settle_130 ml_X0_99 mX0_addCrosses (ct_X0_addCrosses κ.2.1 g aC aS aL aV aO aCs aCl aCh aCw aCc aCb tot L 0 sw (fun p => lkN (ki i) (ma i) p L ((sdF cs V) p)) (fun p => sumN (fun q => shN (ki q) (ma q) p L (sdF cs V)) i) (ma i) (laN (ki i) (ma i) L (sdF cs V)) (by have := laN_le (kd := ki i) (mn := ma i) (lat := L) hsd; omega) (hma i) (fun p _ => lkN_le (hsd p))) [0, 2, 3] rfl rfl 0 rfl rfl rfl (Nat.le_of_ble_eq_true rfl) (by decide) (Nat.le_refl _) (Nat.le_refl _) (rfl : [aC, aCl, aCc] = [aC, aCl, aCc]) rfl ?_
            refine x_iinc (lv' := [some (.ref aC), some (.int (nI (i + 1))), some (.int (nI (laN (ki i) (ma i) L (sdF cs V))))]) (nI (i + 1)) dX0_settle_133 rfl (nI_addc i 1 rfl) rfl ?_
            refine x_goto dX0_settle_136 ?_
            refine x_fgt (lv' := [some (.ref aC), some (.int (nI (i + 1))), none]) ⟨Or.inr rfl, Or.inr rfl, Or.inl rfl, trivial⟩ ?_
            exact ih79 (by omega) (fun p => (fun p => sumN (fun q => shN (ki q) (ma q) p L (sdF cs V)) i) p + (if (laN (ki i) (ma i) L (sdF cs V)) = 0 then 0 else (ma i) * (fun p => lkN (ki i) (ma i) p L ((sdF cs V) p)) p / (laN (ki i) (ma i) L (sdF cs V)))) (by funext p; rfl) (fun p => lkN (ki i) (ma i) p L ((sdF cs V) p))
      exact L79_2 0 (Nat.zero_le _) (fun _ => 0) (by rfl) li
    · have c25 : ¬ (495 ≤ (nI i)) := c25
      have c25n := mt (nI_leI (a := 495) (b := i) (by omega) (by omega)).mpr c25
      refine x_aload_n dX0_settle_28 rfl ?_
      refine x_get dX0_settle_29 0 4 inX0 fl_X0_9 rfl rfl (by decide) rfl ?_
      refine x_iload_n dX0_settle_32 rfl ?_
      refine x_aload_n dX0_settle_33 rfl ?_
      refine x_get dX0_settle_34 0 2 inX0 fl_X0_47 rfl rfl (by decide) rfl ?_
      refine x_aload_n dX0_settle_37 rfl ?_
      refine x_get dX0_settle_38 0 1 inX0 fl_X0_34 rfl rfl (by decide) rfl ?_
      refine x_get dX0_settle_41 4 0 inX5 fl_X0_68 rfl rfl (by decide) rfl ?_
      refine x_iload_n dX0_settle_44 rfl ?_
      refine x_iald dX0_settle_45 5 i rfl (rfl) (by omega) (by decide) ?_
      refine x_aload_n dX0_settle_46 rfl ?_
      refine x_get dX0_settle_47 0 1 inX0 fl_X0_34 rfl rfl (by decide) rfl ?_
      refine x_get dX0_settle_50 4 1 inX5 fl_X0_73 rfl rfl (by decide) rfl ?_
      refine x_iload_n dX0_settle_53 rfl ?_
      refine x_iald dX0_settle_54 6 i rfl (rfl) (by omega) (by decide) ?_
      refine x_aload_n dX0_settle_55 rfl ?_
      refine x_get dX0_settle_56 0 11 inX0 fl_X0_64 rfl rfl (by decide) rfl ?_
      refine x_callV dX0_settle_59 ml_X0_76 mX2_say (ct_X2_say κ.2.1 g aV aS aVs aSk aSm aSp aSt aSc aSr aSe gr br cs wk z co sq i L (V i) (hcs) (by omega) (fun h => hV h i (by omega))) [7, 8, 9, 14] rfl rfl 7 rfl rfl rfl (Nat.le_of_ble_eq_true rfl) (by decide) (Nat.le_refl _) (Nat.le_refl _) (fun vv ww hp => ?_)
      obtain ⟨z5, rfl, rfl⟩ := hp
      refine ⟨(rfl : [aV, aVs, aS, aSc] = [aV, aVs, aS, aSc]), x_eq (lv' := [some (.ref aC), some (.int (nI i)), none]) (st' := [.int (nI (sayN cs (V i))), .int (nI i), .ref aCs]) (ws' := [(aC, .inr (0, [.ref aS, .ref aL, .ref aV, .ref aO, .ref aCs, .ref aCl, .ref aCh, .ref aCw, .ref aCc, .ref aCb, .int (nI tot), .int (nI L), .int 0, .int sw])), (aCs, .inl (g.2.1 0, 495, .inl (nIf (fillT i (sdF cs V) sd)))), (aCl, .inl (g.2.1 0, 495, .inl (nIf li))), (aCc, .inl (g.2.1 0, 495, .inl (nIf cr))), (aL, .inr (5, [.ref aLb, .ref aLp])), (aLb, .inl (g.2.1 0, 495, .inl (nIf rowB))), (aLp, .inl (g.2.1 0, 495, .inl (nIf packB))), (aV, .inr (2, [.ref aS, .ref aVs])), (aVs, .inl (g.2.1 0, 60, .inl z5)), (aS, .inr (6, [.ref aSk, .ref aSm, .ref aSp, .ref aSt, .ref aSc, .ref aSr, .ref aSe, .int (nI gr), .int (nI br), .int (nI cs), .int (nI wk), .int z])), (aSk, .inl (g.2.1 0, 12, .inl (nIf ki))), (aSm, .inl (g.2.1 0, 12, .inl (nIf ma))), (aSp, .inl (g.2.1 0, 40, .inl (nIf bp))), (aSt, .inl (g.2.1 0, 40, .inl (nIf bt))), (aSc, .inl (g.2.1 0, 60, .inl co)), (aSe, .inl (g.2.1 0, 320, .inl ce))]) ?_ rfl rfl rfl⟩
      refine x_iast (ws' := [(aC, .inr (0, [.ref aS, .ref aL, .ref aV, .ref aO, .ref aCs, .ref aCl, .ref aCh, .ref aCw, .ref aCc, .ref aCb, .int (nI tot), .int (nI L), .int 0, .int sw])), (aCs, .inl (g.2.1 0, 495, .inl (nIf (updN (fillT i (sdF cs V) sd) i (sayN cs (V i)))))), (aCl, .inl (g.2.1 0, 495, .inl (nIf li))), (aCc, .inl (g.2.1 0, 495, .inl (nIf cr))), (aL, .inr (5, [.ref aLb, .ref aLp])), (aLb, .inl (g.2.1 0, 495, .inl (nIf rowB))), (aLp, .inl (g.2.1 0, 495, .inl (nIf packB))), (aV, .inr (2, [.ref aS, .ref aVs])), (aVs, .inl (g.2.1 0, 60, .inl z5)), (aS, .inr (6, [.ref aSk, .ref aSm, .ref aSp, .ref aSt, .ref aSc, .ref aSr, .ref aSe, .int (nI gr), .int (nI br), .int (nI cs), .int (nI wk), .int z])), (aSk, .inl (g.2.1 0, 12, .inl (nIf ki))), (aSm, .inl (g.2.1 0, 12, .inl (nIf ma))), (aSp, .inl (g.2.1 0, 40, .inl (nIf bp))), (aSt, .inl (g.2.1 0, 40, .inl (nIf bt))), (aSc, .inl (g.2.1 0, 60, .inl co)), (aSe, .inl (g.2.1 0, 320, .inl ce))]) dX0_settle_62 1 i rfl (rfl) (by omega) (by decide) (by rw [upd_nIf]; rfl) ?_
      refine x_iinc (lv' := [some (.ref aC), some (.int (nI (i + 1))), none]) (nI (i + 1)) dX0_settle_63 rfl (nI_addc i 1 rfl) rfl ?_
      refine x_goto dX0_settle_66 ?_
      exact ih21 (by omega) (updN (fillT i (sdF cs V) sd) i (sayN cs (V i))) (by exact fillT_updN i (sdF cs V) sd) _
  exact L21_1 0 (Nat.zero_le _) sd (by exact (fillT_0 _ _).symm) _

-- == settle_1 ==
set_option maxRecDepth 100000 in
set_option maxHeartbeats 4000000 in
theorem ct_settle_1 (l : Launch) (g : XG) (aC aS aL aV aO aCs aCl aCh aCw aCc aCb tot lat : Nat) (se sw : Int32) (aLb aLp aVs aSk aSm aSp aSt aSc aSr aSe gr br cs wk : Nat) (z : Int32) (sd li cr ki ma bp bt : Nat → Nat) (co ce sk : Nat → Int32) : Ct l g 6 0 0 yX0_settle cX0_settle 3 none [.ref aC] [(aC, .inr (0, [.ref aS, .ref aL, .ref aV, .ref aO, .ref aCs, .ref aCl, .ref aCh, .ref aCw, .ref aCc, .ref aCb, .int (nI tot), .int (nI lat), .int 1, .int sw])), (aCs, .inl (g.2.1 0, 495, .inl (nIf sd))), (aCl, .inl (g.2.1 0, 495, .inl (nIf li))), (aCc, .inl (g.2.1 0, 495, .inl (nIf cr))), (aL, .inr (5, [.ref aLb, .ref aLp])), (aLb, .inl (g.2.1 0, 495, .inl (nIf rowB))), (aLp, .inl (g.2.1 0, 495, .inl (nIf packB))), (aV, .inr (2, [.ref aS, .ref aVs])), (aVs, .inl (g.2.1 0, 60, .inl sk)), (aS, .inr (6, [.ref aSk, .ref aSm, .ref aSp, .ref aSt, .ref aSc, .ref aSr, .ref aSe, .int (nI gr), .int (nI br), .int (nI cs), .int (nI wk), .int z])), (aSk, .inl (g.2.1 0, 12, .inl (nIf ki))), (aSm, .inl (g.2.1 0, 12, .inl (nIf ma))), (aSp, .inl (g.2.1 0, 40, .inl (nIf bp))), (aSt, .inl (g.2.1 0, 40, .inl (nIf bt))), (aSc, .inl (g.2.1 0, 60, .inl co)), (aSe, .inl (g.2.1 0, 320, .inl ce))] (xpv [(aC, .inr (0, [.ref aS, .ref aL, .ref aV, .ref aO, .ref aCs, .ref aCl, .ref aCh, .ref aCw, .ref aCc, .ref aCb, .int (nI tot), .int (nI lat), .int 1, .int sw])), (aCs, .inl (g.2.1 0, 495, .inl (nIf sd))), (aCl, .inl (g.2.1 0, 495, .inl (nIf li))), (aCc, .inl (g.2.1 0, 495, .inl (nIf cr))), (aL, .inr (5, [.ref aLb, .ref aLp])), (aLb, .inl (g.2.1 0, 495, .inl (nIf rowB))), (aLp, .inl (g.2.1 0, 495, .inl (nIf packB))), (aV, .inr (2, [.ref aS, .ref aVs])), (aVs, .inl (g.2.1 0, 60, .inl sk)), (aS, .inr (6, [.ref aSk, .ref aSm, .ref aSp, .ref aSt, .ref aSc, .ref aSr, .ref aSe, .int (nI gr), .int (nI br), .int (nI cs), .int (nI wk), .int z])), (aSk, .inl (g.2.1 0, 12, .inl (nIf ki))), (aSm, .inl (g.2.1 0, 12, .inl (nIf ma))), (aSp, .inl (g.2.1 0, 40, .inl (nIf bp))), (aSt, .inl (g.2.1 0, 40, .inl (nIf bt))), (aSc, .inl (g.2.1 0, 60, .inl co)), (aSe, .inl (g.2.1 0, 320, .inl ce))]) := by
  refine Ct.ofX (lv := [some (.ref aC), none, none]) (by decide) rfl (Nat.le_of_ble_eq_true rfl) (fun κ => ?_)
  generalize hQ : xQ κ g 0 0 _ = Q
  refine x_aload_n dX0_settle_0 rfl ?_
  refine x_get dX0_settle_1 0 12 inX0 fl_X0_51 rfl rfl (by decide) rfl ?_
  refine x_if_eq dX0_settle_4 (fun c4 => ?_) (fun c4 => ?_)
  · exact absurd c4 (by decide)
  rw [← hQ]
  refine x_vret dX0_settle_7 rfl (Nat.le_of_ble_eq_true rfl) (Nat.le_of_ble_eq_true rfl) ?_
  exact ⟨rfl, rfl⟩

-- == X0_settle ==
theorem ct_X0_settle (l : Launch) (g : XG) (aC aS aL aV aO aCs aCl aCh aCw aCc aCb tot lat : Nat) (se sw : Int32) (aLb aLp aVs aSk aSm aSp aSt aSc aSr aSe gr br cs wk : Nat) (z : Int32) (sd li cr ki ma bp bt : Nat → Nat) (co ce sk : Nat → Int32) (V : Nat → Int32) (L : Nat) (hgr : gr ≤ 12) (hbr : br ≤ 40) (hcs : cs ≤ 60) (hwk : wk ≤ 40) (hki : ∀ j, ki j ≤ 7) (hma : ∀ j, ma j ≤ 99999) (hbp : ∀ j, bp j < 495) (hlat : latI ce wk = nI L) (hL : L < 4096) (hV : cs ≠ 0 → ∀ p, p < 495 → evR (nmI wk L p) (cdF co 0 cs) [] = some [V p]) (hse : se = 0 ∨ (se = 1 ∧ sd = sdF cs V ∧ cr = crF gr ki ma bp bt br L (sdF cs V) ∧ tot = totF gr ki ma bp bt br L (sdF cs V) ∧ lat = L)) : Ct l g 6 0 0 yX0_settle cX0_settle 3 none [.ref aC] [(aC, .inr (0, [.ref aS, .ref aL, .ref aV, .ref aO, .ref aCs, .ref aCl, .ref aCh, .ref aCw, .ref aCc, .ref aCb, .int (nI tot), .int (nI lat), .int se, .int sw])), (aCs, .inl (g.2.1 0, 495, .inl (nIf sd))), (aCl, .inl (g.2.1 0, 495, .inl (nIf li))), (aCc, .inl (g.2.1 0, 495, .inl (nIf cr))), (aL, .inr (5, [.ref aLb, .ref aLp])), (aLb, .inl (g.2.1 0, 495, .inl (nIf rowB))), (aLp, .inl (g.2.1 0, 495, .inl (nIf packB))), (aV, .inr (2, [.ref aS, .ref aVs])), (aVs, .inl (g.2.1 0, 60, .inl sk)), (aS, .inr (6, [.ref aSk, .ref aSm, .ref aSp, .ref aSt, .ref aSc, .ref aSr, .ref aSe, .int (nI gr), .int (nI br), .int (nI cs), .int (nI wk), .int z])), (aSk, .inl (g.2.1 0, 12, .inl (nIf ki))), (aSm, .inl (g.2.1 0, 12, .inl (nIf ma))), (aSp, .inl (g.2.1 0, 40, .inl (nIf bp))), (aSt, .inl (g.2.1 0, 40, .inl (nIf bt))), (aSc, .inl (g.2.1 0, 60, .inl co)), (aSe, .inl (g.2.1 0, 320, .inl ce))] (fun vv_ ww_ => ∃ (li2 : Nat → Nat) (sk2 : Nat → Int32), vv_ = none ∧ ww_ = [(aC, .inr (0, [.ref aS, .ref aL, .ref aV, .ref aO, .ref aCs, .ref aCl, .ref aCh, .ref aCw, .ref aCc, .ref aCb, .int (nI (totF gr ki ma bp bt br L (sdF cs V))), .int (nI L), .int 1, .int sw])), (aCs, .inl (g.2.1 0, 495, .inl (nIf (sdF cs V)))), (aCl, .inl (g.2.1 0, 495, .inl (nIf li2))), (aCc, .inl (g.2.1 0, 495, .inl (nIf (crF gr ki ma bp bt br L (sdF cs V))))), (aL, .inr (5, [.ref aLb, .ref aLp])), (aLb, .inl (g.2.1 0, 495, .inl (nIf rowB))), (aLp, .inl (g.2.1 0, 495, .inl (nIf packB))), (aV, .inr (2, [.ref aS, .ref aVs])), (aVs, .inl (g.2.1 0, 60, .inl sk2)), (aS, .inr (6, [.ref aSk, .ref aSm, .ref aSp, .ref aSt, .ref aSc, .ref aSr, .ref aSe, .int (nI gr), .int (nI br), .int (nI cs), .int (nI wk), .int z])), (aSk, .inl (g.2.1 0, 12, .inl (nIf ki))), (aSm, .inl (g.2.1 0, 12, .inl (nIf ma))), (aSp, .inl (g.2.1 0, 40, .inl (nIf bp))), (aSt, .inl (g.2.1 0, 40, .inl (nIf bt))), (aSc, .inl (g.2.1 0, 60, .inl co)), (aSe, .inl (g.2.1 0, 320, .inl ce))]) := by
  rcases hse with rfl | ⟨rfl, rfl, rfl, rfl, rfl⟩
  · exact ct_settle_0 l g aC aS aL aV aO aCs aCl aCh aCw aCc aCb tot lat 0 sw aLb aLp aVs aSk aSm aSp aSt aSc aSr aSe gr br cs wk z sd li cr ki ma bp bt co ce sk V L hgr hbr hcs hwk hki hma hbp hlat hL hV
  · exact (ct_settle_1 l g aC aS aL aV aO aCs aCl aCh aCw aCc aCb _ _ 1 sw aLb aLp aVs aSk aSm aSp aSt aSc aSr aSe gr br cs wk z _ li _ ki ma bp bt co ce sk).mono (fun v w h => ⟨li, sk, h⟩)

