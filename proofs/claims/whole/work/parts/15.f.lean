def numsR (r : Nat) : List Nat := (List.range 12).filter (fun k => bitN r k == 1)
def nAr (r : Nat) : Nat := (numsR r).getD 0 0
def nBr (r : Nat) : Nat := (numsR r).getD 1 0
def nCr (r : Nat) : Nat := (numsR r).getD 2 0
def nDr (r : Nat) : Nat := (numsR r).getD 3 0
def packR (r : Nat) : Nat := nAr r + 16 * nBr r + 256 * nCr r + 4096 * nDr r
def packB (p : Nat) : Nat := packR (rowB p)
theorem rows_all {P : Nat → Bool} (h : rowsL.all P = true) {p : Nat} (hp : p < 495) : P (rowB p) = true := List.all_eq_true.mp h _ (rowB_mem hp)
theorem pk_A : rowsL.all (fun r => nI (packR r &&& 15) == nI (nAr r) && ((nI (packR r) >>> ((4 : Int32) &&& 31)) &&& 15 == nI (nBr r)) && ((nI (packR r) >>> ((8 : Int32) &&& 31)) &&& 15 == nI (nCr r)) && ((nI (packR r) >>> ((12 : Int32) &&& 31)) &&& 15 == nI (nDr r)) && decide (nAr r < nBr r ∧ nBr r < nCr r ∧ nCr r < nDr r ∧ nDr r < 12)) = true := by decide +kernel
theorem pk_all {p : Nat} (hp : p < 495) : nI (packB p &&& 15) = nI (nAr (rowB p)) ∧ (nI (packB p) >>> ((4 : Int32) &&& 31)) &&& 15 = nI (nBr (rowB p)) ∧ (nI (packB p) >>> ((8 : Int32) &&& 31)) &&& 15 = nI (nCr (rowB p)) ∧ (nI (packB p) >>> ((12 : Int32) &&& 31)) &&& 15 = nI (nDr (rowB p)) ∧ nAr (rowB p) < nBr (rowB p) ∧ nBr (rowB p) < nCr (rowB p) ∧ nCr (rowB p) < nDr (rowB p) ∧ nDr (rowB p) < 12 := by
  have h := rows_all pk_A hp
  simp only [Bool.and_eq_true, beq_iff_eq, decide_eq_true_eq] at h
  obtain ⟨⟨⟨⟨h1, h2⟩, h3⟩, h4⟩, h5⟩ := h
  exact ⟨h1, h2, h3, h4, h5⟩
def mkR (r : Nat) : Nat → Nat := fun j => match j with
  | 0 => tbN (nCr r) + (pbN (nBr r) + nAr r)
  | 1 => tbN (nDr r) + (pbN (nBr r) + nAr r)
  | 2 => tbN (nDr r) + pbN (nCr r) + nAr r
  | 3 => tbN (nDr r) + pbN (nCr r) + nBr r
  | 4 => 220 + (pbN (nBr r) + nAr r)
  | 5 => 220 + pbN (nCr r) + nAr r
  | 6 => 220 + pbN (nCr r) + nBr r
  | 7 => 220 + pbN (nDr r) + nAr r
  | 8 => 220 + pbN (nDr r) + nBr r
  | _ => 220 + pbN (nDr r) + nCr r
theorem mk_A : rowsL.all (fun r => (List.range 10).all (fun i => decide (mkR r i < 286))) = true := by decide +kernel
theorem mkR_lt {p i : Nat} (hp : p < 495) (hi : i < 10) : mkR (rowB p) i < 286 := by
  have h := rows_all mk_A hp
  exact of_decide_eq_true (List.all_eq_true.mp h i (List.mem_range.mpr hi))
/-- the sums over triples and pairs, the first i places taken in -/
def gsT (va : Nat → Int64) (i : Nat) : Nat → Int64 := fun s => sumL (fun q => sumL (fun j => if mkR (rowB q) j = s then va q else 0) 10) i
def gsI (va : Nat → Int64) (p i : Nat) : Nat → Int64 := fun s => gsT va p s + sumL (fun j => if mkR (rowB p) j = s then va p else 0) i
theorem gsI_0 (va : Nat → Int64) (p : Nat) : gsI va p 0 = gsT va p := by funext s; simp [gsI, sumL]
theorem gsI_step (va : Nat → Int64) (p i : Nat) : vp_updL (gsI va p i) (mkR (rowB p) i) (gsI va p i (mkR (rowB p) i) + va p) = gsI va p (i + 1) := by
  funext s
  simp only [vp_updL]
  by_cases e : s = mkR (rowB p) i
  · subst e; simp [gsI, sumL, Int64.add_assoc]
  · have e2 : ¬ mkR (rowB p) i = s := fun q => e q.symm
    simp [gsI, sumL, e, e2]
def ovThree (su va : Nat → Int64) (p : Nat) : Int64 := su (mkR (rowB p) 0) + su (mkR (rowB p) 1) + su (mkR (rowB p) 2) + su (mkR (rowB p) 3) - 4 * va p
def ovTwo (su va : Nat → Int64) (p : Nat) : Int64 := 0 + su (mkR (rowB p) 4) + su (mkR (rowB p) 5) + su (mkR (rowB p) 6) + su (mkR (rowB p) 7) + su (mkR (rowB p) 8) + su (mkR (rowB p) 9) - 3 * ovThree su va p - 6 * va p

-- == X3_mark ==
theorem dX3_mark_0 : xd cX3_mark 0 (.iload_n 1) 1 1 := ⟨by decide +kernel, rfl⟩
theorem dX3_mark_1 : xd cX3_mark 1 (.bipush 15) 2 3 := ⟨by decide +kernel, rfl⟩
theorem dX3_mark_3 : xd cX3_mark 3 .iand 1 4 := ⟨by decide +kernel, rfl⟩
theorem dX3_mark_4 : xd cX3_mark 4 (.istore_n 2) 1 5 := ⟨by decide +kernel, rfl⟩
theorem dX3_mark_5 : xd cX3_mark 5 (.iload_n 1) 1 6 := ⟨by decide +kernel, rfl⟩
theorem dX3_mark_6 : xd cX3_mark 6 (.iconst 4) 1 7 := ⟨by decide +kernel, rfl⟩
theorem dX3_mark_7 : xd cX3_mark 7 .ishr 1 8 := ⟨by decide +kernel, rfl⟩
theorem dX3_mark_8 : xd cX3_mark 8 (.bipush 15) 2 10 := ⟨by decide +kernel, rfl⟩
theorem dX3_mark_10 : xd cX3_mark 10 .iand 1 11 := ⟨by decide +kernel, rfl⟩
theorem dX3_mark_11 : xd cX3_mark 11 (.istore_n 3) 1 12 := ⟨by decide +kernel, rfl⟩
theorem dX3_mark_12 : xd cX3_mark 12 (.iload_n 1) 1 13 := ⟨by decide +kernel, rfl⟩
theorem dX3_mark_13 : xd cX3_mark 13 (.bipush 8) 2 15 := ⟨by decide +kernel, rfl⟩
theorem dX3_mark_15 : xd cX3_mark 15 .ishr 1 16 := ⟨by decide +kernel, rfl⟩
theorem dX3_mark_16 : xd cX3_mark 16 (.bipush 15) 2 18 := ⟨by decide +kernel, rfl⟩
theorem dX3_mark_18 : xd cX3_mark 18 .iand 1 19 := ⟨by decide +kernel, rfl⟩
theorem dX3_mark_19 : xd cX3_mark 19 (.istore 4) 2 21 := ⟨by decide +kernel, rfl⟩
theorem dX3_mark_21 : xd cX3_mark 21 (.iload_n 1) 1 22 := ⟨by decide +kernel, rfl⟩
theorem dX3_mark_22 : xd cX3_mark 22 (.bipush 12) 2 24 := ⟨by decide +kernel, rfl⟩
theorem dX3_mark_24 : xd cX3_mark 24 .ishr 1 25 := ⟨by decide +kernel, rfl⟩
theorem dX3_mark_25 : xd cX3_mark 25 (.bipush 15) 2 27 := ⟨by decide +kernel, rfl⟩
theorem dX3_mark_27 : xd cX3_mark 27 .iand 1 28 := ⟨by decide +kernel, rfl⟩
theorem dX3_mark_28 : xd cX3_mark 28 (.istore 5) 2 30 := ⟨by decide +kernel, rfl⟩
theorem dX3_mark_30 : xd cX3_mark 30 (.iload_n 2) 1 31 := ⟨by decide +kernel, rfl⟩
theorem dX3_mark_31 : xd cX3_mark 31 (.iload_n 3) 1 32 := ⟨by decide +kernel, rfl⟩
theorem dX3_mark_32 : xj cX3_mark 32 (.if_icmp .ge) 35 55 := ⟨23, by decide +kernel, rfl, by decide⟩
theorem dX3_mark_35 : xd cX3_mark 35 (.iload_n 3) 1 36 := ⟨by decide +kernel, rfl⟩
theorem dX3_mark_36 : xd cX3_mark 36 (.iload 4) 2 38 := ⟨by decide +kernel, rfl⟩
theorem dX3_mark_38 : xj cX3_mark 38 (.if_icmp .ge) 41 55 := ⟨17, by decide +kernel, rfl, by decide⟩
theorem dX3_mark_41 : xd cX3_mark 41 (.iload 4) 2 43 := ⟨by decide +kernel, rfl⟩
theorem dX3_mark_43 : xd cX3_mark 43 (.iload 5) 2 45 := ⟨by decide +kernel, rfl⟩
theorem dX3_mark_45 : xj cX3_mark 45 (.if_icmp .ge) 48 55 := ⟨10, by decide +kernel, rfl, by decide⟩
theorem dX3_mark_48 : xd cX3_mark 48 (.iload 5) 2 50 := ⟨by decide +kernel, rfl⟩
theorem dX3_mark_50 : xd cX3_mark 50 (.bipush 12) 2 52 := ⟨by decide +kernel, rfl⟩
theorem dX3_mark_52 : xj cX3_mark 52 (.if_icmp .lt) 55 56 := ⟨4, by decide +kernel, rfl, by decide⟩
theorem dX3_mark_55 : xd cX3_mark 55 .return_ 1 56 := ⟨by decide +kernel, rfl⟩
theorem dX3_mark_56 : xd cX3_mark 56 (.getstatic 47) 3 59 := ⟨by decide +kernel, rfl⟩
theorem dX3_mark_59 : xd cX3_mark 59 (.iload 4) 2 61 := ⟨by decide +kernel, rfl⟩
theorem dX3_mark_61 : xd cX3_mark 61 .iaload 1 62 := ⟨by decide +kernel, rfl⟩
theorem dX3_mark_62 : xd cX3_mark 62 (.istore 6) 2 64 := ⟨by decide +kernel, rfl⟩
theorem dX3_mark_64 : xd cX3_mark 64 (.getstatic 47) 3 67 := ⟨by decide +kernel, rfl⟩
theorem dX3_mark_67 : xd cX3_mark 67 (.iload 5) 2 69 := ⟨by decide +kernel, rfl⟩
theorem dX3_mark_69 : xd cX3_mark 69 .iaload 1 70 := ⟨by decide +kernel, rfl⟩
theorem dX3_mark_70 : xd cX3_mark 70 (.istore 7) 2 72 := ⟨by decide +kernel, rfl⟩
theorem dX3_mark_72 : xd cX3_mark 72 (.getstatic 47) 3 75 := ⟨by decide +kernel, rfl⟩
theorem dX3_mark_75 : xd cX3_mark 75 (.iload_n 3) 1 76 := ⟨by decide +kernel, rfl⟩
theorem dX3_mark_76 : xd cX3_mark 76 .iaload 1 77 := ⟨by decide +kernel, rfl⟩
theorem dX3_mark_77 : xd cX3_mark 77 (.iload_n 2) 1 78 := ⟨by decide +kernel, rfl⟩
theorem dX3_mark_78 : xd cX3_mark 78 .iadd 1 79 := ⟨by decide +kernel, rfl⟩
theorem dX3_mark_79 : xd cX3_mark 79 (.istore 8) 2 81 := ⟨by decide +kernel, rfl⟩
theorem dX3_mark_81 : xd cX3_mark 81 (.aload_n 0) 1 82 := ⟨by decide +kernel, rfl⟩
theorem dX3_mark_82 : xd cX3_mark 82 (.getfield 18) 3 85 := ⟨by decide +kernel, rfl⟩
theorem dX3_mark_85 : xd cX3_mark 85 (.iconst 0) 1 86 := ⟨by decide +kernel, rfl⟩
theorem dX3_mark_86 : xd cX3_mark 86 (.getstatic 50) 3 89 := ⟨by decide +kernel, rfl⟩
theorem dX3_mark_89 : xd cX3_mark 89 (.iload 4) 2 91 := ⟨by decide +kernel, rfl⟩
theorem dX3_mark_91 : xd cX3_mark 91 .iaload 1 92 := ⟨by decide +kernel, rfl⟩
theorem dX3_mark_92 : xd cX3_mark 92 (.iload 8) 2 94 := ⟨by decide +kernel, rfl⟩
theorem dX3_mark_94 : xd cX3_mark 94 .iadd 1 95 := ⟨by decide +kernel, rfl⟩
theorem dX3_mark_95 : xd cX3_mark 95 .iastore 1 96 := ⟨by decide +kernel, rfl⟩
theorem dX3_mark_96 : xd cX3_mark 96 (.aload_n 0) 1 97 := ⟨by decide +kernel, rfl⟩
theorem dX3_mark_97 : xd cX3_mark 97 (.getfield 18) 3 100 := ⟨by decide +kernel, rfl⟩
theorem dX3_mark_100 : xd cX3_mark 100 (.iconst 1) 1 101 := ⟨by decide +kernel, rfl⟩
theorem dX3_mark_101 : xd cX3_mark 101 (.getstatic 50) 3 104 := ⟨by decide +kernel, rfl⟩
theorem dX3_mark_104 : xd cX3_mark 104 (.iload 5) 2 106 := ⟨by decide +kernel, rfl⟩
theorem dX3_mark_106 : xd cX3_mark 106 .iaload 1 107 := ⟨by decide +kernel, rfl⟩
theorem dX3_mark_107 : xd cX3_mark 107 (.iload 8) 2 109 := ⟨by decide +kernel, rfl⟩
theorem dX3_mark_109 : xd cX3_mark 109 .iadd 1 110 := ⟨by decide +kernel, rfl⟩
theorem dX3_mark_110 : xd cX3_mark 110 .iastore 1 111 := ⟨by decide +kernel, rfl⟩
theorem dX3_mark_111 : xd cX3_mark 111 (.aload_n 0) 1 112 := ⟨by decide +kernel, rfl⟩
theorem dX3_mark_112 : xd cX3_mark 112 (.getfield 18) 3 115 := ⟨by decide +kernel, rfl⟩
theorem dX3_mark_115 : xd cX3_mark 115 (.iconst 2) 1 116 := ⟨by decide +kernel, rfl⟩
theorem dX3_mark_116 : xd cX3_mark 116 (.getstatic 50) 3 119 := ⟨by decide +kernel, rfl⟩
theorem dX3_mark_119 : xd cX3_mark 119 (.iload 5) 2 121 := ⟨by decide +kernel, rfl⟩
theorem dX3_mark_121 : xd cX3_mark 121 .iaload 1 122 := ⟨by decide +kernel, rfl⟩
theorem dX3_mark_122 : xd cX3_mark 122 (.iload 6) 2 124 := ⟨by decide +kernel, rfl⟩
theorem dX3_mark_124 : xd cX3_mark 124 .iadd 1 125 := ⟨by decide +kernel, rfl⟩
theorem dX3_mark_125 : xd cX3_mark 125 (.iload_n 2) 1 126 := ⟨by decide +kernel, rfl⟩
theorem dX3_mark_126 : xd cX3_mark 126 .iadd 1 127 := ⟨by decide +kernel, rfl⟩
theorem dX3_mark_127 : xd cX3_mark 127 .iastore 1 128 := ⟨by decide +kernel, rfl⟩
theorem dX3_mark_128 : xd cX3_mark 128 (.aload_n 0) 1 129 := ⟨by decide +kernel, rfl⟩
theorem dX3_mark_129 : xd cX3_mark 129 (.getfield 18) 3 132 := ⟨by decide +kernel, rfl⟩
theorem dX3_mark_132 : xd cX3_mark 132 (.iconst 3) 1 133 := ⟨by decide +kernel, rfl⟩
theorem dX3_mark_133 : xd cX3_mark 133 (.getstatic 50) 3 136 := ⟨by decide +kernel, rfl⟩
theorem dX3_mark_136 : xd cX3_mark 136 (.iload 5) 2 138 := ⟨by decide +kernel, rfl⟩
theorem dX3_mark_138 : xd cX3_mark 138 .iaload 1 139 := ⟨by decide +kernel, rfl⟩
theorem dX3_mark_139 : xd cX3_mark 139 (.iload 6) 2 141 := ⟨by decide +kernel, rfl⟩
theorem dX3_mark_141 : xd cX3_mark 141 .iadd 1 142 := ⟨by decide +kernel, rfl⟩
theorem dX3_mark_142 : xd cX3_mark 142 (.iload_n 3) 1 143 := ⟨by decide +kernel, rfl⟩
theorem dX3_mark_143 : xd cX3_mark 143 .iadd 1 144 := ⟨by decide +kernel, rfl⟩
theorem dX3_mark_144 : xd cX3_mark 144 .iastore 1 145 := ⟨by decide +kernel, rfl⟩
theorem dX3_mark_145 : xd cX3_mark 145 (.aload_n 0) 1 146 := ⟨by decide +kernel, rfl⟩
theorem dX3_mark_146 : xd cX3_mark 146 (.getfield 18) 3 149 := ⟨by decide +kernel, rfl⟩
theorem dX3_mark_149 : xd cX3_mark 149 (.iconst 4) 1 150 := ⟨by decide +kernel, rfl⟩
theorem dX3_mark_150 : xd cX3_mark 150 (.sipush 220) 3 153 := ⟨by decide +kernel, rfl⟩
theorem dX3_mark_153 : xd cX3_mark 153 (.iload 8) 2 155 := ⟨by decide +kernel, rfl⟩
theorem dX3_mark_155 : xd cX3_mark 155 .iadd 1 156 := ⟨by decide +kernel, rfl⟩
theorem dX3_mark_156 : xd cX3_mark 156 .iastore 1 157 := ⟨by decide +kernel, rfl⟩
theorem dX3_mark_157 : xd cX3_mark 157 (.aload_n 0) 1 158 := ⟨by decide +kernel, rfl⟩
theorem dX3_mark_158 : xd cX3_mark 158 (.getfield 18) 3 161 := ⟨by decide +kernel, rfl⟩
theorem dX3_mark_161 : xd cX3_mark 161 (.iconst 5) 1 162 := ⟨by decide +kernel, rfl⟩
theorem dX3_mark_162 : xd cX3_mark 162 (.sipush 220) 3 165 := ⟨by decide +kernel, rfl⟩
theorem dX3_mark_165 : xd cX3_mark 165 (.iload 6) 2 167 := ⟨by decide +kernel, rfl⟩
theorem dX3_mark_167 : xd cX3_mark 167 .iadd 1 168 := ⟨by decide +kernel, rfl⟩
theorem dX3_mark_168 : xd cX3_mark 168 (.iload_n 2) 1 169 := ⟨by decide +kernel, rfl⟩
theorem dX3_mark_169 : xd cX3_mark 169 .iadd 1 170 := ⟨by decide +kernel, rfl⟩
theorem dX3_mark_170 : xd cX3_mark 170 .iastore 1 171 := ⟨by decide +kernel, rfl⟩
theorem dX3_mark_171 : xd cX3_mark 171 (.aload_n 0) 1 172 := ⟨by decide +kernel, rfl⟩
theorem dX3_mark_172 : xd cX3_mark 172 (.getfield 18) 3 175 := ⟨by decide +kernel, rfl⟩
theorem dX3_mark_175 : xd cX3_mark 175 (.bipush 6) 2 177 := ⟨by decide +kernel, rfl⟩
theorem dX3_mark_177 : xd cX3_mark 177 (.sipush 220) 3 180 := ⟨by decide +kernel, rfl⟩
theorem dX3_mark_180 : xd cX3_mark 180 (.iload 6) 2 182 := ⟨by decide +kernel, rfl⟩
theorem dX3_mark_182 : xd cX3_mark 182 .iadd 1 183 := ⟨by decide +kernel, rfl⟩
theorem dX3_mark_183 : xd cX3_mark 183 (.iload_n 3) 1 184 := ⟨by decide +kernel, rfl⟩
theorem dX3_mark_184 : xd cX3_mark 184 .iadd 1 185 := ⟨by decide +kernel, rfl⟩
theorem dX3_mark_185 : xd cX3_mark 185 .iastore 1 186 := ⟨by decide +kernel, rfl⟩
theorem dX3_mark_186 : xd cX3_mark 186 (.aload_n 0) 1 187 := ⟨by decide +kernel, rfl⟩
theorem dX3_mark_187 : xd cX3_mark 187 (.getfield 18) 3 190 := ⟨by decide +kernel, rfl⟩
theorem dX3_mark_190 : xd cX3_mark 190 (.bipush 7) 2 192 := ⟨by decide +kernel, rfl⟩
theorem dX3_mark_192 : xd cX3_mark 192 (.sipush 220) 3 195 := ⟨by decide +kernel, rfl⟩
theorem dX3_mark_195 : xd cX3_mark 195 (.iload 7) 2 197 := ⟨by decide +kernel, rfl⟩
theorem dX3_mark_197 : xd cX3_mark 197 .iadd 1 198 := ⟨by decide +kernel, rfl⟩
theorem dX3_mark_198 : xd cX3_mark 198 (.iload_n 2) 1 199 := ⟨by decide +kernel, rfl⟩
theorem dX3_mark_199 : xd cX3_mark 199 .iadd 1 200 := ⟨by decide +kernel, rfl⟩
theorem dX3_mark_200 : xd cX3_mark 200 .iastore 1 201 := ⟨by decide +kernel, rfl⟩
theorem dX3_mark_201 : xd cX3_mark 201 (.aload_n 0) 1 202 := ⟨by decide +kernel, rfl⟩
theorem dX3_mark_202 : xd cX3_mark 202 (.getfield 18) 3 205 := ⟨by decide +kernel, rfl⟩
theorem dX3_mark_205 : xd cX3_mark 205 (.bipush 8) 2 207 := ⟨by decide +kernel, rfl⟩
theorem dX3_mark_207 : xd cX3_mark 207 (.sipush 220) 3 210 := ⟨by decide +kernel, rfl⟩
theorem dX3_mark_210 : xd cX3_mark 210 (.iload 7) 2 212 := ⟨by decide +kernel, rfl⟩
theorem dX3_mark_212 : xd cX3_mark 212 .iadd 1 213 := ⟨by decide +kernel, rfl⟩
theorem dX3_mark_213 : xd cX3_mark 213 (.iload_n 3) 1 214 := ⟨by decide +kernel, rfl⟩
theorem dX3_mark_214 : xd cX3_mark 214 .iadd 1 215 := ⟨by decide +kernel, rfl⟩
theorem dX3_mark_215 : xd cX3_mark 215 .iastore 1 216 := ⟨by decide +kernel, rfl⟩
theorem dX3_mark_216 : xd cX3_mark 216 (.aload_n 0) 1 217 := ⟨by decide +kernel, rfl⟩
theorem dX3_mark_217 : xd cX3_mark 217 (.getfield 18) 3 220 := ⟨by decide +kernel, rfl⟩
theorem dX3_mark_220 : xd cX3_mark 220 (.bipush 9) 2 222 := ⟨by decide +kernel, rfl⟩
theorem dX3_mark_222 : xd cX3_mark 222 (.sipush 220) 3 225 := ⟨by decide +kernel, rfl⟩
theorem dX3_mark_225 : xd cX3_mark 225 (.iload 7) 2 227 := ⟨by decide +kernel, rfl⟩
theorem dX3_mark_227 : xd cX3_mark 227 .iadd 1 228 := ⟨by decide +kernel, rfl⟩
theorem dX3_mark_228 : xd cX3_mark 228 (.iload 4) 2 230 := ⟨by decide +kernel, rfl⟩
theorem dX3_mark_230 : xd cX3_mark 230 .iadd 1 231 := ⟨by decide +kernel, rfl⟩
theorem dX3_mark_231 : xd cX3_mark 231 .iastore 1 232 := ⟨by decide +kernel, rfl⟩
theorem dX3_mark_232 : xd cX3_mark 232 .return_ 1 233 := ⟨by decide +kernel, rfl⟩

set_option maxRecDepth 100000 in
set_option maxHeartbeats 4000000 in
theorem ct_X3_mark (l : Launch) (g : XG) (aO aOv aOs aOm aL : Nat) (mk : Nat → Nat) (p : Nat) (hp : p < 495) : Ct l g 1 0 0 yX3_mark cX3_mark 9 none [.ref aO, .int (nI (packB p))] [(aO, .inr (3, [.ref aOv, .ref aOs, .ref aOm, .ref aL])), (aOm, .inl (g.2.1 0, 10, .inl (nIf mk)))] (xpv [(aO, .inr (3, [.ref aOv, .ref aOs, .ref aOm, .ref aL])), (aOm, .inl (g.2.1 0, 10, .inl (nIf (mkR (rowB p)))))]) := by
  refine Ct.ofX (lv := [some (.ref aO), some (.int (nI (packB p))), none, none, none, none, none, none, none]) (by decide) rfl (Nat.le_of_ble_eq_true rfl) (fun κ => ?_)
  generalize hQ : xQ κ g 0 0 _ = Q
  obtain ⟨q1, q2, q3, q4, q5, q6, q7, q8⟩ := pk_all hp
  refine x_iload_n dX3_mark_0 rfl ?_
  refine x_bipush 15 dX3_mark_1 (by decide) ?_
  refine x_iand dX3_mark_3 ?_
  refine x_rei (nI ((packB p) &&& 15)) (nI_iand (packB p) 15) ?_
  refine x_rei (nI (nAr (rowB p))) (q1) ?_
  refine x_istore_n (lv' := [some (.ref aO), some (.int (nI (packB p))), some (.int (nI (nAr (rowB p)))), none, none, none, none, none, none]) dX3_mark_4 (xlt rfl) rfl ?_
  refine x_iload_n dX3_mark_5 rfl ?_
  refine x_iconst 4 dX3_mark_6 (by decide) ?_
  refine x_ishr dX3_mark_7 ?_
  refine x_bipush 15 dX3_mark_8 (by decide) ?_
  refine x_iand dX3_mark_10 ?_
  refine x_rei (nI (nBr (rowB p))) (q2) ?_
  refine x_istore_n (lv' := [some (.ref aO), some (.int (nI (packB p))), some (.int (nI (nAr (rowB p)))), some (.int (nI (nBr (rowB p)))), none, none, none, none, none]) dX3_mark_11 (xlt rfl) rfl ?_
  refine x_iload_n dX3_mark_12 rfl ?_
  refine x_bipush 8 dX3_mark_13 (by decide) ?_
  refine x_ishr dX3_mark_15 ?_
  refine x_bipush 15 dX3_mark_16 (by decide) ?_
  refine x_iand dX3_mark_18 ?_
  refine x_rei (nI (nCr (rowB p))) (q3) ?_
  refine x_istore (lv' := [some (.ref aO), some (.int (nI (packB p))), some (.int (nI (nAr (rowB p)))), some (.int (nI (nBr (rowB p)))), some (.int (nI (nCr (rowB p)))), none, none, none, none]) dX3_mark_19 (xlt rfl) rfl ?_
  refine x_iload_n dX3_mark_21 rfl ?_
  refine x_bipush 12 dX3_mark_22 (by decide) ?_
  refine x_ishr dX3_mark_24 ?_
  refine x_bipush 15 dX3_mark_25 (by decide) ?_
  refine x_iand dX3_mark_27 ?_
  refine x_rei (nI (nDr (rowB p))) (q4) ?_
  refine x_istore (lv' := [some (.ref aO), some (.int (nI (packB p))), some (.int (nI (nAr (rowB p)))), some (.int (nI (nBr (rowB p)))), some (.int (nI (nCr (rowB p)))), some (.int (nI (nDr (rowB p)))), none, none, none]) dX3_mark_28 (xlt rfl) rfl ?_
  refine x_iload_n dX3_mark_30 rfl ?_
  refine x_iload_n dX3_mark_31 rfl ?_
  refine x_icmp_ge dX3_mark_32 (fun c32 => ?_) (fun c32 => ?_)
  · have c32 : (nI (nBr (rowB p))) ≤ (nI (nAr (rowB p))) := c32
    have c32n := (nI_leI (a := (nBr (rowB p))) (b := (nAr (rowB p))) (by omega) (by omega)).mp c32
    exact absurd c32n (by omega)
  · have c32 : ¬ ((nI (nBr (rowB p))) ≤ (nI (nAr (rowB p)))) := c32
    have c32n := mt (nI_leI (a := (nBr (rowB p))) (b := (nAr (rowB p))) (by omega) (by omega)).mpr c32
    refine x_iload_n dX3_mark_35 rfl ?_
    refine x_iload dX3_mark_36 rfl ?_
    refine x_icmp_ge dX3_mark_38 (fun c38 => ?_) (fun c38 => ?_)
    · have c38 : (nI (nCr (rowB p))) ≤ (nI (nBr (rowB p))) := c38
      have c38n := (nI_leI (a := (nCr (rowB p))) (b := (nBr (rowB p))) (by omega) (by omega)).mp c38
      exact absurd c38n (by omega)
    · have c38 : ¬ ((nI (nCr (rowB p))) ≤ (nI (nBr (rowB p)))) := c38
      have c38n := mt (nI_leI (a := (nCr (rowB p))) (b := (nBr (rowB p))) (by omega) (by omega)).mpr c38
      refine x_iload dX3_mark_41 rfl ?_
      refine x_iload dX3_mark_43 rfl ?_
      refine x_icmp_ge dX3_mark_45 (fun c45 => ?_) (fun c45 => ?_)
      · have c45 : (nI (nDr (rowB p))) ≤ (nI (nCr (rowB p))) := c45
        have c45n := (nI_leI (a := (nDr (rowB p))) (b := (nCr (rowB p))) (by omega) (by omega)).mp c45
        exact absurd c45n (by omega)
      · have c45 : ¬ ((nI (nDr (rowB p))) ≤ (nI (nCr (rowB p)))) := c45
        have c45n := mt (nI_leI (a := (nDr (rowB p))) (b := (nCr (rowB p))) (by omega) (by omega)).mpr c45
        refine x_iload dX3_mark_48 rfl ?_
        refine x_bipush 12 dX3_mark_50 (by decide) ?_
        refine x_icmp_lt dX3_mark_52 (fun c52 => ?_) (fun c52 => ?_)
        · have c52 : (nI (nDr (rowB p))) < 12 := c52
          have c52n := (nI_ltI (a := (nDr (rowB p))) (b := 12) (by omega) (by omega)).mp c52
          refine x_getsN dX3_mark_56 (n := "PAIRS_BELOW") (N := 12) (f := tPB) (fun h => h.2.2.2.2.1) (fun h => h.2.1) ?_
          refine x_iload dX3_mark_59 rfl ?_
          refine x_tald dX3_mark_61 (n := "PAIRS_BELOW") (N := 12) (f := tPB) (fun h => h.2.2.2.2.1) (nCr (rowB p)) (rfl) (by omega) (by decide) ?_
          refine x_istore (lv' := [some (.ref aO), some (.int (nI (packB p))), some (.int (nI (nAr (rowB p)))), some (.int (nI (nBr (rowB p)))), some (.int (nI (nCr (rowB p)))), some (.int (nI (nDr (rowB p)))), some (.int (nI (pbN (nCr (rowB p))))), none, none]) dX3_mark_62 (xlt rfl) rfl ?_
          refine x_getsN dX3_mark_64 (n := "PAIRS_BELOW") (N := 12) (f := tPB) (fun h => h.2.2.2.2.1) (fun h => h.2.1) ?_
          refine x_iload dX3_mark_67 rfl ?_
          refine x_tald dX3_mark_69 (n := "PAIRS_BELOW") (N := 12) (f := tPB) (fun h => h.2.2.2.2.1) (nDr (rowB p)) (rfl) (by omega) (by decide) ?_
          refine x_istore (lv' := [some (.ref aO), some (.int (nI (packB p))), some (.int (nI (nAr (rowB p)))), some (.int (nI (nBr (rowB p)))), some (.int (nI (nCr (rowB p)))), some (.int (nI (nDr (rowB p)))), some (.int (nI (pbN (nCr (rowB p))))), some (.int (nI (pbN (nDr (rowB p))))), none]) dX3_mark_70 (xlt rfl) rfl ?_
          refine x_getsN dX3_mark_72 (n := "PAIRS_BELOW") (N := 12) (f := tPB) (fun h => h.2.2.2.2.1) (fun h => h.2.1) ?_
          refine x_iload_n dX3_mark_75 rfl ?_
          refine x_tald dX3_mark_76 (n := "PAIRS_BELOW") (N := 12) (f := tPB) (fun h => h.2.2.2.2.1) (nBr (rowB p)) (rfl) (by omega) (by decide) ?_
          refine x_iload_n dX3_mark_77 rfl ?_
          refine x_iadd dX3_mark_78 ?_
          refine x_rei (nI ((pbN (nBr (rowB p))) + (nAr (rowB p)))) (nI_iadd (pbN (nBr (rowB p))) (nAr (rowB p))) ?_
          refine x_istore (lv' := [some (.ref aO), some (.int (nI (packB p))), some (.int (nI (nAr (rowB p)))), some (.int (nI (nBr (rowB p)))), some (.int (nI (nCr (rowB p)))), some (.int (nI (nDr (rowB p)))), some (.int (nI (pbN (nCr (rowB p))))), some (.int (nI (pbN (nDr (rowB p))))), some (.int (nI ((pbN (nBr (rowB p))) + (nAr (rowB p)))))]) dX3_mark_79 (xlt rfl) rfl ?_
          refine x_aload_n dX3_mark_81 rfl ?_
          refine x_get dX3_mark_82 0 2 inX3 fl_X3_18 rfl rfl (by decide) rfl ?_
          refine x_iconst 0 dX3_mark_85 (by decide) ?_
          refine x_getsN dX3_mark_86 (n := "TRIPLES_BELOW") (N := 12) (f := tTB) (fun h => h.2.2.2.2.2.1) (fun h => h.2.2.1) ?_
          refine x_iload dX3_mark_89 rfl ?_
          refine x_tald dX3_mark_91 (n := "TRIPLES_BELOW") (N := 12) (f := tTB) (fun h => h.2.2.2.2.2.1) (nCr (rowB p)) (rfl) (by omega) (by decide) ?_
          refine x_iload dX3_mark_92 rfl ?_
          refine x_iadd dX3_mark_94 ?_
          refine x_rei (nI ((tbN (nCr (rowB p))) + ((pbN (nBr (rowB p))) + (nAr (rowB p))))) (nI_iadd (tbN (nCr (rowB p))) ((pbN (nBr (rowB p))) + (nAr (rowB p)))) ?_
          refine x_iast (ws' := [(aO, .inr (3, [.ref aOv, .ref aOs, .ref aOm, .ref aL])), (aOm, .inl (g.2.1 0, 10, .inl (nIf (updN mk 0 ((tbN (nCr (rowB p))) + ((pbN (nBr (rowB p))) + (nAr (rowB p))))))))]) dX3_mark_95 1 0 rfl (rfl) (by decide) (by decide) (by rw [upd_nIf]; rfl) ?_
          refine x_aload_n dX3_mark_96 rfl ?_
          refine x_get dX3_mark_97 0 2 inX3 fl_X3_18 rfl rfl (by decide) rfl ?_
          refine x_iconst 1 dX3_mark_100 (by decide) ?_
          refine x_getsN dX3_mark_101 (n := "TRIPLES_BELOW") (N := 12) (f := tTB) (fun h => h.2.2.2.2.2.1) (fun h => h.2.2.1) ?_
          refine x_iload dX3_mark_104 rfl ?_
          refine x_tald dX3_mark_106 (n := "TRIPLES_BELOW") (N := 12) (f := tTB) (fun h => h.2.2.2.2.2.1) (nDr (rowB p)) (rfl) (by omega) (by decide) ?_
          refine x_iload dX3_mark_107 rfl ?_
          refine x_iadd dX3_mark_109 ?_
          refine x_rei (nI ((tbN (nDr (rowB p))) + ((pbN (nBr (rowB p))) + (nAr (rowB p))))) (nI_iadd (tbN (nDr (rowB p))) ((pbN (nBr (rowB p))) + (nAr (rowB p)))) ?_
          refine x_iast (ws' := [(aO, .inr (3, [.ref aOv, .ref aOs, .ref aOm, .ref aL])), (aOm, .inl (g.2.1 0, 10, .inl (nIf (updN (updN mk 0 ((tbN (nCr (rowB p))) + ((pbN (nBr (rowB p))) + (nAr (rowB p))))) 1 ((tbN (nDr (rowB p))) + ((pbN (nBr (rowB p))) + (nAr (rowB p))))))))]) dX3_mark_110 1 1 rfl (rfl) (by decide) (by decide) (by rw [upd_nIf]; rfl) ?_
          refine x_aload_n dX3_mark_111 rfl ?_
          refine x_get dX3_mark_112 0 2 inX3 fl_X3_18 rfl rfl (by decide) rfl ?_
          refine x_iconst 2 dX3_mark_115 (by decide) ?_
          refine x_getsN dX3_mark_116 (n := "TRIPLES_BELOW") (N := 12) (f := tTB) (fun h => h.2.2.2.2.2.1) (fun h => h.2.2.1) ?_
          refine x_iload dX3_mark_119 rfl ?_
          refine x_tald dX3_mark_121 (n := "TRIPLES_BELOW") (N := 12) (f := tTB) (fun h => h.2.2.2.2.2.1) (nDr (rowB p)) (rfl) (by omega) (by decide) ?_
          refine x_iload dX3_mark_122 rfl ?_
          refine x_iadd dX3_mark_124 ?_
          refine x_rei (nI ((tbN (nDr (rowB p))) + (pbN (nCr (rowB p))))) (nI_iadd (tbN (nDr (rowB p))) (pbN (nCr (rowB p)))) ?_
          refine x_iload_n dX3_mark_125 rfl ?_
          refine x_iadd dX3_mark_126 ?_
          refine x_rei (nI (((tbN (nDr (rowB p))) + (pbN (nCr (rowB p)))) + (nAr (rowB p)))) (nI_iadd ((tbN (nDr (rowB p))) + (pbN (nCr (rowB p)))) (nAr (rowB p))) ?_
          refine x_iast (ws' := [(aO, .inr (3, [.ref aOv, .ref aOs, .ref aOm, .ref aL])), (aOm, .inl (g.2.1 0, 10, .inl (nIf (updN (updN (updN mk 0 ((tbN (nCr (rowB p))) + ((pbN (nBr (rowB p))) + (nAr (rowB p))))) 1 ((tbN (nDr (rowB p))) + ((pbN (nBr (rowB p))) + (nAr (rowB p))))) 2 (((tbN (nDr (rowB p))) + (pbN (nCr (rowB p)))) + (nAr (rowB p)))))))]) dX3_mark_127 1 2 rfl (rfl) (by decide) (by decide) (by rw [upd_nIf]; rfl) ?_
          refine x_aload_n dX3_mark_128 rfl ?_
          refine x_get dX3_mark_129 0 2 inX3 fl_X3_18 rfl rfl (by decide) rfl ?_
          refine x_iconst 3 dX3_mark_132 (by decide) ?_
          refine x_getsN dX3_mark_133 (n := "TRIPLES_BELOW") (N := 12) (f := tTB) (fun h => h.2.2.2.2.2.1) (fun h => h.2.2.1) ?_
          refine x_iload dX3_mark_136 rfl ?_
          refine x_tald dX3_mark_138 (n := "TRIPLES_BELOW") (N := 12) (f := tTB) (fun h => h.2.2.2.2.2.1) (nDr (rowB p)) (rfl) (by omega) (by decide) ?_
          refine x_iload dX3_mark_139 rfl ?_
          refine x_iadd dX3_mark_141 ?_
          refine x_rei (nI ((tbN (nDr (rowB p))) + (pbN (nCr (rowB p))))) (nI_iadd (tbN (nDr (rowB p))) (pbN (nCr (rowB p)))) ?_
          refine x_iload_n dX3_mark_142 rfl ?_
          refine x_iadd dX3_mark_143 ?_
          refine x_rei (nI (((tbN (nDr (rowB p))) + (pbN (nCr (rowB p)))) + (nBr (rowB p)))) (nI_iadd ((tbN (nDr (rowB p))) + (pbN (nCr (rowB p)))) (nBr (rowB p))) ?_
          refine x_iast (ws' := [(aO, .inr (3, [.ref aOv, .ref aOs, .ref aOm, .ref aL])), (aOm, .inl (g.2.1 0, 10, .inl (nIf (updN (updN (updN (updN mk 0 ((tbN (nCr (rowB p))) + ((pbN (nBr (rowB p))) + (nAr (rowB p))))) 1 ((tbN (nDr (rowB p))) + ((pbN (nBr (rowB p))) + (nAr (rowB p))))) 2 (((tbN (nDr (rowB p))) + (pbN (nCr (rowB p)))) + (nAr (rowB p)))) 3 (((tbN (nDr (rowB p))) + (pbN (nCr (rowB p)))) + (nBr (rowB p)))))))]) dX3_mark_144 1 3 rfl (rfl) (by decide) (by decide) (by rw [upd_nIf]; rfl) ?_
          refine x_aload_n dX3_mark_145 rfl ?_
          refine x_get dX3_mark_146 0 2 inX3 fl_X3_18 rfl rfl (by decide) rfl ?_
          refine x_iconst 4 dX3_mark_149 (by decide) ?_
          refine x_sipush 220 dX3_mark_150 (by decide) ?_
          refine x_iload dX3_mark_153 rfl ?_
          refine x_iadd dX3_mark_155 ?_
          refine x_rei (nI (220 + ((pbN (nBr (rowB p))) + (nAr (rowB p))))) (nI_iadd 220 ((pbN (nBr (rowB p))) + (nAr (rowB p)))) ?_
          refine x_iast (ws' := [(aO, .inr (3, [.ref aOv, .ref aOs, .ref aOm, .ref aL])), (aOm, .inl (g.2.1 0, 10, .inl (nIf (updN (updN (updN (updN (updN mk 0 ((tbN (nCr (rowB p))) + ((pbN (nBr (rowB p))) + (nAr (rowB p))))) 1 ((tbN (nDr (rowB p))) + ((pbN (nBr (rowB p))) + (nAr (rowB p))))) 2 (((tbN (nDr (rowB p))) + (pbN (nCr (rowB p)))) + (nAr (rowB p)))) 3 (((tbN (nDr (rowB p))) + (pbN (nCr (rowB p)))) + (nBr (rowB p)))) 4 (220 + ((pbN (nBr (rowB p))) + (nAr (rowB p))))))))]) dX3_mark_156 1 4 rfl (rfl) (by decide) (by decide) (by rw [upd_nIf]; rfl) ?_
          refine x_aload_n dX3_mark_157 rfl ?_
          refine x_get dX3_mark_158 0 2 inX3 fl_X3_18 rfl rfl (by decide) rfl ?_
          refine x_iconst 5 dX3_mark_161 (by decide) ?_
          refine x_sipush 220 dX3_mark_162 (by decide) ?_
          refine x_iload dX3_mark_165 rfl ?_
          refine x_iadd dX3_mark_167 ?_
          refine x_rei (nI (220 + (pbN (nCr (rowB p))))) (nI_iadd 220 (pbN (nCr (rowB p)))) ?_
          refine x_iload_n dX3_mark_168 rfl ?_
          refine x_iadd dX3_mark_169 ?_
          refine x_rei (nI ((220 + (pbN (nCr (rowB p)))) + (nAr (rowB p)))) (nI_iadd (220 + (pbN (nCr (rowB p)))) (nAr (rowB p))) ?_
          refine x_iast (ws' := [(aO, .inr (3, [.ref aOv, .ref aOs, .ref aOm, .ref aL])), (aOm, .inl (g.2.1 0, 10, .inl (nIf (updN (updN (updN (updN (updN (updN mk 0 ((tbN (nCr (rowB p))) + ((pbN (nBr (rowB p))) + (nAr (rowB p))))) 1 ((tbN (nDr (rowB p))) + ((pbN (nBr (rowB p))) + (nAr (rowB p))))) 2 (((tbN (nDr (rowB p))) + (pbN (nCr (rowB p)))) + (nAr (rowB p)))) 3 (((tbN (nDr (rowB p))) + (pbN (nCr (rowB p)))) + (nBr (rowB p)))) 4 (220 + ((pbN (nBr (rowB p))) + (nAr (rowB p))))) 5 ((220 + (pbN (nCr (rowB p)))) + (nAr (rowB p)))))))]) dX3_mark_170 1 5 rfl (rfl) (by decide) (by decide) (by rw [upd_nIf]; rfl) ?_
          refine x_aload_n dX3_mark_171 rfl ?_
          refine x_get dX3_mark_172 0 2 inX3 fl_X3_18 rfl rfl (by decide) rfl ?_
          refine x_bipush 6 dX3_mark_175 (by decide) ?_
          refine x_sipush 220 dX3_mark_177 (by decide) ?_
          refine x_iload dX3_mark_180 rfl ?_
          refine x_iadd dX3_mark_182 ?_
          refine x_rei (nI (220 + (pbN (nCr (rowB p))))) (nI_iadd 220 (pbN (nCr (rowB p)))) ?_
          refine x_iload_n dX3_mark_183 rfl ?_
          refine x_iadd dX3_mark_184 ?_
          refine x_rei (nI ((220 + (pbN (nCr (rowB p)))) + (nBr (rowB p)))) (nI_iadd (220 + (pbN (nCr (rowB p)))) (nBr (rowB p))) ?_
          refine x_iast (ws' := [(aO, .inr (3, [.ref aOv, .ref aOs, .ref aOm, .ref aL])), (aOm, .inl (g.2.1 0, 10, .inl (nIf (updN (updN (updN (updN (updN (updN (updN mk 0 ((tbN (nCr (rowB p))) + ((pbN (nBr (rowB p))) + (nAr (rowB p))))) 1 ((tbN (nDr (rowB p))) + ((pbN (nBr (rowB p))) + (nAr (rowB p))))) 2 (((tbN (nDr (rowB p))) + (pbN (nCr (rowB p)))) + (nAr (rowB p)))) 3 (((tbN (nDr (rowB p))) + (pbN (nCr (rowB p)))) + (nBr (rowB p)))) 4 (220 + ((pbN (nBr (rowB p))) + (nAr (rowB p))))) 5 ((220 + (pbN (nCr (rowB p)))) + (nAr (rowB p)))) 6 ((220 + (pbN (nCr (rowB p)))) + (nBr (rowB p)))))))]) dX3_mark_185 1 6 rfl (rfl) (by decide) (by decide) (by rw [upd_nIf]; rfl) ?_
          refine x_aload_n dX3_mark_186 rfl ?_
          refine x_get dX3_mark_187 0 2 inX3 fl_X3_18 rfl rfl (by decide) rfl ?_
          refine x_bipush 7 dX3_mark_190 (by decide) ?_
          refine x_sipush 220 dX3_mark_192 (by decide) ?_
          refine x_iload dX3_mark_195 rfl ?_
          refine x_iadd dX3_mark_197 ?_
          refine x_rei (nI (220 + (pbN (nDr (rowB p))))) (nI_iadd 220 (pbN (nDr (rowB p)))) ?_
          refine x_iload_n dX3_mark_198 rfl ?_
          refine x_iadd dX3_mark_199 ?_
          refine x_rei (nI ((220 + (pbN (nDr (rowB p)))) + (nAr (rowB p)))) (nI_iadd (220 + (pbN (nDr (rowB p)))) (nAr (rowB p))) ?_
          refine x_iast (ws' := [(aO, .inr (3, [.ref aOv, .ref aOs, .ref aOm, .ref aL])), (aOm, .inl (g.2.1 0, 10, .inl (nIf (updN (updN (updN (updN (updN (updN (updN (updN mk 0 ((tbN (nCr (rowB p))) + ((pbN (nBr (rowB p))) + (nAr (rowB p))))) 1 ((tbN (nDr (rowB p))) + ((pbN (nBr (rowB p))) + (nAr (rowB p))))) 2 (((tbN (nDr (rowB p))) + (pbN (nCr (rowB p)))) + (nAr (rowB p)))) 3 (((tbN (nDr (rowB p))) + (pbN (nCr (rowB p)))) + (nBr (rowB p)))) 4 (220 + ((pbN (nBr (rowB p))) + (nAr (rowB p))))) 5 ((220 + (pbN (nCr (rowB p)))) + (nAr (rowB p)))) 6 ((220 + (pbN (nCr (rowB p)))) + (nBr (rowB p)))) 7 ((220 + (pbN (nDr (rowB p)))) + (nAr (rowB p)))))))]) dX3_mark_200 1 7 rfl (rfl) (by decide) (by decide) (by rw [upd_nIf]; rfl) ?_
          refine x_aload_n dX3_mark_201 rfl ?_
          refine x_get dX3_mark_202 0 2 inX3 fl_X3_18 rfl rfl (by decide) rfl ?_
          refine x_bipush 8 dX3_mark_205 (by decide) ?_
          refine x_sipush 220 dX3_mark_207 (by decide) ?_
          refine x_iload dX3_mark_210 rfl ?_
          refine x_iadd dX3_mark_212 ?_
          refine x_rei (nI (220 + (pbN (nDr (rowB p))))) (nI_iadd 220 (pbN (nDr (rowB p)))) ?_
          refine x_iload_n dX3_mark_213 rfl ?_
          refine x_iadd dX3_mark_214 ?_
          refine x_rei (nI ((220 + (pbN (nDr (rowB p)))) + (nBr (rowB p)))) (nI_iadd (220 + (pbN (nDr (rowB p)))) (nBr (rowB p))) ?_
          refine x_iast (ws' := [(aO, .inr (3, [.ref aOv, .ref aOs, .ref aOm, .ref aL])), (aOm, .inl (g.2.1 0, 10, .inl (nIf (updN (updN (updN (updN (updN (updN (updN (updN (updN mk 0 ((tbN (nCr (rowB p))) + ((pbN (nBr (rowB p))) + (nAr (rowB p))))) 1 ((tbN (nDr (rowB p))) + ((pbN (nBr (rowB p))) + (nAr (rowB p))))) 2 (((tbN (nDr (rowB p))) + (pbN (nCr (rowB p)))) + (nAr (rowB p)))) 3 (((tbN (nDr (rowB p))) + (pbN (nCr (rowB p)))) + (nBr (rowB p)))) 4 (220 + ((pbN (nBr (rowB p))) + (nAr (rowB p))))) 5 ((220 + (pbN (nCr (rowB p)))) + (nAr (rowB p)))) 6 ((220 + (pbN (nCr (rowB p)))) + (nBr (rowB p)))) 7 ((220 + (pbN (nDr (rowB p)))) + (nAr (rowB p)))) 8 ((220 + (pbN (nDr (rowB p)))) + (nBr (rowB p)))))))]) dX3_mark_215 1 8 rfl (rfl) (by decide) (by decide) (by rw [upd_nIf]; rfl) ?_
          refine x_aload_n dX3_mark_216 rfl ?_
          refine x_get dX3_mark_217 0 2 inX3 fl_X3_18 rfl rfl (by decide) rfl ?_
          refine x_bipush 9 dX3_mark_220 (by decide) ?_
          refine x_sipush 220 dX3_mark_222 (by decide) ?_
          refine x_iload dX3_mark_225 rfl ?_
          refine x_iadd dX3_mark_227 ?_
          refine x_rei (nI (220 + (pbN (nDr (rowB p))))) (nI_iadd 220 (pbN (nDr (rowB p)))) ?_
          refine x_iload dX3_mark_228 rfl ?_
          refine x_iadd dX3_mark_230 ?_
          refine x_rei (nI ((220 + (pbN (nDr (rowB p)))) + (nCr (rowB p)))) (nI_iadd (220 + (pbN (nDr (rowB p)))) (nCr (rowB p))) ?_
          refine x_iast (ws' := [(aO, .inr (3, [.ref aOv, .ref aOs, .ref aOm, .ref aL])), (aOm, .inl (g.2.1 0, 10, .inl (nIf (updN (updN (updN (updN (updN (updN (updN (updN (updN (updN mk 0 ((tbN (nCr (rowB p))) + ((pbN (nBr (rowB p))) + (nAr (rowB p))))) 1 ((tbN (nDr (rowB p))) + ((pbN (nBr (rowB p))) + (nAr (rowB p))))) 2 (((tbN (nDr (rowB p))) + (pbN (nCr (rowB p)))) + (nAr (rowB p)))) 3 (((tbN (nDr (rowB p))) + (pbN (nCr (rowB p)))) + (nBr (rowB p)))) 4 (220 + ((pbN (nBr (rowB p))) + (nAr (rowB p))))) 5 ((220 + (pbN (nCr (rowB p)))) + (nAr (rowB p)))) 6 ((220 + (pbN (nCr (rowB p)))) + (nBr (rowB p)))) 7 ((220 + (pbN (nDr (rowB p)))) + (nAr (rowB p)))) 8 ((220 + (pbN (nDr (rowB p)))) + (nBr (rowB p)))) 9 ((220 + (pbN (nDr (rowB p)))) + (nCr (rowB p)))))))]) dX3_mark_231 1 9 rfl (rfl) (by decide) (by decide) (by rw [upd_nIf]; rfl) ?_
          refine x_funi (ws' := [(aO, .inr (3, [.ref aOv, .ref aOs, .ref aOm, .ref aL])), (aOm, .inl (g.2.1 0, 10, .inl (nIf (mkR (rowB p)))))]) (q0 := 1) rfl (fun j hj => by rcases (by omega : j = 0 ∨ j = 1 ∨ j = 2 ∨ j = 3 ∨ j = 4 ∨ j = 5 ∨ j = 6 ∨ j = 7 ∨ j = 8 ∨ j = 9) with rfl | rfl | rfl | rfl | rfl | rfl | rfl | rfl | rfl | rfl <;> rfl) rfl ?_
          rw [← hQ]
          refine x_vret dX3_mark_232 rfl (Nat.le_of_ble_eq_true rfl) (Nat.le_of_ble_eq_true rfl) ?_
          exact ⟨rfl, rfl⟩
        · have c52 : ¬ ((nI (nDr (rowB p))) < 12) := c52
          have c52n := mt (nI_ltI (a := (nDr (rowB p))) (b := 12) (by omega) (by omega)).mpr c52
          exact absurd c52n (by omega)

-- == X3_gather ==
theorem dX3_gather_0 : xd cX3_gather 0 (.aload_n 0) 1 1 := ⟨by decide +kernel, rfl⟩
theorem dX3_gather_1 : xd cX3_gather 1 (.getfield 15) 3 4 := ⟨by decide +kernel, rfl⟩
theorem dX3_gather_4 : xd cX3_gather 4 (.lconst 0) 1 5 := ⟨by decide +kernel, rfl⟩
theorem dX3_gather_5 : xd cX3_gather 5 (.invokestatic 26) 3 8 := ⟨by decide +kernel, rfl⟩
theorem dX3_gather_8 : xd cX3_gather 8 (.iconst 0) 1 9 := ⟨by decide +kernel, rfl⟩
theorem dX3_gather_9 : xd cX3_gather 9 (.istore_n 1) 1 10 := ⟨by decide +kernel, rfl⟩
theorem dX3_gather_10 : xd cX3_gather 10 (.iload_n 1) 1 11 := ⟨by decide +kernel, rfl⟩
theorem dX3_gather_11 : xd cX3_gather 11 (.sipush 495) 3 14 := ⟨by decide +kernel, rfl⟩
theorem dX3_gather_14 : xj cX3_gather 14 (.if_icmp .ge) 17 70 := ⟨56, by decide +kernel, rfl, by decide⟩
theorem dX3_gather_17 : xd cX3_gather 17 (.aload_n 0) 1 18 := ⟨by decide +kernel, rfl⟩
theorem dX3_gather_18 : xd cX3_gather 18 (.aload_n 0) 1 19 := ⟨by decide +kernel, rfl⟩
theorem dX3_gather_19 : xd cX3_gather 19 (.getfield 22) 3 22 := ⟨by decide +kernel, rfl⟩
theorem dX3_gather_22 : xd cX3_gather 22 (.getfield 32) 3 25 := ⟨by decide +kernel, rfl⟩
theorem dX3_gather_25 : xd cX3_gather 25 (.iload_n 1) 1 26 := ⟨by decide +kernel, rfl⟩
theorem dX3_gather_26 : xd cX3_gather 26 .iaload 1 27 := ⟨by decide +kernel, rfl⟩
theorem dX3_gather_27 : xd cX3_gather 27 (.invokevirtual 37) 3 30 := ⟨by decide +kernel, rfl⟩
theorem dX3_gather_30 : xd cX3_gather 30 (.iconst 0) 1 31 := ⟨by decide +kernel, rfl⟩
theorem dX3_gather_31 : xd cX3_gather 31 (.istore_n 2) 1 32 := ⟨by decide +kernel, rfl⟩
theorem dX3_gather_32 : xd cX3_gather 32 (.iload_n 2) 1 33 := ⟨by decide +kernel, rfl⟩
theorem dX3_gather_33 : xd cX3_gather 33 (.bipush 10) 2 35 := ⟨by decide +kernel, rfl⟩
theorem dX3_gather_35 : xj cX3_gather 35 (.if_icmp .ge) 38 64 := ⟨29, by decide +kernel, rfl, by decide⟩
theorem dX3_gather_38 : xd cX3_gather 38 (.aload_n 0) 1 39 := ⟨by decide +kernel, rfl⟩
theorem dX3_gather_39 : xd cX3_gather 39 (.getfield 15) 3 42 := ⟨by decide +kernel, rfl⟩
theorem dX3_gather_42 : xd cX3_gather 42 (.aload_n 0) 1 43 := ⟨by decide +kernel, rfl⟩
theorem dX3_gather_43 : xd cX3_gather 43 (.getfield 18) 3 46 := ⟨by decide +kernel, rfl⟩
theorem dX3_gather_46 : xd cX3_gather 46 (.iload_n 2) 1 47 := ⟨by decide +kernel, rfl⟩
theorem dX3_gather_47 : xd cX3_gather 47 .iaload 1 48 := ⟨by decide +kernel, rfl⟩
theorem dX3_gather_48 : xd cX3_gather 48 .dup2 1 49 := ⟨by decide +kernel, rfl⟩
theorem dX3_gather_49 : xd cX3_gather 49 .laload 1 50 := ⟨by decide +kernel, rfl⟩
theorem dX3_gather_50 : xd cX3_gather 50 (.aload_n 0) 1 51 := ⟨by decide +kernel, rfl⟩
theorem dX3_gather_51 : xd cX3_gather 51 (.getfield 9) 3 54 := ⟨by decide +kernel, rfl⟩
theorem dX3_gather_54 : xd cX3_gather 54 (.iload_n 1) 1 55 := ⟨by decide +kernel, rfl⟩
theorem dX3_gather_55 : xd cX3_gather 55 .laload 1 56 := ⟨by decide +kernel, rfl⟩
theorem dX3_gather_56 : xd cX3_gather 56 .ladd 1 57 := ⟨by decide +kernel, rfl⟩
theorem dX3_gather_57 : xd cX3_gather 57 .lastore 1 58 := ⟨by decide +kernel, rfl⟩
theorem dX3_gather_58 : xd cX3_gather 58 (.iinc 2 1) 3 61 := ⟨by decide +kernel, rfl⟩
theorem dX3_gather_61 : xj cX3_gather 61 .goto 64 32 := ⟨(-29), by decide +kernel, rfl, by decide⟩
theorem dX3_gather_64 : xd cX3_gather 64 (.iinc 1 1) 3 67 := ⟨by decide +kernel, rfl⟩
theorem dX3_gather_67 : xj cX3_gather 67 .goto 70 10 := ⟨(-57), by decide +kernel, rfl, by decide⟩
theorem dX3_gather_70 : xd cX3_gather 70 .return_ 1 71 := ⟨by decide +kernel, rfl⟩

set_option maxRecDepth 100000 in
set_option maxHeartbeats 4000000 in
theorem ct_X3_gather (l : Launch) (g : XG) (aO aOv aOs aOm aL : Nat) (aLb aLp : Nat) (va su : Nat → Int64) (mk : Nat → Nat) : Ct l g 2 0 0 yX3_gather cX3_gather 3 none [.ref aO] [(aO, .inr (3, [.ref aOv, .ref aOs, .ref aOm, .ref aL])), (aOv, .inl (g.2.1 2, 495, .inr (.inl va))), (aOs, .inl (g.2.1 2, 286, .inr (.inl su))), (aOm, .inl (g.2.1 0, 10, .inl (nIf mk))), (aL, .inr (5, [.ref aLb, .ref aLp])), (aLp, .inl (g.2.1 0, 495, .inl (nIf packB)))] (fun vv_ ww_ => ∃ (mk2 : Nat → Nat), vv_ = none ∧ ww_ = [(aO, .inr (3, [.ref aOv, .ref aOs, .ref aOm, .ref aL])), (aOv, .inl (g.2.1 2, 495, .inr (.inl va))), (aOs, .inl (g.2.1 2, 286, .inr (.inl (gsT va 495)))), (aOm, .inl (g.2.1 0, 10, .inl (nIf mk2))), (aL, .inr (5, [.ref aLb, .ref aLp])), (aLp, .inl (g.2.1 0, 495, .inl (nIf packB)))]) := by
  refine Ct.ofX (lv := [some (.ref aO), none, none]) (by decide) rfl (Nat.le_of_ble_eq_true rfl) (fun κ => ?_)
  generalize hQ : xQ κ g 0 0 _ = Q
  refine x_aload_n dX3_gather_0 rfl ?_
  refine x_get dX3_gather_1 0 1 inX3 fl_X3_15 rfl rfl (by decide) rfl ?_
  refine x_lconst 0 dX3_gather_4 (by decide) ?_
  refine x_cSw (ws' := [(aO, .inr (3, [.ref aOv, .ref aOs, .ref aOm, .ref aL])), (aOv, .inl (g.2.1 2, 495, .inr (.inl va))), (aOs, .inl (g.2.1 2, 286, .inr (.inl (fun _ => 0)))), (aOm, .inl (g.2.1 0, 10, .inl (nIf mk))), (aL, .inr (5, [.ref aLb, .ref aLp])), (aLp, .inl (g.2.1 0, 495, .inl (nIf packB)))]) dX3_gather_5 ml_X3_26 mJ7_fill_d0a16 (ct_J7_fill_d0a16 κ.2.1 g aOs 286 0 su (by decide)) [2] rfl rfl rfl (Nat.le_of_ble_eq_true rfl) (by decide) (Nat.le_refl _) (Nat.le_refl _) (rfl : [aOs] = [aOs]) rfl ?_
  refine x_iconst 0 dX3_gather_8 (by decide) ?_
  refine x_istore_n (lv' := [some (.ref aO), some (.int 0), none]) dX3_gather_9 (xlt rfl) rfl ?_
  have L10_1 : ∀ (i : Nat), i ≤ 495 → ∀ (sf : Nat → Int64), sf = gsT va i → ∀ (mq : Nat → Nat), Xs κ g 2 0 0 cX3_gather yX3_gather none Q 0 0 10 [some (.ref aO), some (.int (nI i)), none] [] [(aO, .inr (3, [.ref aOv, .ref aOs, .ref aOm, .ref aL])), (aOv, .inl (g.2.1 2, 495, .inr (.inl va))), (aOs, .inl (g.2.1 2, 286, .inr (.inl sf))), (aOm, .inl (g.2.1 0, 10, .inl (nIf mq))), (aL, .inr (5, [.ref aLb, .ref aLp])), (aLp, .inl (g.2.1 0, 495, .inl (nIf packB)))] := by
    refine upTo 495 (fun i hi10 ih10 => ?_)
    intro sf esf
    subst esf
    intro mq
    refine x_iload_n dX3_gather_10 rfl ?_
    refine x_sipush 495 dX3_gather_11 (by decide) ?_
    refine x_icmp_ge dX3_gather_14 (fun c14 => ?_) (fun c14 => ?_)
    · have c14 : 495 ≤ (nI i) := c14
      have c14n := (nI_leI (a := 495) (b := i) (by omega) (by omega)).mp c14
      have hxc14 : i = 495 := by omega
      try rw [hxc14]
      rw [← hQ]
      refine x_vret dX3_gather_70 rfl (Nat.le_of_ble_eq_true rfl) (Nat.le_of_ble_eq_true rfl) ?_
      exact ⟨_, rfl, rfl⟩
    · have c14 : ¬ (495 ≤ (nI i)) := c14
      have c14n := mt (nI_leI (a := 495) (b := i) (by omega) (by omega)).mpr c14
      refine x_aload_n dX3_gather_17 rfl ?_
      refine x_aload_n dX3_gather_18 rfl ?_
      refine x_get dX3_gather_19 0 3 inX3 fl_X3_22 rfl rfl (by decide) rfl ?_
      refine x_get dX3_gather_22 4 1 inX5 fl_X3_32 rfl rfl (by decide) rfl ?_
      refine x_iload_n dX3_gather_25 rfl ?_
      refine x_iald dX3_gather_26 5 i rfl (rfl) (by omega) (by decide) ?_
      refine x_cVv (ws' := [(aO, .inr (3, [.ref aOv, .ref aOs, .ref aOm, .ref aL])), (aOv, .inl (g.2.1 2, 495, .inr (.inl va))), (aOs, .inl (g.2.1 2, 286, .inr (.inl (gsT va i)))), (aOm, .inl (g.2.1 0, 10, .inl (nIf (mkR (rowB i))))), (aL, .inr (5, [.ref aLb, .ref aLp])), (aLp, .inl (g.2.1 0, 495, .inl (nIf packB)))]) dX3_gather_27 ml_X3_37 mX3_mark (ct_X3_mark κ.2.1 g aO aOv aOs aOm aL mq i (by omega)) [0, 3] rfl rfl 0 rfl rfl rfl (Nat.le_of_ble_eq_true rfl) (by decide) (Nat.le_refl _) (Nat.le_refl _) (rfl : [aO, aOm] = [aO, aOm]) rfl ?_
      refine x_iconst 0 dX3_gather_30 (by decide) ?_
      refine x_istore_n (lv' := [some (.ref aO), some (.int (nI i)), some (.int 0)]) dX3_gather_31 (xlt rfl) rfl ?_
      have L32_2 : ∀ (j : Nat), j ≤ 10 → ∀ (sg : Nat → Int64), sg = gsI va i j → Xs κ g 2 0 0 cX3_gather yX3_gather none Q 0 0 32 [some (.ref aO), some (.int (nI i)), some (.int (nI j))] [] [(aO, .inr (3, [.ref aOv, .ref aOs, .ref aOm, .ref aL])), (aOv, .inl (g.2.1 2, 495, .inr (.inl va))), (aOs, .inl (g.2.1 2, 286, .inr (.inl sg))), (aOm, .inl (g.2.1 0, 10, .inl (nIf (mkR (rowB i))))), (aL, .inr (5, [.ref aLb, .ref aLp])), (aLp, .inl (g.2.1 0, 495, .inl (nIf packB)))] := by
        refine upTo 10 (fun j hi32 ih32 => ?_)
        intro sg esg
        subst esg
        refine x_iload_n dX3_gather_32 rfl ?_
        refine x_bipush 10 dX3_gather_33 (by decide) ?_
        refine x_icmp_ge dX3_gather_35 (fun c35 => ?_) (fun c35 => ?_)
        · have c35 : 10 ≤ (nI j) := c35
          have c35n := (nI_leI (a := 10) (b := j) (by omega) (by omega)).mp c35
          have hxc35 : j = 10 := by omega
          try rw [hxc35]
          refine x_iinc (lv' := [some (.ref aO), some (.int (nI (i + 1))), some (.int 10)]) (nI (i + 1)) dX3_gather_64 rfl (nI_addc i 1 rfl) rfl ?_
          refine x_goto dX3_gather_67 ?_
          refine x_fgt (lv' := [some (.ref aO), some (.int (nI (i + 1))), none]) ⟨Or.inr rfl, Or.inr rfl, Or.inl rfl, trivial⟩ ?_
          exact ih10 (by omega) _ (by rfl) (mkR (rowB i))
        · have c35 : ¬ (10 ≤ (nI j)) := c35
          have c35n := mt (nI_leI (a := 10) (b := j) (by omega) (by omega)).mpr c35
          refine x_aload_n dX3_gather_38 rfl ?_
          refine x_get dX3_gather_39 0 1 inX3 fl_X3_15 rfl rfl (by decide) rfl ?_
          refine x_aload_n dX3_gather_42 rfl ?_
          refine x_get dX3_gather_43 0 2 inX3 fl_X3_18 rfl rfl (by decide) rfl ?_
          refine x_iload_n dX3_gather_46 rfl ?_
          refine x_iald dX3_gather_47 3 j rfl (rfl) (by omega) (by decide) ?_
          refine x_dup2 dX3_gather_48 rfl rfl ?_
          refine x_lald dX3_gather_49 2 ((mkR (rowB i)) j) rfl (rfl) (mkR_lt (by omega) (by omega)) (by decide) ?_
          refine x_aload_n dX3_gather_50 rfl ?_
          refine x_get dX3_gather_51 0 0 inX3 fl_X3_9 rfl rfl (by decide) rfl ?_
          refine x_iload_n dX3_gather_54 rfl ?_
          refine x_lald dX3_gather_55 1 i rfl (rfl) (by omega) (by decide) ?_
          refine x_ladd dX3_gather_56 ?_
          refine x_last (ws' := [(aO, .inr (3, [.ref aOv, .ref aOs, .ref aOm, .ref aL])), (aOv, .inl (g.2.1 2, 495, .inr (.inl va))), (aOs, .inl (g.2.1 2, 286, .inr (.inl (vp_updL (gsI va i j) ((mkR (rowB i)) j) (((gsI va i j) ((mkR (rowB i)) j)) + (va i)))))), (aOm, .inl (g.2.1 0, 10, .inl (nIf (mkR (rowB i))))), (aL, .inr (5, [.ref aLb, .ref aLp])), (aLp, .inl (g.2.1 0, 495, .inl (nIf packB)))]) dX3_gather_57 2 ((mkR (rowB i)) j) rfl (rfl) (mkR_lt (by omega) (by omega)) (by decide) rfl ?_
          refine x_iinc (lv' := [some (.ref aO), some (.int (nI i)), some (.int (nI (j + 1)))]) (nI (j + 1)) dX3_gather_58 rfl (nI_addc j 1 rfl) rfl ?_
          refine x_goto dX3_gather_61 ?_
          exact ih32 (by omega) _ (by exact gsI_step va i j)
      exact L32_2 0 (Nat.zero_le _) _ (by exact (gsI_0 va i).symm)
  exact L10_1 0 (Nat.zero_le _) _ (by funext s; simp [gsT, sumL]) mk

-- == ofRank_4 ==
theorem dX3_ofRank_0 : xd cX3_ofRank 0 (.iload_n 2) 1 1 := ⟨by decide +kernel, rfl⟩
theorem dX3_ofRank_1 : xj cX3_ofRank 1 (.ifCond .lt) 4 11 := ⟨10, by decide +kernel, rfl, by decide⟩
theorem dX3_ofRank_4 : xd cX3_ofRank 4 (.iload_n 2) 1 5 := ⟨by decide +kernel, rfl⟩
theorem dX3_ofRank_5 : xd cX3_ofRank 5 (.sipush 495) 3 8 := ⟨by decide +kernel, rfl⟩
theorem dX3_ofRank_8 : xj cX3_ofRank 8 (.if_icmp .lt) 11 13 := ⟨5, by decide +kernel, rfl, by decide⟩
theorem dX3_ofRank_11 : xd cX3_ofRank 11 (.lconst 0) 1 12 := ⟨by decide +kernel, rfl⟩
theorem dX3_ofRank_12 : xd cX3_ofRank 12 .lreturn 1 13 := ⟨by decide +kernel, rfl⟩
theorem dX3_ofRank_13 : xd cX3_ofRank 13 (.aload_n 0) 1 14 := ⟨by decide +kernel, rfl⟩
theorem dX3_ofRank_14 : xd cX3_ofRank 14 (.getfield 9) 3 17 := ⟨by decide +kernel, rfl⟩
theorem dX3_ofRank_17 : xd cX3_ofRank 17 (.iload_n 2) 1 18 := ⟨by decide +kernel, rfl⟩
theorem dX3_ofRank_18 : xd cX3_ofRank 18 .laload 1 19 := ⟨by decide +kernel, rfl⟩
theorem dX3_ofRank_19 : xd cX3_ofRank 19 (.lstore_n 3) 1 20 := ⟨by decide +kernel, rfl⟩
theorem dX3_ofRank_20 : xd cX3_ofRank 20 (.iload_n 1) 1 21 := ⟨by decide +kernel, rfl⟩
theorem dX3_ofRank_21 : xd cX3_ofRank 21 (.iconst 4) 1 22 := ⟨by decide +kernel, rfl⟩
theorem dX3_ofRank_22 : xj cX3_ofRank 22 (.if_icmp .ne) 25 27 := ⟨5, by decide +kernel, rfl, by decide⟩
theorem dX3_ofRank_25 : xd cX3_ofRank 25 (.lload_n 3) 1 26 := ⟨by decide +kernel, rfl⟩
theorem dX3_ofRank_26 : xd cX3_ofRank 26 .lreturn 1 27 := ⟨by decide +kernel, rfl⟩
theorem dX3_ofRank_27 : xd cX3_ofRank 27 (.aload_n 0) 1 28 := ⟨by decide +kernel, rfl⟩
theorem dX3_ofRank_28 : xd cX3_ofRank 28 (.aload_n 0) 1 29 := ⟨by decide +kernel, rfl⟩
theorem dX3_ofRank_29 : xd cX3_ofRank 29 (.getfield 22) 3 32 := ⟨by decide +kernel, rfl⟩
theorem dX3_ofRank_32 : xd cX3_ofRank 32 (.getfield 32) 3 35 := ⟨by decide +kernel, rfl⟩
theorem dX3_ofRank_35 : xd cX3_ofRank 35 (.iload_n 2) 1 36 := ⟨by decide +kernel, rfl⟩
theorem dX3_ofRank_36 : xd cX3_ofRank 36 .iaload 1 37 := ⟨by decide +kernel, rfl⟩
theorem dX3_ofRank_37 : xd cX3_ofRank 37 (.invokevirtual 37) 3 40 := ⟨by decide +kernel, rfl⟩
theorem dX3_ofRank_40 : xd cX3_ofRank 40 (.aload_n 0) 1 41 := ⟨by decide +kernel, rfl⟩
theorem dX3_ofRank_41 : xd cX3_ofRank 41 (.getfield 15) 3 44 := ⟨by decide +kernel, rfl⟩
theorem dX3_ofRank_44 : xd cX3_ofRank 44 (.aload_n 0) 1 45 := ⟨by decide +kernel, rfl⟩
theorem dX3_ofRank_45 : xd cX3_ofRank 45 (.getfield 18) 3 48 := ⟨by decide +kernel, rfl⟩
theorem dX3_ofRank_48 : xd cX3_ofRank 48 (.iconst 0) 1 49 := ⟨by decide +kernel, rfl⟩
theorem dX3_ofRank_49 : xd cX3_ofRank 49 .iaload 1 50 := ⟨by decide +kernel, rfl⟩
theorem dX3_ofRank_50 : xd cX3_ofRank 50 .laload 1 51 := ⟨by decide +kernel, rfl⟩
theorem dX3_ofRank_51 : xd cX3_ofRank 51 (.aload_n 0) 1 52 := ⟨by decide +kernel, rfl⟩
theorem dX3_ofRank_52 : xd cX3_ofRank 52 (.getfield 15) 3 55 := ⟨by decide +kernel, rfl⟩
theorem dX3_ofRank_55 : xd cX3_ofRank 55 (.aload_n 0) 1 56 := ⟨by decide +kernel, rfl⟩
theorem dX3_ofRank_56 : xd cX3_ofRank 56 (.getfield 18) 3 59 := ⟨by decide +kernel, rfl⟩
theorem dX3_ofRank_59 : xd cX3_ofRank 59 (.iconst 1) 1 60 := ⟨by decide +kernel, rfl⟩
theorem dX3_ofRank_60 : xd cX3_ofRank 60 .iaload 1 61 := ⟨by decide +kernel, rfl⟩
theorem dX3_ofRank_61 : xd cX3_ofRank 61 .laload 1 62 := ⟨by decide +kernel, rfl⟩
theorem dX3_ofRank_62 : xd cX3_ofRank 62 .ladd 1 63 := ⟨by decide +kernel, rfl⟩
theorem dX3_ofRank_63 : xd cX3_ofRank 63 (.aload_n 0) 1 64 := ⟨by decide +kernel, rfl⟩
theorem dX3_ofRank_64 : xd cX3_ofRank 64 (.getfield 15) 3 67 := ⟨by decide +kernel, rfl⟩
theorem dX3_ofRank_67 : xd cX3_ofRank 67 (.aload_n 0) 1 68 := ⟨by decide +kernel, rfl⟩
theorem dX3_ofRank_68 : xd cX3_ofRank 68 (.getfield 18) 3 71 := ⟨by decide +kernel, rfl⟩
theorem dX3_ofRank_71 : xd cX3_ofRank 71 (.iconst 2) 1 72 := ⟨by decide +kernel, rfl⟩
theorem dX3_ofRank_72 : xd cX3_ofRank 72 .iaload 1 73 := ⟨by decide +kernel, rfl⟩
theorem dX3_ofRank_73 : xd cX3_ofRank 73 .laload 1 74 := ⟨by decide +kernel, rfl⟩
theorem dX3_ofRank_74 : xd cX3_ofRank 74 .ladd 1 75 := ⟨by decide +kernel, rfl⟩
theorem dX3_ofRank_75 : xd cX3_ofRank 75 (.aload_n 0) 1 76 := ⟨by decide +kernel, rfl⟩
theorem dX3_ofRank_76 : xd cX3_ofRank 76 (.getfield 15) 3 79 := ⟨by decide +kernel, rfl⟩
theorem dX3_ofRank_79 : xd cX3_ofRank 79 (.aload_n 0) 1 80 := ⟨by decide +kernel, rfl⟩
theorem dX3_ofRank_80 : xd cX3_ofRank 80 (.getfield 18) 3 83 := ⟨by decide +kernel, rfl⟩
theorem dX3_ofRank_83 : xd cX3_ofRank 83 (.iconst 3) 1 84 := ⟨by decide +kernel, rfl⟩
theorem dX3_ofRank_84 : xd cX3_ofRank 84 .iaload 1 85 := ⟨by decide +kernel, rfl⟩
theorem dX3_ofRank_85 : xd cX3_ofRank 85 .laload 1 86 := ⟨by decide +kernel, rfl⟩
theorem dX3_ofRank_86 : xd cX3_ofRank 86 .ladd 1 87 := ⟨by decide +kernel, rfl⟩
theorem dX3_ofRank_87 : xd cX3_ofRank 87 (.ldc2_w 41) 3 90 := ⟨by decide +kernel, rfl⟩
theorem dX3_ofRank_90 : xd cX3_ofRank 90 (.lload_n 3) 1 91 := ⟨by decide +kernel, rfl⟩
theorem dX3_ofRank_91 : xd cX3_ofRank 91 .lmul 1 92 := ⟨by decide +kernel, rfl⟩
theorem dX3_ofRank_92 : xd cX3_ofRank 92 .lsub 1 93 := ⟨by decide +kernel, rfl⟩
theorem dX3_ofRank_93 : xd cX3_ofRank 93 (.lstore 5) 2 95 := ⟨by decide +kernel, rfl⟩
theorem dX3_ofRank_95 : xd cX3_ofRank 95 (.iload_n 1) 1 96 := ⟨by decide +kernel, rfl⟩
theorem dX3_ofRank_96 : xd cX3_ofRank 96 (.iconst 3) 1 97 := ⟨by decide +kernel, rfl⟩
theorem dX3_ofRank_97 : xj cX3_ofRank 97 (.if_icmp .ne) 100 103 := ⟨6, by decide +kernel, rfl, by decide⟩
theorem dX3_ofRank_100 : xd cX3_ofRank 100 (.lload 5) 2 102 := ⟨by decide +kernel, rfl⟩
theorem dX3_ofRank_102 : xd cX3_ofRank 102 .lreturn 1 103 := ⟨by decide +kernel, rfl⟩
theorem dX3_ofRank_103 : xd cX3_ofRank 103 (.lconst 0) 1 104 := ⟨by decide +kernel, rfl⟩
theorem dX3_ofRank_104 : xd cX3_ofRank 104 (.lstore 7) 2 106 := ⟨by decide +kernel, rfl⟩
theorem dX3_ofRank_106 : xd cX3_ofRank 106 (.iconst 4) 1 107 := ⟨by decide +kernel, rfl⟩
theorem dX3_ofRank_107 : xd cX3_ofRank 107 (.istore 9) 2 109 := ⟨by decide +kernel, rfl⟩
theorem dX3_ofRank_109 : xd cX3_ofRank 109 (.iload 9) 2 111 := ⟨by decide +kernel, rfl⟩
theorem dX3_ofRank_111 : xd cX3_ofRank 111 (.bipush 10) 2 113 := ⟨by decide +kernel, rfl⟩
theorem dX3_ofRank_113 : xj cX3_ofRank 113 (.if_icmp .ge) 116 139 := ⟨26, by decide +kernel, rfl, by decide⟩
theorem dX3_ofRank_116 : xd cX3_ofRank 116 (.lload 7) 2 118 := ⟨by decide +kernel, rfl⟩
theorem dX3_ofRank_118 : xd cX3_ofRank 118 (.aload_n 0) 1 119 := ⟨by decide +kernel, rfl⟩
theorem dX3_ofRank_119 : xd cX3_ofRank 119 (.getfield 15) 3 122 := ⟨by decide +kernel, rfl⟩
theorem dX3_ofRank_122 : xd cX3_ofRank 122 (.aload_n 0) 1 123 := ⟨by decide +kernel, rfl⟩
theorem dX3_ofRank_123 : xd cX3_ofRank 123 (.getfield 18) 3 126 := ⟨by decide +kernel, rfl⟩
theorem dX3_ofRank_126 : xd cX3_ofRank 126 (.iload 9) 2 128 := ⟨by decide +kernel, rfl⟩
theorem dX3_ofRank_128 : xd cX3_ofRank 128 .iaload 1 129 := ⟨by decide +kernel, rfl⟩
theorem dX3_ofRank_129 : xd cX3_ofRank 129 .laload 1 130 := ⟨by decide +kernel, rfl⟩
theorem dX3_ofRank_130 : xd cX3_ofRank 130 .ladd 1 131 := ⟨by decide +kernel, rfl⟩
theorem dX3_ofRank_131 : xd cX3_ofRank 131 (.lstore 7) 2 133 := ⟨by decide +kernel, rfl⟩
theorem dX3_ofRank_133 : xd cX3_ofRank 133 (.iinc 9 1) 3 136 := ⟨by decide +kernel, rfl⟩
theorem dX3_ofRank_136 : xj cX3_ofRank 136 .goto 139 109 := ⟨(-27), by decide +kernel, rfl, by decide⟩
theorem dX3_ofRank_139 : xd cX3_ofRank 139 (.lload 7) 2 141 := ⟨by decide +kernel, rfl⟩
theorem dX3_ofRank_141 : xd cX3_ofRank 141 (.ldc2_w 43) 3 144 := ⟨by decide +kernel, rfl⟩
theorem dX3_ofRank_144 : xd cX3_ofRank 144 (.lload 5) 2 146 := ⟨by decide +kernel, rfl⟩
theorem dX3_ofRank_146 : xd cX3_ofRank 146 .lmul 1 147 := ⟨by decide +kernel, rfl⟩
theorem dX3_ofRank_147 : xd cX3_ofRank 147 .lsub 1 148 := ⟨by decide +kernel, rfl⟩
theorem dX3_ofRank_148 : xd cX3_ofRank 148 (.ldc2_w 45) 3 151 := ⟨by decide +kernel, rfl⟩
theorem dX3_ofRank_151 : xd cX3_ofRank 151 (.lload_n 3) 1 152 := ⟨by decide +kernel, rfl⟩
theorem dX3_ofRank_152 : xd cX3_ofRank 152 .lmul 1 153 := ⟨by decide +kernel, rfl⟩
theorem dX3_ofRank_153 : xd cX3_ofRank 153 .lsub 1 154 := ⟨by decide +kernel, rfl⟩
theorem dX3_ofRank_154 : xd cX3_ofRank 154 .lreturn 1 155 := ⟨by decide +kernel, rfl⟩

set_option maxRecDepth 100000 in
set_option maxHeartbeats 4000000 in
theorem ct_ofRank_4 (l : Launch) (g : XG) (aO aOv aOs aOm aL : Nat) (aLb aLp : Nat) (va su : Nat → Int64) (mk : Nat → Nat) (p : Nat) (hp : p < 495) : Ct l g 2 0 0 yX3_ofRank cX3_ofRank 10 (some .long) [.ref aO, .int 4, .int (nI p)] [(aO, .inr (3, [.ref aOv, .ref aOs, .ref aOm, .ref aL])), (aOv, .inl (g.2.1 2, 495, .inr (.inl va))), (aOs, .inl (g.2.1 2, 286, .inr (.inl su))), (aOm, .inl (g.2.1 0, 10, .inl (nIf mk))), (aL, .inr (5, [.ref aLb, .ref aLp])), (aLp, .inl (g.2.1 0, 495, .inl (nIf packB)))] (xpl (va p) [(aO, .inr (3, [.ref aOv, .ref aOs, .ref aOm, .ref aL])), (aOv, .inl (g.2.1 2, 495, .inr (.inl va))), (aOs, .inl (g.2.1 2, 286, .inr (.inl su))), (aOm, .inl (g.2.1 0, 10, .inl (nIf mk))), (aL, .inr (5, [.ref aLb, .ref aLp])), (aLp, .inl (g.2.1 0, 495, .inl (nIf packB)))]) := by
  refine Ct.ofX (lv := [some (.ref aO), some (.int 4), some (.int (nI p)), none, none, none, none, none, none, none]) (by decide) rfl (Nat.le_of_ble_eq_true rfl) (fun κ => ?_)
  generalize hQ : xQ κ g 0 0 _ = Q
  refine x_iload_n dX3_ofRank_0 rfl ?_
  refine x_if_lt dX3_ofRank_1 (fun c1 => ?_) (fun c1 => ?_)
  · have c1 : (nI p) < 0 := c1
    have c1n := (nI_ltI (a := p) (b := 0) (by omega) (by omega)).mp c1
    exact absurd c1n (by omega)
  · have c1 : ¬ ((nI p) < 0) := c1
    have c1n := mt (nI_ltI (a := p) (b := 0) (by omega) (by omega)).mpr c1
    refine x_iload_n dX3_ofRank_4 rfl ?_
    refine x_sipush 495 dX3_ofRank_5 (by decide) ?_
    refine x_icmp_lt dX3_ofRank_8 (fun c8 => ?_) (fun c8 => ?_)
    · have c8 : (nI p) < 495 := c8
      have c8n := (nI_ltI (a := p) (b := 495) (by omega) (by omega)).mp c8
      refine x_aload_n dX3_ofRank_13 rfl ?_
      refine x_get dX3_ofRank_14 0 0 inX3 fl_X3_9 rfl rfl (by decide) rfl ?_
      refine x_iload_n dX3_ofRank_17 rfl ?_
      refine x_lald dX3_ofRank_18 1 p rfl (rfl) (by omega) (by decide) ?_
      refine x_lstore_n (lv' := [some (.ref aO), some (.int 4), some (.int (nI p)), some (.long (va p)), none, none, none, none, none, none]) dX3_ofRank_19 (xlt rfl) rfl ?_
      refine x_iload_n dX3_ofRank_20 rfl ?_
      refine x_iconst 4 dX3_ofRank_21 (by decide) ?_
      refine x_icmp_ne dX3_ofRank_22 (fun c22 => ?_) (fun c22 => ?_)
      · exact absurd c22 (by decide)
      refine x_lload_n dX3_ofRank_25 rfl ?_
      rw [← hQ]
      refine x_lret dX3_ofRank_26 rfl (Nat.le_of_ble_eq_true rfl) (Nat.le_of_ble_eq_true rfl) ?_
      exact ⟨rfl, rfl⟩
    · have c8 : ¬ ((nI p) < 495) := c8
      have c8n := mt (nI_ltI (a := p) (b := 495) (by omega) (by omega)).mpr c8
      exact absurd c8n (by omega)

-- == ofRank_3 ==
set_option maxRecDepth 100000 in
set_option maxHeartbeats 4000000 in
theorem ct_ofRank_3 (l : Launch) (g : XG) (aO aOv aOs aOm aL : Nat) (aLb aLp : Nat) (va su : Nat → Int64) (mk : Nat → Nat) (p : Nat) (hp : p < 495) : Ct l g 2 0 0 yX3_ofRank cX3_ofRank 10 (some .long) [.ref aO, .int 3, .int (nI p)] [(aO, .inr (3, [.ref aOv, .ref aOs, .ref aOm, .ref aL])), (aOv, .inl (g.2.1 2, 495, .inr (.inl va))), (aOs, .inl (g.2.1 2, 286, .inr (.inl su))), (aOm, .inl (g.2.1 0, 10, .inl (nIf mk))), (aL, .inr (5, [.ref aLb, .ref aLp])), (aLp, .inl (g.2.1 0, 495, .inl (nIf packB)))] (xpl (ovThree su va p) [(aO, .inr (3, [.ref aOv, .ref aOs, .ref aOm, .ref aL])), (aOv, .inl (g.2.1 2, 495, .inr (.inl va))), (aOs, .inl (g.2.1 2, 286, .inr (.inl su))), (aOm, .inl (g.2.1 0, 10, .inl (nIf (mkR (rowB p))))), (aL, .inr (5, [.ref aLb, .ref aLp])), (aLp, .inl (g.2.1 0, 495, .inl (nIf packB)))]) := by
  refine Ct.ofX (lv := [some (.ref aO), some (.int 3), some (.int (nI p)), none, none, none, none, none, none, none]) (by decide) rfl (Nat.le_of_ble_eq_true rfl) (fun κ => ?_)
  generalize hQ : xQ κ g 0 0 _ = Q
  refine x_iload_n dX3_ofRank_0 rfl ?_
  refine x_if_lt dX3_ofRank_1 (fun c1 => ?_) (fun c1 => ?_)
  · have c1 : (nI p) < 0 := c1
    have c1n := (nI_ltI (a := p) (b := 0) (by omega) (by omega)).mp c1
    exact absurd c1n (by omega)
  · have c1 : ¬ ((nI p) < 0) := c1
    have c1n := mt (nI_ltI (a := p) (b := 0) (by omega) (by omega)).mpr c1
    refine x_iload_n dX3_ofRank_4 rfl ?_
    refine x_sipush 495 dX3_ofRank_5 (by decide) ?_
    refine x_icmp_lt dX3_ofRank_8 (fun c8 => ?_) (fun c8 => ?_)
    · have c8 : (nI p) < 495 := c8
      have c8n := (nI_ltI (a := p) (b := 495) (by omega) (by omega)).mp c8
      refine x_aload_n dX3_ofRank_13 rfl ?_
      refine x_get dX3_ofRank_14 0 0 inX3 fl_X3_9 rfl rfl (by decide) rfl ?_
      refine x_iload_n dX3_ofRank_17 rfl ?_
      refine x_lald dX3_ofRank_18 1 p rfl (rfl) (by omega) (by decide) ?_
      refine x_lstore_n (lv' := [some (.ref aO), some (.int 3), some (.int (nI p)), some (.long (va p)), none, none, none, none, none, none]) dX3_ofRank_19 (xlt rfl) rfl ?_
      refine x_iload_n dX3_ofRank_20 rfl ?_
      refine x_iconst 4 dX3_ofRank_21 (by decide) ?_
      refine x_icmp_ne dX3_ofRank_22 (fun c22 => ?_) (fun c22 => ?_)
      rotate_left
      · exact absurd c22 (by decide)
      refine x_aload_n dX3_ofRank_27 rfl ?_
      refine x_aload_n dX3_ofRank_28 rfl ?_
      refine x_get dX3_ofRank_29 0 3 inX3 fl_X3_22 rfl rfl (by decide) rfl ?_
      refine x_get dX3_ofRank_32 4 1 inX5 fl_X3_32 rfl rfl (by decide) rfl ?_
      refine x_iload_n dX3_ofRank_35 rfl ?_
      refine x_iald dX3_ofRank_36 5 p rfl (rfl) (by omega) (by decide) ?_
      refine x_cVv (ws' := [(aO, .inr (3, [.ref aOv, .ref aOs, .ref aOm, .ref aL])), (aOv, .inl (g.2.1 2, 495, .inr (.inl va))), (aOs, .inl (g.2.1 2, 286, .inr (.inl su))), (aOm, .inl (g.2.1 0, 10, .inl (nIf (mkR (rowB p))))), (aL, .inr (5, [.ref aLb, .ref aLp])), (aLp, .inl (g.2.1 0, 495, .inl (nIf packB)))]) dX3_ofRank_37 ml_X3_37 mX3_mark (ct_X3_mark κ.2.1 g aO aOv aOs aOm aL mk p (hp)) [0, 3] rfl rfl 0 rfl rfl rfl (Nat.le_of_ble_eq_true rfl) (by decide) (Nat.le_refl _) (Nat.le_refl _) (rfl : [aO, aOm] = [aO, aOm]) rfl ?_
      refine x_aload_n dX3_ofRank_40 rfl ?_
      refine x_get dX3_ofRank_41 0 1 inX3 fl_X3_15 rfl rfl (by decide) rfl ?_
      refine x_aload_n dX3_ofRank_44 rfl ?_
      refine x_get dX3_ofRank_45 0 2 inX3 fl_X3_18 rfl rfl (by decide) rfl ?_
      refine x_iconst 0 dX3_ofRank_48 (by decide) ?_
      refine x_iald dX3_ofRank_49 3 0 rfl (rfl) (by decide) (by decide) ?_
      refine x_lald dX3_ofRank_50 2 ((mkR (rowB p)) 0) rfl (rfl) (mkR_lt hp (by decide)) (by decide) ?_
      refine x_aload_n dX3_ofRank_51 rfl ?_
      refine x_get dX3_ofRank_52 0 1 inX3 fl_X3_15 rfl rfl (by decide) rfl ?_
      refine x_aload_n dX3_ofRank_55 rfl ?_
      refine x_get dX3_ofRank_56 0 2 inX3 fl_X3_18 rfl rfl (by decide) rfl ?_
      refine x_iconst 1 dX3_ofRank_59 (by decide) ?_
      refine x_iald dX3_ofRank_60 3 1 rfl (rfl) (by decide) (by decide) ?_
      refine x_lald dX3_ofRank_61 2 ((mkR (rowB p)) 1) rfl (rfl) (mkR_lt hp (by decide)) (by decide) ?_
      refine x_ladd dX3_ofRank_62 ?_
      refine x_aload_n dX3_ofRank_63 rfl ?_
      refine x_get dX3_ofRank_64 0 1 inX3 fl_X3_15 rfl rfl (by decide) rfl ?_
      refine x_aload_n dX3_ofRank_67 rfl ?_
      refine x_get dX3_ofRank_68 0 2 inX3 fl_X3_18 rfl rfl (by decide) rfl ?_
      refine x_iconst 2 dX3_ofRank_71 (by decide) ?_
      refine x_iald dX3_ofRank_72 3 2 rfl (rfl) (by decide) (by decide) ?_
      refine x_lald dX3_ofRank_73 2 ((mkR (rowB p)) 2) rfl (rfl) (mkR_lt hp (by decide)) (by decide) ?_
      refine x_ladd dX3_ofRank_74 ?_
      refine x_aload_n dX3_ofRank_75 rfl ?_
      refine x_get dX3_ofRank_76 0 1 inX3 fl_X3_15 rfl rfl (by decide) rfl ?_
      refine x_aload_n dX3_ofRank_79 rfl ?_
      refine x_get dX3_ofRank_80 0 2 inX3 fl_X3_18 rfl rfl (by decide) rfl ?_
      refine x_iconst 3 dX3_ofRank_83 (by decide) ?_
      refine x_iald dX3_ofRank_84 3 3 rfl (rfl) (by decide) (by decide) ?_
      refine x_lald dX3_ofRank_85 2 ((mkR (rowB p)) 3) rfl (rfl) (mkR_lt hp (by decide)) (by decide) ?_
      refine x_ladd dX3_ofRank_86 ?_
      refine x_ldc2 dX3_ofRank_87 kl_X3_41 ?_
      refine x_lload_n dX3_ofRank_90 rfl ?_
      refine x_lmul dX3_ofRank_91 ?_
      refine x_lsub dX3_ofRank_92 ?_
      refine x_lstore (lv' := [some (.ref aO), some (.int 3), some (.int (nI p)), some (.long (va p)), none, some (.long (((((su ((mkR (rowB p)) 0)) + (su ((mkR (rowB p)) 1))) + (su ((mkR (rowB p)) 2))) + (su ((mkR (rowB p)) 3))) - (4 * (va p)))), none, none, none, none]) dX3_ofRank_93 (xlt rfl) rfl ?_
      refine x_iload_n dX3_ofRank_95 rfl ?_
      refine x_iconst 3 dX3_ofRank_96 (by decide) ?_
      refine x_icmp_ne dX3_ofRank_97 (fun c97 => ?_) (fun c97 => ?_)
      · exact absurd c97 (by decide)
      refine x_lload dX3_ofRank_100 rfl ?_
      rw [← hQ]
      refine x_lret dX3_ofRank_102 rfl (Nat.le_of_ble_eq_true rfl) (Nat.le_of_ble_eq_true rfl) ?_
      exact ⟨rfl, rfl⟩
    · have c8 : ¬ ((nI p) < 495) := c8
      have c8n := mt (nI_ltI (a := p) (b := 495) (by omega) (by omega)).mpr c8
      exact absurd c8n (by omega)

-- == ofRank_2 ==
set_option maxRecDepth 100000 in
set_option maxHeartbeats 4000000 in
theorem ct_ofRank_2 (l : Launch) (g : XG) (aO aOv aOs aOm aL : Nat) (aLb aLp : Nat) (va su : Nat → Int64) (mk : Nat → Nat) (p : Nat) (hp : p < 495) : Ct l g 2 0 0 yX3_ofRank cX3_ofRank 10 (some .long) [.ref aO, .int 2, .int (nI p)] [(aO, .inr (3, [.ref aOv, .ref aOs, .ref aOm, .ref aL])), (aOv, .inl (g.2.1 2, 495, .inr (.inl va))), (aOs, .inl (g.2.1 2, 286, .inr (.inl su))), (aOm, .inl (g.2.1 0, 10, .inl (nIf mk))), (aL, .inr (5, [.ref aLb, .ref aLp])), (aLp, .inl (g.2.1 0, 495, .inl (nIf packB)))] (xpl (ovTwo su va p) [(aO, .inr (3, [.ref aOv, .ref aOs, .ref aOm, .ref aL])), (aOv, .inl (g.2.1 2, 495, .inr (.inl va))), (aOs, .inl (g.2.1 2, 286, .inr (.inl su))), (aOm, .inl (g.2.1 0, 10, .inl (nIf (mkR (rowB p))))), (aL, .inr (5, [.ref aLb, .ref aLp])), (aLp, .inl (g.2.1 0, 495, .inl (nIf packB)))]) := by
  refine Ct.ofX (lv := [some (.ref aO), some (.int 2), some (.int (nI p)), none, none, none, none, none, none, none]) (by decide) rfl (Nat.le_of_ble_eq_true rfl) (fun κ => ?_)
  generalize hQ : xQ κ g 0 0 _ = Q
  refine x_iload_n dX3_ofRank_0 rfl ?_
  refine x_if_lt dX3_ofRank_1 (fun c1 => ?_) (fun c1 => ?_)
  · have c1 : (nI p) < 0 := c1
    have c1n := (nI_ltI (a := p) (b := 0) (by omega) (by omega)).mp c1
    exact absurd c1n (by omega)
  · have c1 : ¬ ((nI p) < 0) := c1
    have c1n := mt (nI_ltI (a := p) (b := 0) (by omega) (by omega)).mpr c1
    refine x_iload_n dX3_ofRank_4 rfl ?_
    refine x_sipush 495 dX3_ofRank_5 (by decide) ?_
    refine x_icmp_lt dX3_ofRank_8 (fun c8 => ?_) (fun c8 => ?_)
    · have c8 : (nI p) < 495 := c8
      have c8n := (nI_ltI (a := p) (b := 495) (by omega) (by omega)).mp c8
      refine x_aload_n dX3_ofRank_13 rfl ?_
      refine x_get dX3_ofRank_14 0 0 inX3 fl_X3_9 rfl rfl (by decide) rfl ?_
      refine x_iload_n dX3_ofRank_17 rfl ?_
      refine x_lald dX3_ofRank_18 1 p rfl (rfl) (by omega) (by decide) ?_
      refine x_lstore_n (lv' := [some (.ref aO), some (.int 2), some (.int (nI p)), some (.long (va p)), none, none, none, none, none, none]) dX3_ofRank_19 (xlt rfl) rfl ?_
      refine x_iload_n dX3_ofRank_20 rfl ?_
      refine x_iconst 4 dX3_ofRank_21 (by decide) ?_
      refine x_icmp_ne dX3_ofRank_22 (fun c22 => ?_) (fun c22 => ?_)
      rotate_left
      · exact absurd c22 (by decide)
      refine x_aload_n dX3_ofRank_27 rfl ?_
      refine x_aload_n dX3_ofRank_28 rfl ?_
      refine x_get dX3_ofRank_29 0 3 inX3 fl_X3_22 rfl rfl (by decide) rfl ?_
      refine x_get dX3_ofRank_32 4 1 inX5 fl_X3_32 rfl rfl (by decide) rfl ?_
      refine x_iload_n dX3_ofRank_35 rfl ?_
      refine x_iald dX3_ofRank_36 5 p rfl (rfl) (by omega) (by decide) ?_
      refine x_cVv (ws' := [(aO, .inr (3, [.ref aOv, .ref aOs, .ref aOm, .ref aL])), (aOv, .inl (g.2.1 2, 495, .inr (.inl va))), (aOs, .inl (g.2.1 2, 286, .inr (.inl su))), (aOm, .inl (g.2.1 0, 10, .inl (nIf (mkR (rowB p))))), (aL, .inr (5, [.ref aLb, .ref aLp])), (aLp, .inl (g.2.1 0, 495, .inl (nIf packB)))]) dX3_ofRank_37 ml_X3_37 mX3_mark (ct_X3_mark κ.2.1 g aO aOv aOs aOm aL mk p (hp)) [0, 3] rfl rfl 0 rfl rfl rfl (Nat.le_of_ble_eq_true rfl) (by decide) (Nat.le_refl _) (Nat.le_refl _) (rfl : [aO, aOm] = [aO, aOm]) rfl ?_
      refine x_aload_n dX3_ofRank_40 rfl ?_
      refine x_get dX3_ofRank_41 0 1 inX3 fl_X3_15 rfl rfl (by decide) rfl ?_
      refine x_aload_n dX3_ofRank_44 rfl ?_
      refine x_get dX3_ofRank_45 0 2 inX3 fl_X3_18 rfl rfl (by decide) rfl ?_
      refine x_iconst 0 dX3_ofRank_48 (by decide) ?_
      refine x_iald dX3_ofRank_49 3 0 rfl (rfl) (by decide) (by decide) ?_
      refine x_lald dX3_ofRank_50 2 ((mkR (rowB p)) 0) rfl (rfl) (mkR_lt hp (by decide)) (by decide) ?_
      refine x_aload_n dX3_ofRank_51 rfl ?_
      refine x_get dX3_ofRank_52 0 1 inX3 fl_X3_15 rfl rfl (by decide) rfl ?_
      refine x_aload_n dX3_ofRank_55 rfl ?_
      refine x_get dX3_ofRank_56 0 2 inX3 fl_X3_18 rfl rfl (by decide) rfl ?_
      refine x_iconst 1 dX3_ofRank_59 (by decide) ?_
      refine x_iald dX3_ofRank_60 3 1 rfl (rfl) (by decide) (by decide) ?_
      refine x_lald dX3_ofRank_61 2 ((mkR (rowB p)) 1) rfl (rfl) (mkR_lt hp (by decide)) (by decide) ?_
      refine x_ladd dX3_ofRank_62 ?_
      refine x_aload_n dX3_ofRank_63 rfl ?_
      refine x_get dX3_ofRank_64 0 1 inX3 fl_X3_15 rfl rfl (by decide) rfl ?_
      refine x_aload_n dX3_ofRank_67 rfl ?_
      refine x_get dX3_ofRank_68 0 2 inX3 fl_X3_18 rfl rfl (by decide) rfl ?_
      refine x_iconst 2 dX3_ofRank_71 (by decide) ?_
      refine x_iald dX3_ofRank_72 3 2 rfl (rfl) (by decide) (by decide) ?_
      refine x_lald dX3_ofRank_73 2 ((mkR (rowB p)) 2) rfl (rfl) (mkR_lt hp (by decide)) (by decide) ?_
      refine x_ladd dX3_ofRank_74 ?_
      refine x_aload_n dX3_ofRank_75 rfl ?_
      refine x_get dX3_ofRank_76 0 1 inX3 fl_X3_15 rfl rfl (by decide) rfl ?_
      refine x_aload_n dX3_ofRank_79 rfl ?_
      refine x_get dX3_ofRank_80 0 2 inX3 fl_X3_18 rfl rfl (by decide) rfl ?_
      refine x_iconst 3 dX3_ofRank_83 (by decide) ?_
      refine x_iald dX3_ofRank_84 3 3 rfl (rfl) (by decide) (by decide) ?_
      refine x_lald dX3_ofRank_85 2 ((mkR (rowB p)) 3) rfl (rfl) (mkR_lt hp (by decide)) (by decide) ?_
      refine x_ladd dX3_ofRank_86 ?_
      refine x_ldc2 dX3_ofRank_87 kl_X3_41 ?_
      refine x_lload_n dX3_ofRank_90 rfl ?_
      refine x_lmul dX3_ofRank_91 ?_
      refine x_lsub dX3_ofRank_92 ?_
      refine x_lstore (lv' := [some (.ref aO), some (.int 2), some (.int (nI p)), some (.long (va p)), none, some (.long (((((su ((mkR (rowB p)) 0)) + (su ((mkR (rowB p)) 1))) + (su ((mkR (rowB p)) 2))) + (su ((mkR (rowB p)) 3))) - (4 * (va p)))), none, none, none, none]) dX3_ofRank_93 (xlt rfl) rfl ?_
      refine x_iload_n dX3_ofRank_95 rfl ?_
      refine x_iconst 3 dX3_ofRank_96 (by decide) ?_
      refine x_icmp_ne dX3_ofRank_97 (fun c97 => ?_) (fun c97 => ?_)
      rotate_left
      · exact absurd c97 (by decide)
      refine x_lconst 0 dX3_ofRank_103 (by decide) ?_
      refine x_lstore (lv' := [some (.ref aO), some (.int 2), some (.int (nI p)), some (.long (va p)), none, some (.long (((((su ((mkR (rowB p)) 0)) + (su ((mkR (rowB p)) 1))) + (su ((mkR (rowB p)) 2))) + (su ((mkR (rowB p)) 3))) - (4 * (va p)))), none, some (.long 0), none, none]) dX3_ofRank_104 (xlt rfl) rfl ?_
      refine x_iconst 4 dX3_ofRank_106 (by decide) ?_
      refine x_istore (lv' := [some (.ref aO), some (.int 2), some (.int (nI p)), some (.long (va p)), none, some (.long (((((su ((mkR (rowB p)) 0)) + (su ((mkR (rowB p)) 1))) + (su ((mkR (rowB p)) 2))) + (su ((mkR (rowB p)) 3))) - (4 * (va p)))), none, some (.long 0), none, some (.int 4)]) dX3_ofRank_107 (xlt rfl) rfl ?_
      refine x_iload dX3_ofRank_109 rfl ?_
      refine x_bipush 10 dX3_ofRank_111 (by decide) ?_
      refine x_icmp_ge dX3_ofRank_113 (fun c113 => ?_) (fun c113 => ?_)
      · exact absurd c113 (by decide)
      refine x_lload dX3_ofRank_116 rfl ?_
      refine x_aload_n dX3_ofRank_118 rfl ?_
      refine x_get dX3_ofRank_119 0 1 inX3 fl_X3_15 rfl rfl (by decide) rfl ?_
      refine x_aload_n dX3_ofRank_122 rfl ?_
      refine x_get dX3_ofRank_123 0 2 inX3 fl_X3_18 rfl rfl (by decide) rfl ?_
      refine x_iload dX3_ofRank_126 rfl ?_
      refine x_iald dX3_ofRank_128 3 4 rfl (rfl) (by decide) (by decide) ?_
      refine x_lald dX3_ofRank_129 2 ((mkR (rowB p)) 4) rfl (rfl) (mkR_lt hp (by decide)) (by decide) ?_
      refine x_ladd dX3_ofRank_130 ?_
      refine x_lstore (lv' := [some (.ref aO), some (.int 2), some (.int (nI p)), some (.long (va p)), none, some (.long (((((su ((mkR (rowB p)) 0)) + (su ((mkR (rowB p)) 1))) + (su ((mkR (rowB p)) 2))) + (su ((mkR (rowB p)) 3))) - (4 * (va p)))), none, some (.long (0 + (su ((mkR (rowB p)) 4)))), none, some (.int 4)]) dX3_ofRank_131 (xlt rfl) rfl ?_
      refine x_iinc (lv' := [some (.ref aO), some (.int 2), some (.int (nI p)), some (.long (va p)), none, some (.long (((((su ((mkR (rowB p)) 0)) + (su ((mkR (rowB p)) 1))) + (su ((mkR (rowB p)) 2))) + (su ((mkR (rowB p)) 3))) - (4 * (va p)))), none, some (.long (0 + (su ((mkR (rowB p)) 4)))), none, some (.int 5)]) (5) dX3_ofRank_133 rfl (by decide) rfl ?_
      refine x_goto dX3_ofRank_136 ?_
      refine x_iload dX3_ofRank_109 rfl ?_
      refine x_bipush 10 dX3_ofRank_111 (by decide) ?_
      refine x_icmp_ge dX3_ofRank_113 (fun c113 => ?_) (fun c113 => ?_)
      · exact absurd c113 (by decide)
      refine x_lload dX3_ofRank_116 rfl ?_
      refine x_aload_n dX3_ofRank_118 rfl ?_
      refine x_get dX3_ofRank_119 0 1 inX3 fl_X3_15 rfl rfl (by decide) rfl ?_
      refine x_aload_n dX3_ofRank_122 rfl ?_
      refine x_get dX3_ofRank_123 0 2 inX3 fl_X3_18 rfl rfl (by decide) rfl ?_
      refine x_iload dX3_ofRank_126 rfl ?_
      refine x_iald dX3_ofRank_128 3 5 rfl (rfl) (by decide) (by decide) ?_
      refine x_lald dX3_ofRank_129 2 ((mkR (rowB p)) 5) rfl (rfl) (mkR_lt hp (by decide)) (by decide) ?_
      refine x_ladd dX3_ofRank_130 ?_
      refine x_lstore (lv' := [some (.ref aO), some (.int 2), some (.int (nI p)), some (.long (va p)), none, some (.long (((((su ((mkR (rowB p)) 0)) + (su ((mkR (rowB p)) 1))) + (su ((mkR (rowB p)) 2))) + (su ((mkR (rowB p)) 3))) - (4 * (va p)))), none, some (.long ((0 + (su ((mkR (rowB p)) 4))) + (su ((mkR (rowB p)) 5)))), none, some (.int 5)]) dX3_ofRank_131 (xlt rfl) rfl ?_
      refine x_iinc (lv' := [some (.ref aO), some (.int 2), some (.int (nI p)), some (.long (va p)), none, some (.long (((((su ((mkR (rowB p)) 0)) + (su ((mkR (rowB p)) 1))) + (su ((mkR (rowB p)) 2))) + (su ((mkR (rowB p)) 3))) - (4 * (va p)))), none, some (.long ((0 + (su ((mkR (rowB p)) 4))) + (su ((mkR (rowB p)) 5)))), none, some (.int 6)]) (6) dX3_ofRank_133 rfl (by decide) rfl ?_
      refine x_goto dX3_ofRank_136 ?_
      refine x_iload dX3_ofRank_109 rfl ?_
      refine x_bipush 10 dX3_ofRank_111 (by decide) ?_
      refine x_icmp_ge dX3_ofRank_113 (fun c113 => ?_) (fun c113 => ?_)
      · exact absurd c113 (by decide)
      refine x_lload dX3_ofRank_116 rfl ?_
      refine x_aload_n dX3_ofRank_118 rfl ?_
      refine x_get dX3_ofRank_119 0 1 inX3 fl_X3_15 rfl rfl (by decide) rfl ?_
      refine x_aload_n dX3_ofRank_122 rfl ?_
      refine x_get dX3_ofRank_123 0 2 inX3 fl_X3_18 rfl rfl (by decide) rfl ?_
      refine x_iload dX3_ofRank_126 rfl ?_
      refine x_iald dX3_ofRank_128 3 6 rfl (rfl) (by decide) (by decide) ?_
      refine x_lald dX3_ofRank_129 2 ((mkR (rowB p)) 6) rfl (rfl) (mkR_lt hp (by decide)) (by decide) ?_
      refine x_ladd dX3_ofRank_130 ?_
      refine x_lstore (lv' := [some (.ref aO), some (.int 2), some (.int (nI p)), some (.long (va p)), none, some (.long (((((su ((mkR (rowB p)) 0)) + (su ((mkR (rowB p)) 1))) + (su ((mkR (rowB p)) 2))) + (su ((mkR (rowB p)) 3))) - (4 * (va p)))), none, some (.long (((0 + (su ((mkR (rowB p)) 4))) + (su ((mkR (rowB p)) 5))) + (su ((mkR (rowB p)) 6)))), none, some (.int 6)]) dX3_ofRank_131 (xlt rfl) rfl ?_
      refine x_iinc (lv' := [some (.ref aO), some (.int 2), some (.int (nI p)), some (.long (va p)), none, some (.long (((((su ((mkR (rowB p)) 0)) + (su ((mkR (rowB p)) 1))) + (su ((mkR (rowB p)) 2))) + (su ((mkR (rowB p)) 3))) - (4 * (va p)))), none, some (.long (((0 + (su ((mkR (rowB p)) 4))) + (su ((mkR (rowB p)) 5))) + (su ((mkR (rowB p)) 6)))), none, some (.int 7)]) (7) dX3_ofRank_133 rfl (by decide) rfl ?_
      refine x_goto dX3_ofRank_136 ?_
      refine x_iload dX3_ofRank_109 rfl ?_
      refine x_bipush 10 dX3_ofRank_111 (by decide) ?_
      refine x_icmp_ge dX3_ofRank_113 (fun c113 => ?_) (fun c113 => ?_)
      · exact absurd c113 (by decide)
      refine x_lload dX3_ofRank_116 rfl ?_
      refine x_aload_n dX3_ofRank_118 rfl ?_
      refine x_get dX3_ofRank_119 0 1 inX3 fl_X3_15 rfl rfl (by decide) rfl ?_
      refine x_aload_n dX3_ofRank_122 rfl ?_
      refine x_get dX3_ofRank_123 0 2 inX3 fl_X3_18 rfl rfl (by decide) rfl ?_
      refine x_iload dX3_ofRank_126 rfl ?_
      refine x_iald dX3_ofRank_128 3 7 rfl (rfl) (by decide) (by decide) ?_
      refine x_lald dX3_ofRank_129 2 ((mkR (rowB p)) 7) rfl (rfl) (mkR_lt hp (by decide)) (by decide) ?_
      refine x_ladd dX3_ofRank_130 ?_
      refine x_lstore (lv' := [some (.ref aO), some (.int 2), some (.int (nI p)), some (.long (va p)), none, some (.long (((((su ((mkR (rowB p)) 0)) + (su ((mkR (rowB p)) 1))) + (su ((mkR (rowB p)) 2))) + (su ((mkR (rowB p)) 3))) - (4 * (va p)))), none, some (.long ((((0 + (su ((mkR (rowB p)) 4))) + (su ((mkR (rowB p)) 5))) + (su ((mkR (rowB p)) 6))) + (su ((mkR (rowB p)) 7)))), none, some (.int 7)]) dX3_ofRank_131 (xlt rfl) rfl ?_
      refine x_iinc (lv' := [some (.ref aO), some (.int 2), some (.int (nI p)), some (.long (va p)), none, some (.long (((((su ((mkR (rowB p)) 0)) + (su ((mkR (rowB p)) 1))) + (su ((mkR (rowB p)) 2))) + (su ((mkR (rowB p)) 3))) - (4 * (va p)))), none, some (.long ((((0 + (su ((mkR (rowB p)) 4))) + (su ((mkR (rowB p)) 5))) + (su ((mkR (rowB p)) 6))) + (su ((mkR (rowB p)) 7)))), none, some (.int 8)]) (8) dX3_ofRank_133 rfl (by decide) rfl ?_
      refine x_goto dX3_ofRank_136 ?_
      refine x_iload dX3_ofRank_109 rfl ?_
      refine x_bipush 10 dX3_ofRank_111 (by decide) ?_
      refine x_icmp_ge dX3_ofRank_113 (fun c113 => ?_) (fun c113 => ?_)
      · exact absurd c113 (by decide)
      refine x_lload dX3_ofRank_116 rfl ?_
      refine x_aload_n dX3_ofRank_118 rfl ?_
      refine x_get dX3_ofRank_119 0 1 inX3 fl_X3_15 rfl rfl (by decide) rfl ?_
      refine x_aload_n dX3_ofRank_122 rfl ?_
      refine x_get dX3_ofRank_123 0 2 inX3 fl_X3_18 rfl rfl (by decide) rfl ?_
      refine x_iload dX3_ofRank_126 rfl ?_
      refine x_iald dX3_ofRank_128 3 8 rfl (rfl) (by decide) (by decide) ?_
      refine x_lald dX3_ofRank_129 2 ((mkR (rowB p)) 8) rfl (rfl) (mkR_lt hp (by decide)) (by decide) ?_
      refine x_ladd dX3_ofRank_130 ?_
      refine x_lstore (lv' := [some (.ref aO), some (.int 2), some (.int (nI p)), some (.long (va p)), none, some (.long (((((su ((mkR (rowB p)) 0)) + (su ((mkR (rowB p)) 1))) + (su ((mkR (rowB p)) 2))) + (su ((mkR (rowB p)) 3))) - (4 * (va p)))), none, some (.long (((((0 + (su ((mkR (rowB p)) 4))) + (su ((mkR (rowB p)) 5))) + (su ((mkR (rowB p)) 6))) + (su ((mkR (rowB p)) 7))) + (su ((mkR (rowB p)) 8)))), none, some (.int 8)]) dX3_ofRank_131 (xlt rfl) rfl ?_
      refine x_iinc (lv' := [some (.ref aO), some (.int 2), some (.int (nI p)), some (.long (va p)), none, some (.long (((((su ((mkR (rowB p)) 0)) + (su ((mkR (rowB p)) 1))) + (su ((mkR (rowB p)) 2))) + (su ((mkR (rowB p)) 3))) - (4 * (va p)))), none, some (.long (((((0 + (su ((mkR (rowB p)) 4))) + (su ((mkR (rowB p)) 5))) + (su ((mkR (rowB p)) 6))) + (su ((mkR (rowB p)) 7))) + (su ((mkR (rowB p)) 8)))), none, some (.int 9)]) (9) dX3_ofRank_133 rfl (by decide) rfl ?_
      refine x_goto dX3_ofRank_136 ?_
      refine x_iload dX3_ofRank_109 rfl ?_
      refine x_bipush 10 dX3_ofRank_111 (by decide) ?_
      refine x_icmp_ge dX3_ofRank_113 (fun c113 => ?_) (fun c113 => ?_)
      · exact absurd c113 (by decide)
      refine x_lload dX3_ofRank_116 rfl ?_
      refine x_aload_n dX3_ofRank_118 rfl ?_
      refine x_get dX3_ofRank_119 0 1 inX3 fl_X3_15 rfl rfl (by decide) rfl ?_
      refine x_aload_n dX3_ofRank_122 rfl ?_
      refine x_get dX3_ofRank_123 0 2 inX3 fl_X3_18 rfl rfl (by decide) rfl ?_
      refine x_iload dX3_ofRank_126 rfl ?_
      refine x_iald dX3_ofRank_128 3 9 rfl (rfl) (by decide) (by decide) ?_
      refine x_lald dX3_ofRank_129 2 ((mkR (rowB p)) 9) rfl (rfl) (mkR_lt hp (by decide)) (by decide) ?_
      refine x_ladd dX3_ofRank_130 ?_
      refine x_lstore (lv' := [some (.ref aO), some (.int 2), some (.int (nI p)), some (.long (va p)), none, some (.long (((((su ((mkR (rowB p)) 0)) + (su ((mkR (rowB p)) 1))) + (su ((mkR (rowB p)) 2))) + (su ((mkR (rowB p)) 3))) - (4 * (va p)))), none, some (.long ((((((0 + (su ((mkR (rowB p)) 4))) + (su ((mkR (rowB p)) 5))) + (su ((mkR (rowB p)) 6))) + (su ((mkR (rowB p)) 7))) + (su ((mkR (rowB p)) 8))) + (su ((mkR (rowB p)) 9)))), none, some (.int 9)]) dX3_ofRank_131 (xlt rfl) rfl ?_
      refine x_iinc (lv' := [some (.ref aO), some (.int 2), some (.int (nI p)), some (.long (va p)), none, some (.long (((((su ((mkR (rowB p)) 0)) + (su ((mkR (rowB p)) 1))) + (su ((mkR (rowB p)) 2))) + (su ((mkR (rowB p)) 3))) - (4 * (va p)))), none, some (.long ((((((0 + (su ((mkR (rowB p)) 4))) + (su ((mkR (rowB p)) 5))) + (su ((mkR (rowB p)) 6))) + (su ((mkR (rowB p)) 7))) + (su ((mkR (rowB p)) 8))) + (su ((mkR (rowB p)) 9)))), none, some (.int 10)]) (10) dX3_ofRank_133 rfl (by decide) rfl ?_
      refine x_goto dX3_ofRank_136 ?_
      refine x_iload dX3_ofRank_109 rfl ?_
      refine x_bipush 10 dX3_ofRank_111 (by decide) ?_
      refine x_icmp_ge dX3_ofRank_113 (fun c113 => ?_) (fun c113 => ?_)
      rotate_left
      · exact absurd c113 (by decide)
      refine x_lload dX3_ofRank_139 rfl ?_
      refine x_ldc2 dX3_ofRank_141 kl_X3_43 ?_
      refine x_lload dX3_ofRank_144 rfl ?_
      refine x_lmul dX3_ofRank_146 ?_
      refine x_lsub dX3_ofRank_147 ?_
      refine x_ldc2 dX3_ofRank_148 kl_X3_45 ?_
      refine x_lload_n dX3_ofRank_151 rfl ?_
      refine x_lmul dX3_ofRank_152 ?_
      refine x_lsub dX3_ofRank_153 ?_
      rw [← hQ]
      refine x_lret dX3_ofRank_154 rfl (Nat.le_of_ble_eq_true rfl) (Nat.le_of_ble_eq_true rfl) ?_
      exact ⟨rfl, rfl⟩
    · have c8 : ¬ ((nI p) < 495) := c8
      have c8n := mt (nI_ltI (a := p) (b := 495) (by omega) (by omega)).mpr c8
      exact absurd c8n (by omega)

