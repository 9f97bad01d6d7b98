
-- == X9_looksAt ==
theorem dX9_looksAt_0 : xd cX9_looksAt 0 (.iconst 0) 1 1 := ⟨by decide +kernel, rfl⟩
theorem dX9_looksAt_1 : xd cX9_looksAt 1 (.istore_n 3) 1 2 := ⟨by decide +kernel, rfl⟩
theorem dX9_looksAt_2 : xd cX9_looksAt 2 (.iconst 5) 1 3 := ⟨by decide +kernel, rfl⟩
theorem dX9_looksAt_3 : xd cX9_looksAt 3 (.iload_n 1) 1 4 := ⟨by decide +kernel, rfl⟩
theorem dX9_looksAt_4 : xd cX9_looksAt 4 .imul 1 5 := ⟨by decide +kernel, rfl⟩
theorem dX9_looksAt_5 : xd cX9_looksAt 5 (.istore 4) 2 7 := ⟨by decide +kernel, rfl⟩
theorem dX9_looksAt_7 : xd cX9_looksAt 7 (.aload_n 0) 1 8 := ⟨by decide +kernel, rfl⟩
theorem dX9_looksAt_8 : xd cX9_looksAt 8 (.getfield 28) 3 11 := ⟨by decide +kernel, rfl⟩
theorem dX9_looksAt_11 : xd cX9_looksAt 11 (.iload 4) 2 13 := ⟨by decide +kernel, rfl⟩
theorem dX9_looksAt_13 : xd cX9_looksAt 13 (.iconst 1) 1 14 := ⟨by decide +kernel, rfl⟩
theorem dX9_looksAt_14 : xd cX9_looksAt 14 .iadd 1 15 := ⟨by decide +kernel, rfl⟩
theorem dX9_looksAt_15 : xd cX9_looksAt 15 (.iconst (-1)) 1 16 := ⟨by decide +kernel, rfl⟩
theorem dX9_looksAt_16 : xd cX9_looksAt 16 .iastore 1 17 := ⟨by decide +kernel, rfl⟩
theorem dX9_looksAt_17 : xd cX9_looksAt 17 (.iconst 0) 1 18 := ⟨by decide +kernel, rfl⟩
theorem dX9_looksAt_18 : xd cX9_looksAt 18 (.istore 5) 2 20 := ⟨by decide +kernel, rfl⟩
theorem dX9_looksAt_20 : xd cX9_looksAt 20 (.iload 5) 2 22 := ⟨by decide +kernel, rfl⟩
theorem dX9_looksAt_22 : xd cX9_looksAt 22 (.bipush 12) 2 24 := ⟨by decide +kernel, rfl⟩
theorem dX9_looksAt_24 : xj cX9_looksAt 24 (.if_icmp .ge) 27 207 := ⟨183, by decide +kernel, rfl, by decide⟩
theorem dX9_looksAt_27 : xd cX9_looksAt 27 (.iload_n 2) 1 28 := ⟨by decide +kernel, rfl⟩
theorem dX9_looksAt_28 : xd cX9_looksAt 28 (.iload 5) 2 30 := ⟨by decide +kernel, rfl⟩
theorem dX9_looksAt_30 : xd cX9_looksAt 30 (.invokestatic 83) 3 33 := ⟨by decide +kernel, rfl⟩
theorem dX9_looksAt_33 : xd cX9_looksAt 33 (.istore 6) 2 35 := ⟨by decide +kernel, rfl⟩
theorem dX9_looksAt_35 : xd cX9_looksAt 35 (.iload 6) 2 37 := ⟨by decide +kernel, rfl⟩
theorem dX9_looksAt_37 : xj cX9_looksAt 37 (.ifCond .eq) 40 46 := ⟨9, by decide +kernel, rfl, by decide⟩
theorem dX9_looksAt_40 : xd cX9_looksAt 40 (.iload_n 3) 1 41 := ⟨by decide +kernel, rfl⟩
theorem dX9_looksAt_41 : xd cX9_looksAt 41 (.iconst 1) 1 42 := ⟨by decide +kernel, rfl⟩
theorem dX9_looksAt_42 : xd cX9_looksAt 42 .iadd 1 43 := ⟨by decide +kernel, rfl⟩
theorem dX9_looksAt_43 : xj cX9_looksAt 43 .goto 46 47 := ⟨4, by decide +kernel, rfl, by decide⟩
theorem dX9_looksAt_46 : xd cX9_looksAt 46 (.iconst 0) 1 47 := ⟨by decide +kernel, rfl⟩
theorem dX9_looksAt_47 : xd cX9_looksAt 47 (.istore_n 3) 1 48 := ⟨by decide +kernel, rfl⟩
theorem dX9_looksAt_48 : xd cX9_looksAt 48 (.aload_n 0) 1 49 := ⟨by decide +kernel, rfl⟩
theorem dX9_looksAt_49 : xd cX9_looksAt 49 (.getfield 28) 3 52 := ⟨by decide +kernel, rfl⟩
theorem dX9_looksAt_52 : xd cX9_looksAt 52 (.iload 4) 2 54 := ⟨by decide +kernel, rfl⟩
theorem dX9_looksAt_54 : xd cX9_looksAt 54 .dup2 1 55 := ⟨by decide +kernel, rfl⟩
theorem dX9_looksAt_55 : xd cX9_looksAt 55 .iaload 1 56 := ⟨by decide +kernel, rfl⟩
theorem dX9_looksAt_56 : xd cX9_looksAt 56 (.iload 6) 2 58 := ⟨by decide +kernel, rfl⟩
theorem dX9_looksAt_58 : xj cX9_looksAt 58 (.ifCond .eq) 61 66 := ⟨8, by decide +kernel, rfl, by decide⟩
theorem dX9_looksAt_61 : xd cX9_looksAt 61 (.iload 5) 2 63 := ⟨by decide +kernel, rfl⟩
theorem dX9_looksAt_63 : xj cX9_looksAt 63 .goto 66 67 := ⟨4, by decide +kernel, rfl, by decide⟩
theorem dX9_looksAt_66 : xd cX9_looksAt 66 (.iconst 0) 1 67 := ⟨by decide +kernel, rfl⟩
theorem dX9_looksAt_67 : xd cX9_looksAt 67 .iadd 1 68 := ⟨by decide +kernel, rfl⟩
theorem dX9_looksAt_68 : xd cX9_looksAt 68 .iastore 1 69 := ⟨by decide +kernel, rfl⟩
theorem dX9_looksAt_69 : xd cX9_looksAt 69 (.aload_n 0) 1 70 := ⟨by decide +kernel, rfl⟩
theorem dX9_looksAt_70 : xd cX9_looksAt 70 (.getfield 28) 3 73 := ⟨by decide +kernel, rfl⟩
theorem dX9_looksAt_73 : xd cX9_looksAt 73 (.iload 4) 2 75 := ⟨by decide +kernel, rfl⟩
theorem dX9_looksAt_75 : xd cX9_looksAt 75 (.iconst 1) 1 76 := ⟨by decide +kernel, rfl⟩
theorem dX9_looksAt_76 : xd cX9_looksAt 76 .iadd 1 77 := ⟨by decide +kernel, rfl⟩
theorem dX9_looksAt_77 : xd cX9_looksAt 77 (.iload 6) 2 79 := ⟨by decide +kernel, rfl⟩
theorem dX9_looksAt_79 : xj cX9_looksAt 79 (.ifCond .eq) 82 99 := ⟨20, by decide +kernel, rfl, by decide⟩
theorem dX9_looksAt_82 : xd cX9_looksAt 82 (.aload_n 0) 1 83 := ⟨by decide +kernel, rfl⟩
theorem dX9_looksAt_83 : xd cX9_looksAt 83 (.getfield 28) 3 86 := ⟨by decide +kernel, rfl⟩
theorem dX9_looksAt_86 : xd cX9_looksAt 86 (.iload 4) 2 88 := ⟨by decide +kernel, rfl⟩
theorem dX9_looksAt_88 : xd cX9_looksAt 88 (.iconst 1) 1 89 := ⟨by decide +kernel, rfl⟩
theorem dX9_looksAt_89 : xd cX9_looksAt 89 .iadd 1 90 := ⟨by decide +kernel, rfl⟩
theorem dX9_looksAt_90 : xd cX9_looksAt 90 .iaload 1 91 := ⟨by decide +kernel, rfl⟩
theorem dX9_looksAt_91 : xj cX9_looksAt 91 (.ifCond .ge) 94 99 := ⟨8, by decide +kernel, rfl, by decide⟩
theorem dX9_looksAt_94 : xd cX9_looksAt 94 (.iload 5) 2 96 := ⟨by decide +kernel, rfl⟩
theorem dX9_looksAt_96 : xj cX9_looksAt 96 .goto 99 108 := ⟨12, by decide +kernel, rfl, by decide⟩
theorem dX9_looksAt_99 : xd cX9_looksAt 99 (.aload_n 0) 1 100 := ⟨by decide +kernel, rfl⟩
theorem dX9_looksAt_100 : xd cX9_looksAt 100 (.getfield 28) 3 103 := ⟨by decide +kernel, rfl⟩
theorem dX9_looksAt_103 : xd cX9_looksAt 103 (.iload 4) 2 105 := ⟨by decide +kernel, rfl⟩
theorem dX9_looksAt_105 : xd cX9_looksAt 105 (.iconst 1) 1 106 := ⟨by decide +kernel, rfl⟩
theorem dX9_looksAt_106 : xd cX9_looksAt 106 .iadd 1 107 := ⟨by decide +kernel, rfl⟩
theorem dX9_looksAt_107 : xd cX9_looksAt 107 .iaload 1 108 := ⟨by decide +kernel, rfl⟩
theorem dX9_looksAt_108 : xd cX9_looksAt 108 .iastore 1 109 := ⟨by decide +kernel, rfl⟩
theorem dX9_looksAt_109 : xd cX9_looksAt 109 (.aload_n 0) 1 110 := ⟨by decide +kernel, rfl⟩
theorem dX9_looksAt_110 : xd cX9_looksAt 110 (.getfield 28) 3 113 := ⟨by decide +kernel, rfl⟩
theorem dX9_looksAt_113 : xd cX9_looksAt 113 (.iload 4) 2 115 := ⟨by decide +kernel, rfl⟩
theorem dX9_looksAt_115 : xd cX9_looksAt 115 (.iconst 2) 1 116 := ⟨by decide +kernel, rfl⟩
theorem dX9_looksAt_116 : xd cX9_looksAt 116 .iadd 1 117 := ⟨by decide +kernel, rfl⟩
theorem dX9_looksAt_117 : xd cX9_looksAt 117 (.iload 6) 2 119 := ⟨by decide +kernel, rfl⟩
theorem dX9_looksAt_119 : xj cX9_looksAt 119 (.ifCond .eq) 122 127 := ⟨8, by decide +kernel, rfl, by decide⟩
theorem dX9_looksAt_122 : xd cX9_looksAt 122 (.iload 5) 2 124 := ⟨by decide +kernel, rfl⟩
theorem dX9_looksAt_124 : xj cX9_looksAt 124 .goto 127 136 := ⟨12, by decide +kernel, rfl, by decide⟩
theorem dX9_looksAt_127 : xd cX9_looksAt 127 (.aload_n 0) 1 128 := ⟨by decide +kernel, rfl⟩
theorem dX9_looksAt_128 : xd cX9_looksAt 128 (.getfield 28) 3 131 := ⟨by decide +kernel, rfl⟩
theorem dX9_looksAt_131 : xd cX9_looksAt 131 (.iload 4) 2 133 := ⟨by decide +kernel, rfl⟩
theorem dX9_looksAt_133 : xd cX9_looksAt 133 (.iconst 2) 1 134 := ⟨by decide +kernel, rfl⟩
theorem dX9_looksAt_134 : xd cX9_looksAt 134 .iadd 1 135 := ⟨by decide +kernel, rfl⟩
theorem dX9_looksAt_135 : xd cX9_looksAt 135 .iaload 1 136 := ⟨by decide +kernel, rfl⟩
theorem dX9_looksAt_136 : xd cX9_looksAt 136 .iastore 1 137 := ⟨by decide +kernel, rfl⟩
theorem dX9_looksAt_137 : xd cX9_looksAt 137 (.aload_n 0) 1 138 := ⟨by decide +kernel, rfl⟩
theorem dX9_looksAt_138 : xd cX9_looksAt 138 (.getfield 28) 3 141 := ⟨by decide +kernel, rfl⟩
theorem dX9_looksAt_141 : xd cX9_looksAt 141 (.iload 4) 2 143 := ⟨by decide +kernel, rfl⟩
theorem dX9_looksAt_143 : xd cX9_looksAt 143 (.iconst 3) 1 144 := ⟨by decide +kernel, rfl⟩
theorem dX9_looksAt_144 : xd cX9_looksAt 144 .iadd 1 145 := ⟨by decide +kernel, rfl⟩
theorem dX9_looksAt_145 : xd cX9_looksAt 145 .dup2 1 146 := ⟨by decide +kernel, rfl⟩
theorem dX9_looksAt_146 : xd cX9_looksAt 146 .iaload 1 147 := ⟨by decide +kernel, rfl⟩
theorem dX9_looksAt_147 : xd cX9_looksAt 147 (.iload 6) 2 149 := ⟨by decide +kernel, rfl⟩
theorem dX9_looksAt_149 : xj cX9_looksAt 149 (.ifCond .eq) 152 163 := ⟨14, by decide +kernel, rfl, by decide⟩
theorem dX9_looksAt_152 : xd cX9_looksAt 152 (.iload 5) 2 154 := ⟨by decide +kernel, rfl⟩
theorem dX9_looksAt_154 : xd cX9_looksAt 154 (.iconst 2) 1 155 := ⟨by decide +kernel, rfl⟩
theorem dX9_looksAt_155 : xd cX9_looksAt 155 .irem 1 156 := ⟨by decide +kernel, rfl⟩
theorem dX9_looksAt_156 : xj cX9_looksAt 156 (.ifCond .ne) 159 163 := ⟨7, by decide +kernel, rfl, by decide⟩
theorem dX9_looksAt_159 : xd cX9_looksAt 159 (.iconst 1) 1 160 := ⟨by decide +kernel, rfl⟩
theorem dX9_looksAt_160 : xj cX9_looksAt 160 .goto 163 164 := ⟨4, by decide +kernel, rfl, by decide⟩
theorem dX9_looksAt_163 : xd cX9_looksAt 163 (.iconst 0) 1 164 := ⟨by decide +kernel, rfl⟩
theorem dX9_looksAt_164 : xd cX9_looksAt 164 .iadd 1 165 := ⟨by decide +kernel, rfl⟩
theorem dX9_looksAt_165 : xd cX9_looksAt 165 .iastore 1 166 := ⟨by decide +kernel, rfl⟩
theorem dX9_looksAt_166 : xd cX9_looksAt 166 (.aload_n 0) 1 167 := ⟨by decide +kernel, rfl⟩
theorem dX9_looksAt_167 : xd cX9_looksAt 167 (.getfield 28) 3 170 := ⟨by decide +kernel, rfl⟩
theorem dX9_looksAt_170 : xd cX9_looksAt 170 (.iload 4) 2 172 := ⟨by decide +kernel, rfl⟩
theorem dX9_looksAt_172 : xd cX9_looksAt 172 (.iconst 4) 1 173 := ⟨by decide +kernel, rfl⟩
theorem dX9_looksAt_173 : xd cX9_looksAt 173 .iadd 1 174 := ⟨by decide +kernel, rfl⟩
theorem dX9_looksAt_174 : xd cX9_looksAt 174 (.iload_n 3) 1 175 := ⟨by decide +kernel, rfl⟩
theorem dX9_looksAt_175 : xd cX9_looksAt 175 (.aload_n 0) 1 176 := ⟨by decide +kernel, rfl⟩
theorem dX9_looksAt_176 : xd cX9_looksAt 176 (.getfield 28) 3 179 := ⟨by decide +kernel, rfl⟩
theorem dX9_looksAt_179 : xd cX9_looksAt 179 (.iload 4) 2 181 := ⟨by decide +kernel, rfl⟩
theorem dX9_looksAt_181 : xd cX9_looksAt 181 (.iconst 4) 1 182 := ⟨by decide +kernel, rfl⟩
theorem dX9_looksAt_182 : xd cX9_looksAt 182 .iadd 1 183 := ⟨by decide +kernel, rfl⟩
theorem dX9_looksAt_183 : xd cX9_looksAt 183 .iaload 1 184 := ⟨by decide +kernel, rfl⟩
theorem dX9_looksAt_184 : xj cX9_looksAt 184 (.if_icmp .le) 187 191 := ⟨7, by decide +kernel, rfl, by decide⟩
theorem dX9_looksAt_187 : xd cX9_looksAt 187 (.iload_n 3) 1 188 := ⟨by decide +kernel, rfl⟩
theorem dX9_looksAt_188 : xj cX9_looksAt 188 .goto 191 200 := ⟨12, by decide +kernel, rfl, by decide⟩
theorem dX9_looksAt_191 : xd cX9_looksAt 191 (.aload_n 0) 1 192 := ⟨by decide +kernel, rfl⟩
theorem dX9_looksAt_192 : xd cX9_looksAt 192 (.getfield 28) 3 195 := ⟨by decide +kernel, rfl⟩
theorem dX9_looksAt_195 : xd cX9_looksAt 195 (.iload 4) 2 197 := ⟨by decide +kernel, rfl⟩
theorem dX9_looksAt_197 : xd cX9_looksAt 197 (.iconst 4) 1 198 := ⟨by decide +kernel, rfl⟩
theorem dX9_looksAt_198 : xd cX9_looksAt 198 .iadd 1 199 := ⟨by decide +kernel, rfl⟩
theorem dX9_looksAt_199 : xd cX9_looksAt 199 .iaload 1 200 := ⟨by decide +kernel, rfl⟩
theorem dX9_looksAt_200 : xd cX9_looksAt 200 .iastore 1 201 := ⟨by decide +kernel, rfl⟩
theorem dX9_looksAt_201 : xd cX9_looksAt 201 (.iinc 5 1) 3 204 := ⟨by decide +kernel, rfl⟩
theorem dX9_looksAt_204 : xj cX9_looksAt 204 .goto 207 20 := ⟨(-184), by decide +kernel, rfl, by decide⟩
theorem dX9_looksAt_207 : xd cX9_looksAt 207 .return_ 1 208 := ⟨by decide +kernel, rfl⟩

set_option maxRecDepth 100000 in
set_option maxHeartbeats 4000000 in
theorem ct_X9_looksAt (l : Launch) (g : XG) (aN aNs aNk aNf aNr aNp aNb aNa aNt aNbo aNsz aNnu aNl aNal aNlo aNw aNtr aNis aNbg aNow nts nta nop npr nac : Nat) (nkp nbd ntp nnw nsn nwn : Int32) (fa : Nat → Int32) (p r : Nat) (hp : p < 495) (hr : r < 4096) (hr4 : popN r = 4) (h0 : fa (5 * p) = 0) (h2 : fa (5 * p + 2) = 0) (h3 : fa (5 * p + 3) = 0) (h4 : fa (5 * p + 4) = 0) : Ct l g 2 0 0 yX9_looksAt cX9_looksAt 7 none [.ref aN, .int (nI p), .int (nI r)] [(aN, .inr (9, [.ref aNs, .ref aNk, .int nkp, .ref aNf, .ref aNr, .ref aNp, .ref aNb, .ref aNa, .ref aNt, .int (nI nts), .ref aNbo, .ref aNsz, .ref aNnu, .int (nI nta), .int (nI nop), .int nbd, .int ntp, .int (nI npr), .int nnw, .int nsn, .int nwn, .ref aNl, .ref aNal, .ref aNlo, .int (nI nac), .ref aNw, .ref aNtr, .ref aNis, .ref aNbg, .ref aNow])), (aNa, .inl (g.2.1 0, 2475, .inl fa))] (xpv [(aN, .inr (9, [.ref aNs, .ref aNk, .int nkp, .ref aNf, .ref aNr, .ref aNp, .ref aNb, .ref aNa, .ref aNt, .int (nI nts), .ref aNbo, .ref aNsz, .ref aNnu, .int (nI nta), .int (nI nop), .int nbd, .int ntp, .int (nI npr), .int nnw, .int nsn, .int nwn, .ref aNl, .ref aNal, .ref aNlo, .int (nI nac), .ref aNw, .ref aNtr, .ref aNis, .ref aNbg, .ref aNow])), (aNa, .inl (g.2.1 0, 2475, .inl (fun j => if 5 * p ≤ j ∧ j < 5 * p + 5 then nI (fcR r (j - 5 * p)) else fa j)))]) := by
  refine Ct.ofX (lv := [some (.ref aN), some (.int (nI p)), some (.int (nI r)), none, none, none, none]) (by decide) rfl (Nat.le_of_ble_eq_true rfl) (fun κ => ?_)
  generalize hQ : xQ κ g 0 0 _ = Q
  refine x_iconst 0 dX9_looksAt_0 (by decide) ?_
  refine x_istore_n (lv' := [some (.ref aN), some (.int (nI p)), some (.int (nI r)), some (.int 0), none, none, none]) dX9_looksAt_1 (xlt rfl) rfl ?_
  refine x_iconst 5 dX9_looksAt_2 (by decide) ?_
  refine x_iload_n dX9_looksAt_3 rfl ?_
  refine x_imul dX9_looksAt_4 ?_
  refine x_rei (nI (5 * p)) (nI_imul 5 p) ?_
  refine x_istore (lv' := [some (.ref aN), some (.int (nI p)), some (.int (nI r)), some (.int 0), some (.int (nI (5 * p))), none, none]) dX9_looksAt_5 (xlt rfl) rfl ?_
  refine x_aload_n dX9_looksAt_7 rfl ?_
  refine x_get dX9_looksAt_8 0 7 inX9 fl_X9_28 rfl rfl (by decide) rfl ?_
  refine x_iload dX9_looksAt_11 rfl ?_
  refine x_iconst 1 dX9_looksAt_13 (by decide) ?_
  refine x_iadd dX9_looksAt_14 ?_
  refine x_rei (nI ((5 * p) + 1)) (nI_addc (5 * p) 1 rfl) ?_
  refine x_iconst (-1) dX9_looksAt_15 (by decide) ?_
  refine x_iast (ws' := [(aN, .inr (9, [.ref aNs, .ref aNk, .int nkp, .ref aNf, .ref aNr, .ref aNp, .ref aNb, .ref aNa, .ref aNt, .int (nI nts), .ref aNbo, .ref aNsz, .ref aNnu, .int (nI nta), .int (nI nop), .int nbd, .int ntp, .int (nI npr), .int nnw, .int nsn, .int nwn, .ref aNl, .ref aNal, .ref aNlo, .int (nI nac), .ref aNw, .ref aNtr, .ref aNis, .ref aNbg, .ref aNow])), (aNa, .inl (g.2.1 0, 2475, .inl (upd fa ((5 * p) + 1) ((-1)))))]) dX9_looksAt_16 1 ((5 * p) + 1) rfl (rfl) (by omega) (by decide) rfl ?_
  refine x_iconst 0 dX9_looksAt_17 (by decide) ?_
  refine x_istore (lv' := [some (.ref aN), some (.int (nI p)), some (.int (nI r)), some (.int 0), some (.int (nI (5 * p))), some (.int 0), none]) dX9_looksAt_18 (xlt rfl) rfl ?_
  have L20_1 : ∀ (k : Nat), k ≤ 12 → ∀ (rn : Nat), rn = laC.laR r k → ∀ (ff : Nat → Int32), ff = laF fa p r k → Xs κ g 2 0 0 cX9_looksAt yX9_looksAt none Q 0 0 20 [some (.ref aN), some (.int (nI p)), some (.int (nI r)), some (.int (nI rn)), some (.int (nI (5 * p))), some (.int (nI k)), none] [] [(aN, .inr (9, [.ref aNs, .ref aNk, .int nkp, .ref aNf, .ref aNr, .ref aNp, .ref aNb, .ref aNa, .ref aNt, .int (nI nts), .ref aNbo, .ref aNsz, .ref aNnu, .int (nI nta), .int (nI nop), .int nbd, .int ntp, .int (nI npr), .int nnw, .int nsn, .int nwn, .ref aNl, .ref aNal, .ref aNlo, .int (nI nac), .ref aNw, .ref aNtr, .ref aNis, .ref aNbg, .ref aNow])), (aNa, .inl (g.2.1 0, 2475, .inl ff))] := by
    refine upTo 12 (fun k hi20 ih20 => ?_)
    intro rn ern
    subst ern
    intro ff eff
    subst eff
    have hc1 := laC_le r k
    have hc2 := laR_le r k
    have hbn := bitN_lt r k
    refine x_iload dX9_looksAt_20 rfl ?_
    refine x_bipush 12 dX9_looksAt_22 (by decide) ?_
    refine x_icmp_ge dX9_looksAt_24 (fun c24 => ?_) (fun c24 => ?_)
    · have c24 : 12 ≤ (nI k) := c24
      have c24n := (nI_leI (a := 12) (b := k) (by omega) (by omega)).mp c24
      have hxc24 : k = 12 := by omega
      try rw [hxc24]
      refine x_funi (ws' := [(aN, .inr (9, [.ref aNs, .ref aNk, .int nkp, .ref aNf, .ref aNr, .ref aNp, .ref aNb, .ref aNa, .ref aNt, .int (nI nts), .ref aNbo, .ref aNsz, .ref aNnu, .int (nI nta), .int (nI nop), .int nbd, .int ntp, .int (nI npr), .int nnw, .int nsn, .int nwn, .ref aNl, .ref aNal, .ref aNlo, .int (nI nac), .ref aNw, .ref aNtr, .ref aNis, .ref aNbg, .ref aNow])), (aNa, .inl (g.2.1 0, 2475, .inl (fun j => if 5 * p ≤ j ∧ j < 5 * p + 5 then nI (fcR r (j - 5 * p)) else fa j)))]) (q0 := 1) rfl (fun j _ => la_fin hr hr4 fa p j) rfl ?_
      rw [← hQ]
      refine x_vret dX9_looksAt_207 rfl (Nat.le_of_ble_eq_true rfl) (Nat.le_of_ble_eq_true rfl) ?_
      exact ⟨rfl, rfl⟩
    · have c24 : ¬ (12 ≤ (nI k)) := c24
      have c24n := mt (nI_leI (a := 12) (b := k) (by omega) (by omega)).mpr c24
      refine x_iload_n dX9_looksAt_27 rfl ?_
      refine x_iload dX9_looksAt_28 rfl ?_
      refine x_cSi dX9_looksAt_30 ml_X9_83 mX9_has (ct_X9_has κ.2.1 g r k (by omega)) rfl (Nat.le_of_ble_eq_true rfl) (by decide) (Nat.le_refl _) (Nat.le_refl _) ?_
      refine x_istore (lv' := [some (.ref aN), some (.int (nI p)), some (.int (nI r)), some (.int (nI ((laC.laR r k)))), some (.int (nI (5 * p))), some (.int (nI k)), some (.int (nI (bitN r k)))]) dX9_looksAt_33 (xlt rfl) rfl ?_
      refine x_iload dX9_looksAt_35 rfl ?_
      have J37_3 : ∀ (v2 : Nat), v2 = (if (nI (bitN r k)) = 0 then 0 else (laC.laR r k) + 1) → Xs κ g 2 0 0 cX9_looksAt yX9_looksAt none Q 0 0 47 [some (.ref aN), some (.int (nI p)), some (.int (nI r)), some (.int (nI ((laC.laR r k)))), some (.int (nI (5 * p))), some (.int (nI k)), some (.int (nI (bitN r k)))] [.int (nI v2)] [(aN, .inr (9, [.ref aNs, .ref aNk, .int nkp, .ref aNf, .ref aNr, .ref aNp, .ref aNb, .ref aNa, .ref aNt, .int (nI nts), .ref aNbo, .ref aNsz, .ref aNnu, .int (nI nta), .int (nI nop), .int nbd, .int ntp, .int (nI npr), .int nnw, .int nsn, .int nwn, .ref aNl, .ref aNal, .ref aNlo, .int (nI nac), .ref aNw, .ref aNtr, .ref aNis, .ref aNbg, .ref aNow])), (aNa, .inl (g.2.1 0, 2475, .inl (laF fa p r k)))] := by
        intro v2 ev2
        refine x_rei (nI (laC.laR r (k + 1))) (by simp only [ev2]; rfl) ?_
        refine x_istore_n (lv' := [some (.ref aN), some (.int (nI p)), some (.int (nI r)), some (.int (nI (laC.laR r (k + 1)))), some (.int (nI (5 * p))), some (.int (nI k)), some (.int (nI (bitN r k)))]) dX9_looksAt_47 (xlt rfl) rfl ?_
        refine x_aload_n dX9_looksAt_48 rfl ?_
        refine x_get dX9_looksAt_49 0 7 inX9 fl_X9_28 rfl rfl (by decide) rfl ?_
        refine x_iload dX9_looksAt_52 rfl ?_
        refine x_dup2 dX9_looksAt_54 rfl rfl ?_
        refine x_iald dX9_looksAt_55 1 (5 * p) rfl (rfl) (by omega) (by decide) ?_
        refine x_rei (nI (laS r k)) (by simp [upd, laF]) ?_
        refine x_iload dX9_looksAt_56 rfl ?_
        have J58_5 : ∀ (v4 : Nat), v4 = (if (nI (bitN r k)) = 0 then 0 else k) → Xs κ g 2 0 0 cX9_looksAt yX9_looksAt none Q 0 0 67 [some (.ref aN), some (.int (nI p)), some (.int (nI r)), some (.int (nI (laC.laR r (k + 1)))), some (.int (nI (5 * p))), some (.int (nI k)), some (.int (nI (bitN r k)))] [.int (nI v4), .int (nI (laS r k)), .int (nI (5 * p)), .ref aNa] [(aN, .inr (9, [.ref aNs, .ref aNk, .int nkp, .ref aNf, .ref aNr, .ref aNp, .ref aNb, .ref aNa, .ref aNt, .int (nI nts), .ref aNbo, .ref aNsz, .ref aNnu, .int (nI nta), .int (nI nop), .int nbd, .int ntp, .int (nI npr), .int nnw, .int nsn, .int nwn, .ref aNl, .ref aNal, .ref aNlo, .int (nI nac), .ref aNw, .ref aNtr, .ref aNis, .ref aNbg, .ref aNow])), (aNa, .inl (g.2.1 0, 2475, .inl (laF fa p r k)))] := by
          intro v4 ev4
          refine x_iadd dX9_looksAt_67 ?_
          refine x_rei (nI (laS r k + v4)) (nI_iadd (laS r k) v4) ?_
          refine x_rei (nI (laS r (k + 1))) (by (try simp only [ev4]); rfl) ?_
          refine x_iast (ws' := [(aN, .inr (9, [.ref aNs, .ref aNk, .int nkp, .ref aNf, .ref aNr, .ref aNp, .ref aNb, .ref aNa, .ref aNt, .int (nI nts), .ref aNbo, .ref aNsz, .ref aNnu, .int (nI nta), .int (nI nop), .int nbd, .int ntp, .int (nI npr), .int nnw, .int nsn, .int nwn, .ref aNl, .ref aNal, .ref aNlo, .int (nI nac), .ref aNw, .ref aNtr, .ref aNis, .ref aNbg, .ref aNow])), (aNa, .inl (g.2.1 0, 2475, .inl (upd (laF fa p r k) (5 * p) (nI (laS r (k + 1))))))]) dX9_looksAt_68 1 (5 * p) rfl (rfl) (by omega) (by decide) rfl ?_
          refine x_aload_n dX9_looksAt_69 rfl ?_
          refine x_get dX9_looksAt_70 0 7 inX9 fl_X9_28 rfl rfl (by decide) rfl ?_
          refine x_iload dX9_looksAt_73 rfl ?_
          refine x_iconst 1 dX9_looksAt_75 (by decide) ?_
          refine x_iadd dX9_looksAt_76 ?_
          refine x_rei (nI ((5 * p) + 1)) (nI_addc (5 * p) 1 rfl) ?_
          refine x_iload dX9_looksAt_77 rfl ?_
          have J79_9 : ∀ (v8 : Int32), v8 = (if (nI (bitN r k)) = 0 then laL r k else ((if 0 ≤ (laL r k) then laL r k else nI k))) → Xs κ g 2 0 0 cX9_looksAt yX9_looksAt none Q 0 0 108 [some (.ref aN), some (.int (nI p)), some (.int (nI r)), some (.int (nI (laC.laR r (k + 1)))), some (.int (nI (5 * p))), some (.int (nI k)), some (.int (nI (bitN r k)))] [.int v8, .int (nI ((5 * p) + 1)), .ref aNa] [(aN, .inr (9, [.ref aNs, .ref aNk, .int nkp, .ref aNf, .ref aNr, .ref aNp, .ref aNb, .ref aNa, .ref aNt, .int (nI nts), .ref aNbo, .ref aNsz, .ref aNnu, .int (nI nta), .int (nI nop), .int nbd, .int ntp, .int (nI npr), .int nnw, .int nsn, .int nwn, .ref aNl, .ref aNal, .ref aNlo, .int (nI nac), .ref aNw, .ref aNtr, .ref aNis, .ref aNbg, .ref aNow])), (aNa, .inl (g.2.1 0, 2475, .inl (upd (laF fa p r k) (5 * p) (nI (laS r (k + 1))))))] := by
            intro v8 ev8
            refine x_rei (laL r (k + 1)) (by (try simp only [ev8]); rfl) ?_
            refine x_iast (ws' := [(aN, .inr (9, [.ref aNs, .ref aNk, .int nkp, .ref aNf, .ref aNr, .ref aNp, .ref aNb, .ref aNa, .ref aNt, .int (nI nts), .ref aNbo, .ref aNsz, .ref aNnu, .int (nI nta), .int (nI nop), .int nbd, .int ntp, .int (nI npr), .int nnw, .int nsn, .int nwn, .ref aNl, .ref aNal, .ref aNlo, .int (nI nac), .ref aNw, .ref aNtr, .ref aNis, .ref aNbg, .ref aNow])), (aNa, .inl (g.2.1 0, 2475, .inl (upd (upd (laF fa p r k) (5 * p) (nI (laS r (k + 1)))) ((5 * p) + 1) (laL r (k + 1)))))]) dX9_looksAt_108 1 ((5 * p) + 1) rfl (rfl) (by omega) (by decide) rfl ?_
            refine x_aload_n dX9_looksAt_109 rfl ?_
            refine x_get dX9_looksAt_110 0 7 inX9 fl_X9_28 rfl rfl (by decide) rfl ?_
            refine x_iload dX9_looksAt_113 rfl ?_
            refine x_iconst 2 dX9_looksAt_115 (by decide) ?_
            refine x_iadd dX9_looksAt_116 ?_
            refine x_rei (nI ((5 * p) + 2)) (nI_addc (5 * p) 2 rfl) ?_
            refine x_iload dX9_looksAt_117 rfl ?_
            have J119_11 : ∀ (v10 : Nat), v10 = (if (nI (bitN r k)) = 0 then laG r k else k) → Xs κ g 2 0 0 cX9_looksAt yX9_looksAt none Q 0 0 136 [some (.ref aN), some (.int (nI p)), some (.int (nI r)), some (.int (nI (laC.laR r (k + 1)))), some (.int (nI (5 * p))), some (.int (nI k)), some (.int (nI (bitN r k)))] [.int (nI v10), .int (nI ((5 * p) + 2)), .ref aNa] [(aN, .inr (9, [.ref aNs, .ref aNk, .int nkp, .ref aNf, .ref aNr, .ref aNp, .ref aNb, .ref aNa, .ref aNt, .int (nI nts), .ref aNbo, .ref aNsz, .ref aNnu, .int (nI nta), .int (nI nop), .int nbd, .int ntp, .int (nI npr), .int nnw, .int nsn, .int nwn, .ref aNl, .ref aNal, .ref aNlo, .int (nI nac), .ref aNw, .ref aNtr, .ref aNis, .ref aNbg, .ref aNow])), (aNa, .inl (g.2.1 0, 2475, .inl (upd (upd (laF fa p r k) (5 * p) (nI (laS r (k + 1)))) ((5 * p) + 1) (laL r (k + 1)))))] := by
              intro v10 ev10
              refine x_rei (nI (laG r (k + 1))) (by (try simp only [ev10]); rfl) ?_
              refine x_iast (ws' := [(aN, .inr (9, [.ref aNs, .ref aNk, .int nkp, .ref aNf, .ref aNr, .ref aNp, .ref aNb, .ref aNa, .ref aNt, .int (nI nts), .ref aNbo, .ref aNsz, .ref aNnu, .int (nI nta), .int (nI nop), .int nbd, .int ntp, .int (nI npr), .int nnw, .int nsn, .int nwn, .ref aNl, .ref aNal, .ref aNlo, .int (nI nac), .ref aNw, .ref aNtr, .ref aNis, .ref aNbg, .ref aNow])), (aNa, .inl (g.2.1 0, 2475, .inl (upd (upd (upd (laF fa p r k) (5 * p) (nI (laS r (k + 1)))) ((5 * p) + 1) (laL r (k + 1))) ((5 * p) + 2) (nI (laG r (k + 1))))))]) dX9_looksAt_136 1 ((5 * p) + 2) rfl (rfl) (by omega) (by decide) rfl ?_
              refine x_aload_n dX9_looksAt_137 rfl ?_
              refine x_get dX9_looksAt_138 0 7 inX9 fl_X9_28 rfl rfl (by decide) rfl ?_
              refine x_iload dX9_looksAt_141 rfl ?_
              refine x_iconst 3 dX9_looksAt_143 (by decide) ?_
              refine x_iadd dX9_looksAt_144 ?_
              refine x_rei (nI ((5 * p) + 3)) (nI_addc (5 * p) 3 rfl) ?_
              refine x_dup2 dX9_looksAt_145 rfl rfl ?_
              refine x_iald dX9_looksAt_146 1 ((5 * p) + 3) rfl (rfl) (by omega) (by decide) ?_
              refine x_rei (nI (laE r k)) (by simp [upd, laF]) ?_
              refine x_iload dX9_looksAt_147 rfl ?_
              have J149_15 : ∀ (v14 : Int32), v14 = (if (nI (bitN r k)) = 0 then 0 else ((if ((nI k) - (nI k) / 2 * 2) = 0 then 1 else 0))) → Xs κ g 2 0 0 cX9_looksAt yX9_looksAt none Q 0 0 164 [some (.ref aN), some (.int (nI p)), some (.int (nI r)), some (.int (nI (laC.laR r (k + 1)))), some (.int (nI (5 * p))), some (.int (nI k)), some (.int (nI (bitN r k)))] [.int v14, .int (nI (laE r k)), .int (nI ((5 * p) + 3)), .ref aNa] [(aN, .inr (9, [.ref aNs, .ref aNk, .int nkp, .ref aNf, .ref aNr, .ref aNp, .ref aNb, .ref aNa, .ref aNt, .int (nI nts), .ref aNbo, .ref aNsz, .ref aNnu, .int (nI nta), .int (nI nop), .int nbd, .int ntp, .int (nI npr), .int nnw, .int nsn, .int nwn, .ref aNl, .ref aNal, .ref aNlo, .int (nI nac), .ref aNw, .ref aNtr, .ref aNis, .ref aNbg, .ref aNow])), (aNa, .inl (g.2.1 0, 2475, .inl (upd (upd (upd (laF fa p r k) (5 * p) (nI (laS r (k + 1)))) ((5 * p) + 1) (laL r (k + 1))) ((5 * p) + 2) (nI (laG r (k + 1))))))] := by
                intro v14 ev14
                refine x_iadd dX9_looksAt_164 ?_
                refine x_rei (nI (laE r (k + 1))) (by (try simp only [ev14]); show _ = nI (laE r k + (if nI (bitN r k) = 0 then 0 else if nI k - nI k / 2 * 2 = 0 then 1 else 0)); rw [← nI_add]; congr 1; (split <;> (try split)) <;> rfl) ?_
                refine x_iast (ws' := [(aN, .inr (9, [.ref aNs, .ref aNk, .int nkp, .ref aNf, .ref aNr, .ref aNp, .ref aNb, .ref aNa, .ref aNt, .int (nI nts), .ref aNbo, .ref aNsz, .ref aNnu, .int (nI nta), .int (nI nop), .int nbd, .int ntp, .int (nI npr), .int nnw, .int nsn, .int nwn, .ref aNl, .ref aNal, .ref aNlo, .int (nI nac), .ref aNw, .ref aNtr, .ref aNis, .ref aNbg, .ref aNow])), (aNa, .inl (g.2.1 0, 2475, .inl (upd (upd (upd (upd (laF fa p r k) (5 * p) (nI (laS r (k + 1)))) ((5 * p) + 1) (laL r (k + 1))) ((5 * p) + 2) (nI (laG r (k + 1)))) ((5 * p) + 3) (nI (laE r (k + 1))))))]) dX9_looksAt_165 1 ((5 * p) + 3) rfl (rfl) (by omega) (by decide) rfl ?_
                refine x_aload_n dX9_looksAt_166 rfl ?_
                refine x_get dX9_looksAt_167 0 7 inX9 fl_X9_28 rfl rfl (by decide) rfl ?_
                refine x_iload dX9_looksAt_170 rfl ?_
                refine x_iconst 4 dX9_looksAt_172 (by decide) ?_
                refine x_iadd dX9_looksAt_173 ?_
                refine x_rei (nI ((5 * p) + 4)) (nI_addc (5 * p) 4 rfl) ?_
                refine x_iload_n dX9_looksAt_174 rfl ?_
                refine x_aload_n dX9_looksAt_175 rfl ?_
                refine x_get dX9_looksAt_176 0 7 inX9 fl_X9_28 rfl rfl (by decide) rfl ?_
                refine x_iload dX9_looksAt_179 rfl ?_
                refine x_iconst 4 dX9_looksAt_181 (by decide) ?_
                refine x_iadd dX9_looksAt_182 ?_
                refine x_rei (nI ((5 * p) + 4)) (nI_addc (5 * p) 4 rfl) ?_
                refine x_iald dX9_looksAt_183 1 ((5 * p) + 4) rfl (rfl) (by omega) (by decide) ?_
                refine x_rei (nI (laC r k)) (by simp [upd, laF]) ?_
                have J184_17 : ∀ (v16 : Nat), v16 = (if (nI (laC.laR r (k + 1))) ≤ (nI (laC r k)) then laC r k else laC.laR r (k + 1)) → Xs κ g 2 0 0 cX9_looksAt yX9_looksAt none Q 0 0 200 [some (.ref aN), some (.int (nI p)), some (.int (nI r)), some (.int (nI (laC.laR r (k + 1)))), some (.int (nI (5 * p))), some (.int (nI k)), some (.int (nI (bitN r k)))] [.int (nI v16), .int (nI ((5 * p) + 4)), .ref aNa] [(aN, .inr (9, [.ref aNs, .ref aNk, .int nkp, .ref aNf, .ref aNr, .ref aNp, .ref aNb, .ref aNa, .ref aNt, .int (nI nts), .ref aNbo, .ref aNsz, .ref aNnu, .int (nI nta), .int (nI nop), .int nbd, .int ntp, .int (nI npr), .int nnw, .int nsn, .int nwn, .ref aNl, .ref aNal, .ref aNlo, .int (nI nac), .ref aNw, .ref aNtr, .ref aNis, .ref aNbg, .ref aNow])), (aNa, .inl (g.2.1 0, 2475, .inl (upd (upd (upd (upd (laF fa p r k) (5 * p) (nI (laS r (k + 1)))) ((5 * p) + 1) (laL r (k + 1))) ((5 * p) + 2) (nI (laG r (k + 1)))) ((5 * p) + 3) (nI (laE r (k + 1))))))] := by
                  intro v16 ev16
                  refine x_rei (nI (laC r (k + 1))) (by (try simp only [ev16]); rfl) ?_
                  refine x_iast (ws' := [(aN, .inr (9, [.ref aNs, .ref aNk, .int nkp, .ref aNf, .ref aNr, .ref aNp, .ref aNb, .ref aNa, .ref aNt, .int (nI nts), .ref aNbo, .ref aNsz, .ref aNnu, .int (nI nta), .int (nI nop), .int nbd, .int ntp, .int (nI npr), .int nnw, .int nsn, .int nwn, .ref aNl, .ref aNal, .ref aNlo, .int (nI nac), .ref aNw, .ref aNtr, .ref aNis, .ref aNbg, .ref aNow])), (aNa, .inl (g.2.1 0, 2475, .inl (upd (upd (upd (upd (upd (laF fa p r k) (5 * p) (nI (laS r (k + 1)))) ((5 * p) + 1) (laL r (k + 1))) ((5 * p) + 2) (nI (laG r (k + 1)))) ((5 * p) + 3) (nI (laE r (k + 1)))) ((5 * p) + 4) (nI (laC r (k + 1))))))]) dX9_looksAt_200 1 ((5 * p) + 4) rfl (rfl) (by omega) (by decide) rfl ?_
                  refine x_iinc (lv' := [some (.ref aN), some (.int (nI p)), some (.int (nI r)), some (.int (nI (laC.laR r (k + 1)))), some (.int (nI (5 * p))), some (.int (nI (k + 1))), some (.int (nI (bitN r k)))]) (nI (k + 1)) dX9_looksAt_201 rfl (nI_addc k 1 rfl) rfl ?_
                  refine x_goto dX9_looksAt_204 ?_
                  refine x_fgt (lv' := [some (.ref aN), some (.int (nI p)), some (.int (nI r)), some (.int (nI (laC.laR r (k + 1)))), some (.int (nI (5 * p))), some (.int (nI (k + 1))), none]) ⟨Or.inr rfl, Or.inr rfl, Or.inr rfl, Or.inr rfl, Or.inr rfl, Or.inr rfl, Or.inl rfl, trivial⟩ ?_
                  exact ih20 (by omega) (laC.laR r (k + 1)) (by rfl) _ (by exact la_step fa p r k)
                refine x_icmp_le dX9_looksAt_184 (fun c184 => ?_) (fun c184 => ?_)
                · have c184 : (nI (laC.laR r (k + 1))) ≤ (nI (laC r k)) := c184
                  refine x_aload_n dX9_looksAt_191 rfl ?_
                  refine x_get dX9_looksAt_192 0 7 inX9 fl_X9_28 rfl rfl (by decide) rfl ?_
                  refine x_iload dX9_looksAt_195 rfl ?_
                  refine x_iconst 4 dX9_looksAt_197 (by decide) ?_
                  refine x_iadd dX9_looksAt_198 ?_
                  refine x_rei (nI ((5 * p) + 4)) (nI_addc (5 * p) 4 rfl) ?_
                  refine x_iald dX9_looksAt_199 1 ((5 * p) + 4) rfl (rfl) (by omega) (by decide) ?_
                  refine x_rei (nI (laC r k)) (by simp [upd, laF]) ?_
                  exact J184_17 (laC r k) (if_pos c184).symm
                · have c184 : ¬ ((nI (laC.laR r (k + 1))) ≤ (nI (laC r k))) := c184
                  refine x_iload_n dX9_looksAt_187 rfl ?_
                  refine x_goto dX9_looksAt_188 ?_
                  exact J184_17 (laC.laR r (k + 1)) (if_neg c184).symm
              refine x_if_eq dX9_looksAt_149 (fun c149 => ?_) (fun c149 => ?_)
              · have c149 : (nI (bitN r k)) = 0 := c149
                refine x_iconst 0 dX9_looksAt_163 (by decide) ?_
                exact J149_15 _ (if_pos c149).symm
              · have c149 : ¬ ((nI (bitN r k)) = 0) := c149
                refine x_iload dX9_looksAt_152 rfl ?_
                refine x_iconst 2 dX9_looksAt_154 (by decide) ?_
                refine x_irem dX9_looksAt_155 (by decide) ?_
                have J156_19 : ∀ (v18 : Int32), v18 = (if ((nI k) - (nI k) / 2 * 2) = 0 then 1 else 0) → Xs κ g 2 0 0 cX9_looksAt yX9_looksAt none Q 0 0 164 [some (.ref aN), some (.int (nI p)), some (.int (nI r)), some (.int (nI (laC.laR r (k + 1)))), some (.int (nI (5 * p))), some (.int (nI k)), some (.int (nI (bitN r k)))] [.int v18, .int (nI (laE r k)), .int (nI ((5 * p) + 3)), .ref aNa] [(aN, .inr (9, [.ref aNs, .ref aNk, .int nkp, .ref aNf, .ref aNr, .ref aNp, .ref aNb, .ref aNa, .ref aNt, .int (nI nts), .ref aNbo, .ref aNsz, .ref aNnu, .int (nI nta), .int (nI nop), .int nbd, .int ntp, .int (nI npr), .int nnw, .int nsn, .int nwn, .ref aNl, .ref aNal, .ref aNlo, .int (nI nac), .ref aNw, .ref aNtr, .ref aNis, .ref aNbg, .ref aNow])), (aNa, .inl (g.2.1 0, 2475, .inl (upd (upd (upd (laF fa p r k) (5 * p) (nI (laS r (k + 1)))) ((5 * p) + 1) (laL r (k + 1))) ((5 * p) + 2) (nI (laG r (k + 1))))))] := by
                  intro v18 ev18
                  exact J149_15 _ (by rw [if_neg c149]; try simp only [ev18])
                refine x_if_ne dX9_looksAt_156 (fun c156 => ?_) (fun c156 => ?_)
                · have c156 : ¬ (((nI k) - (nI k) / 2 * 2) = 0) := c156
                  refine x_iconst 0 dX9_looksAt_163 (by decide) ?_
                  exact J156_19 _ (if_neg c156).symm
                · have c156 : ((nI k) - (nI k) / 2 * 2) = 0 := c156
                  refine x_iconst 1 dX9_looksAt_159 (by decide) ?_
                  refine x_goto dX9_looksAt_160 ?_
                  exact J156_19 _ (if_pos c156).symm
            refine x_if_eq dX9_looksAt_119 (fun c119 => ?_) (fun c119 => ?_)
            · have c119 : (nI (bitN r k)) = 0 := c119
              refine x_aload_n dX9_looksAt_127 rfl ?_
              refine x_get dX9_looksAt_128 0 7 inX9 fl_X9_28 rfl rfl (by decide) rfl ?_
              refine x_iload dX9_looksAt_131 rfl ?_
              refine x_iconst 2 dX9_looksAt_133 (by decide) ?_
              refine x_iadd dX9_looksAt_134 ?_
              refine x_rei (nI ((5 * p) + 2)) (nI_addc (5 * p) 2 rfl) ?_
              refine x_iald dX9_looksAt_135 1 ((5 * p) + 2) rfl (rfl) (by omega) (by decide) ?_
              refine x_rei (nI (laG r k)) (by simp [upd, laF]) ?_
              exact J119_11 (laG r k) (if_pos c119).symm
            · have c119 : ¬ ((nI (bitN r k)) = 0) := c119
              refine x_iload dX9_looksAt_122 rfl ?_
              refine x_goto dX9_looksAt_124 ?_
              exact J119_11 k (if_neg c119).symm
          refine x_if_eq dX9_looksAt_79 (fun c79 => ?_) (fun c79 => ?_)
          · have c79 : (nI (bitN r k)) = 0 := c79
            refine x_aload_n dX9_looksAt_99 rfl ?_
            refine x_get dX9_looksAt_100 0 7 inX9 fl_X9_28 rfl rfl (by decide) rfl ?_
            refine x_iload dX9_looksAt_103 rfl ?_
            refine x_iconst 1 dX9_looksAt_105 (by decide) ?_
            refine x_iadd dX9_looksAt_106 ?_
            refine x_rei (nI ((5 * p) + 1)) (nI_addc (5 * p) 1 rfl) ?_
            refine x_iald dX9_looksAt_107 1 ((5 * p) + 1) rfl (rfl) (by omega) (by decide) ?_
            refine x_rei (laL r k) (by simp [upd, laF]) ?_
            exact J79_9 _ (if_pos c79).symm
          · have c79 : ¬ ((nI (bitN r k)) = 0) := c79
            refine x_aload_n dX9_looksAt_82 rfl ?_
            refine x_get dX9_looksAt_83 0 7 inX9 fl_X9_28 rfl rfl (by decide) rfl ?_
            refine x_iload dX9_looksAt_86 rfl ?_
            refine x_iconst 1 dX9_looksAt_88 (by decide) ?_
            refine x_iadd dX9_looksAt_89 ?_
            refine x_rei (nI ((5 * p) + 1)) (nI_addc (5 * p) 1 rfl) ?_
            refine x_iald dX9_looksAt_90 1 ((5 * p) + 1) rfl (rfl) (by omega) (by decide) ?_
            refine x_rei (laL r k) (by simp [upd, laF]) ?_
            have J91_21 : ∀ (v20 : Int32), v20 = (if 0 ≤ (laL r k) then laL r k else nI k) → Xs κ g 2 0 0 cX9_looksAt yX9_looksAt none Q 0 0 108 [some (.ref aN), some (.int (nI p)), some (.int (nI r)), some (.int (nI (laC.laR r (k + 1)))), some (.int (nI (5 * p))), some (.int (nI k)), some (.int (nI (bitN r k)))] [.int v20, .int (nI ((5 * p) + 1)), .ref aNa] [(aN, .inr (9, [.ref aNs, .ref aNk, .int nkp, .ref aNf, .ref aNr, .ref aNp, .ref aNb, .ref aNa, .ref aNt, .int (nI nts), .ref aNbo, .ref aNsz, .ref aNnu, .int (nI nta), .int (nI nop), .int nbd, .int ntp, .int (nI npr), .int nnw, .int nsn, .int nwn, .ref aNl, .ref aNal, .ref aNlo, .int (nI nac), .ref aNw, .ref aNtr, .ref aNis, .ref aNbg, .ref aNow])), (aNa, .inl (g.2.1 0, 2475, .inl (upd (laF fa p r k) (5 * p) (nI (laS r (k + 1))))))] := by
              intro v20 ev20
              exact J79_9 _ (by rw [if_neg c79]; try simp only [ev20])
            refine x_if_ge dX9_looksAt_91 (fun c91 => ?_) (fun c91 => ?_)
            · have c91 : 0 ≤ (laL r k) := c91
              refine x_aload_n dX9_looksAt_99 rfl ?_
              refine x_get dX9_looksAt_100 0 7 inX9 fl_X9_28 rfl rfl (by decide) rfl ?_
              refine x_iload dX9_looksAt_103 rfl ?_
              refine x_iconst 1 dX9_looksAt_105 (by decide) ?_
              refine x_iadd dX9_looksAt_106 ?_
              refine x_rei (nI ((5 * p) + 1)) (nI_addc (5 * p) 1 rfl) ?_
              refine x_iald dX9_looksAt_107 1 ((5 * p) + 1) rfl (rfl) (by omega) (by decide) ?_
              refine x_rei (laL r k) (by simp [upd, laF]) ?_
              exact J91_21 _ (if_pos c91).symm
            · have c91 : ¬ (0 ≤ (laL r k)) := c91
              refine x_iload dX9_looksAt_94 rfl ?_
              refine x_goto dX9_looksAt_96 ?_
              exact J91_21 _ (if_neg c91).symm
        refine x_if_eq dX9_looksAt_58 (fun c58 => ?_) (fun c58 => ?_)
        · have c58 : (nI (bitN r k)) = 0 := c58
          refine x_iconst 0 dX9_looksAt_66 (by decide) ?_
          exact J58_5 0 (if_pos c58).symm
        · have c58 : ¬ ((nI (bitN r k)) = 0) := c58
          refine x_iload dX9_looksAt_61 rfl ?_
          refine x_goto dX9_looksAt_63 ?_
          exact J58_5 k (if_neg c58).symm
      refine x_if_eq dX9_looksAt_37 (fun c37 => ?_) (fun c37 => ?_)
      · have c37 : (nI (bitN r k)) = 0 := c37
        refine x_iconst 0 dX9_looksAt_46 (by decide) ?_
        exact J37_3 0 (if_pos c37).symm
      · have c37 : ¬ ((nI (bitN r k)) = 0) := c37
        refine x_iload_n dX9_looksAt_40 rfl ?_
        refine x_iconst 1 dX9_looksAt_41 (by decide) ?_
        refine x_iadd dX9_looksAt_42 ?_
        refine x_rei (nI ((laC.laR r k) + 1)) (nI_addc (laC.laR r k) 1 rfl) ?_
        refine x_goto dX9_looksAt_43 ?_
        exact J37_3 ((laC.laR r k) + 1) (if_neg c37).symm
  exact L20_1 0 (Nat.zero_le _) 0 (by rfl) _ (by exact la_0 fa p r h0 h2 h3 h4)

