def lkN (kd mn p lat sd : Nat) : Nat :=
  if kd = 0 then sd
  else if kd = 1 then sd + 2 * popN (rowB p &&& 63)
  else if kd = 2 then sd + 20 * lineF (rowB p) + 10 * colF (rowB p)
  else if kd = 3 then 1
  else if kd = 4 then sd + 3 * popN (rowB p &&& lat)
  else if kd = 5 then (sd + 2 * popN (rowB p &&& 63)) * (if rowB p &&& 128 = 0 then 1 else 2)
  else if kd = 6 then 1 + popN (rowB p &&& 3840)
  else if mn ≤ p then 0 else 1 + popN (rowB p &&& 3840)
theorem lkN_le {kd mn p lat sd : Nat} (h : sd ≤ 99) : lkN kd mn p lat sd ≤ 300 := by
  have h1 := popN_le (rowB p &&& 63)
  have h2 := popN_le (rowB p &&& lat)
  have h3 := popN_le (rowB p &&& 3840)
  have h4 := lineF_lt (rowB p)
  have h5 := colF_lt (rowB p)
  unfold lkN
  repeat' split
  all_goals omega
theorem if01 {n : Nat} (h : n < 2) (c : Nat) : (if nI n = 0 then (0 : Int32) else nI c) = nI (c * n) := by
  rcases (by omega : n = 0 ∨ n = 1) with rfl | rfl
  · simp [show nI 0 = 0 from rfl]
  · simp [show ¬ nI 1 = 0 from by decide]
theorem nI_and0 {a b : Nat} (h : b < 2 ^ 31) : nI (a &&& b) = 0 ↔ a &&& b = 0 := nI_eq0 (and_lt h)
def laN (kd mn lat : Nat) (sd : Nat → Nat) : Nat := sumN (fun p => lkN kd mn p lat (sd p)) 495
theorem laN_le {kd mn lat : Nat} {sd : Nat → Nat} (h : ∀ p, sd p ≤ 99) : laN kd mn lat sd ≤ 148500 := sumN_le (c := 300) (fun k _ => lkN_le (h k))
theorem sumN_ge {f : Nat → Nat} {k : Nat} : ∀ {n : Nat}, k < n → f k ≤ sumN f n
  | 0, h => absurd h (Nat.not_lt_zero _)
  | n + 1, h => by
    by_cases e : k = n
    · subst e; exact Nat.le_add_left _ _
    · exact Nat.le_trans (sumN_ge (n := n) (by omega)) (Nat.le_add_right _ _)
/-- CROSSED of a row by one group -/
def shN (kd mn p lat : Nat) (sd : Nat → Nat) : Nat := if laN kd mn lat sd = 0 then 0 else mn * lkN kd mn p lat (sd p) / laN kd mn lat sd
theorem mulb {mn k : Nat} (h1 : mn ≤ 99999) (h2 : k ≤ 300) : mn * k < 2 ^ 31 := Nat.lt_of_le_of_lt (Nat.mul_le_mul h1 h2) (by decide)
theorem shN_le {kd mn p lat : Nat} {sd : Nat → Nat} (hp : p < 495) : shN kd mn p lat sd ≤ mn := by
  unfold shN
  split
  · exact Nat.zero_le _
  · have h := sumN_ge (f := fun p => lkN kd mn p lat (sd p)) hp
    exact Nat.div_le_of_le_mul (by rw [Nat.mul_comm]; exact Nat.mul_le_mul_right mn h)

-- == X0_born ==
theorem dX0_born_0 : xd cX0_born 0 (.iconst 2) 1 1 := ⟨by decide +kernel, rfl⟩
theorem dX0_born_1 : xd cX0_born 1 (.iload_n 0) 1 2 := ⟨by decide +kernel, rfl⟩
theorem dX0_born_2 : xd cX0_born 2 (.bipush 63) 2 4 := ⟨by decide +kernel, rfl⟩
theorem dX0_born_4 : xd cX0_born 4 .iand 1 5 := ⟨by decide +kernel, rfl⟩
theorem dX0_born_5 : xd cX0_born 5 (.invokestatic 135) 3 8 := ⟨by decide +kernel, rfl⟩
theorem dX0_born_8 : xd cX0_born 8 .imul 1 9 := ⟨by decide +kernel, rfl⟩
theorem dX0_born_9 : xd cX0_born 9 .ireturn 1 10 := ⟨by decide +kernel, rfl⟩

set_option maxRecDepth 100000 in
set_option maxHeartbeats 4000000 in
theorem ct_X0_born (l : Launch) (g : XG) (r : Nat) (hr : r < 4096) : Ct l g 2 0 0 yX0_born cX0_born 1 (some .int) [.int (nI r)] [] (xpi (nI (2 * popN (r &&& 63))) []) := by
  refine Ct.ofX (lv := [some (.int (nI r))]) (by decide) rfl (Nat.le_of_ble_eq_true rfl) (fun κ => ?_)
  generalize hQ : xQ κ g 0 0 _ = Q
  refine x_iconst 2 dX0_born_0 (by decide) ?_
  refine x_iload_n dX0_born_1 rfl ?_
  refine x_bipush 63 dX0_born_2 (by decide) ?_
  refine x_iand dX0_born_4 ?_
  refine x_rei (nI (r &&& 63)) (nI_iand r 63) ?_
  refine x_cSi dX0_born_5 ml_X0_135 mJ6_bitCount_0f7a4 (ct_bitCount_n κ.2.1 g (r &&& 63) (by first | exact and_lt (by decide) | exact and_ltl (rowB_lt _) | exact rowB_lt _ | omega)) rfl (Nat.le_of_ble_eq_true rfl) (by decide) (Nat.le_refl _) (Nat.le_refl _) ?_
  refine x_imul dX0_born_8 ?_
  refine x_rei (nI (2 * (popN (r &&& 63)))) (nI_imul 2 (popN (r &&& 63))) ?_
  rw [← hQ]
  refine x_iret dX0_born_9 rfl (Nat.le_of_ble_eq_true rfl) (Nat.le_of_ble_eq_true rfl) ?_
  exact ⟨rfl, rfl⟩

-- == X0_likingOf ==
theorem dX0_likingOf_0 : xd cX0_likingOf 0 (.iload_n 3) 1 1 := ⟨by decide +kernel, rfl⟩
theorem dX0_likingOf_1 : xj cX0_likingOf 1 (.ifCond .lt) 4 11 := ⟨10, by decide +kernel, rfl, by decide⟩
theorem dX0_likingOf_4 : xd cX0_likingOf 4 (.iload_n 3) 1 5 := ⟨by decide +kernel, rfl⟩
theorem dX0_likingOf_5 : xd cX0_likingOf 5 (.sipush 495) 3 8 := ⟨by decide +kernel, rfl⟩
theorem dX0_likingOf_8 : xj cX0_likingOf 8 (.if_icmp .lt) 11 13 := ⟨5, by decide +kernel, rfl, by decide⟩
theorem dX0_likingOf_11 : xd cX0_likingOf 11 (.iconst 0) 1 12 := ⟨by decide +kernel, rfl⟩
theorem dX0_likingOf_12 : xd cX0_likingOf 12 .ireturn 1 13 := ⟨by decide +kernel, rfl⟩
theorem dX0_likingOf_13 : xd cX0_likingOf 13 (.aload_n 0) 1 14 := ⟨by decide +kernel, rfl⟩
theorem dX0_likingOf_14 : xd cX0_likingOf 14 (.getfield 34) 3 17 := ⟨by decide +kernel, rfl⟩
theorem dX0_likingOf_17 : xd cX0_likingOf 17 (.getfield 68) 3 20 := ⟨by decide +kernel, rfl⟩
theorem dX0_likingOf_20 : xd cX0_likingOf 20 (.iload_n 3) 1 21 := ⟨by decide +kernel, rfl⟩
theorem dX0_likingOf_21 : xd cX0_likingOf 21 .iaload 1 22 := ⟨by decide +kernel, rfl⟩
theorem dX0_likingOf_22 : xd cX0_likingOf 22 (.istore 4) 2 24 := ⟨by decide +kernel, rfl⟩
theorem dX0_likingOf_24 : xd cX0_likingOf 24 (.iload_n 1) 1 25 := ⟨by decide +kernel, rfl⟩
theorem dX0_likingOf_25 : decode cX0_likingOf 25 = .ok (.tableswitch 162 0 6 #[43, 50, 63, 100, 102, 122, 150], 43) := by decide +kernel
theorem dX0_likingOf_68 : xd cX0_likingOf 68 (.aload_n 0) 1 69 := ⟨by decide +kernel, rfl⟩
theorem dX0_likingOf_69 : xd cX0_likingOf 69 (.getfield 9) 3 72 := ⟨by decide +kernel, rfl⟩
theorem dX0_likingOf_72 : xd cX0_likingOf 72 (.iload_n 3) 1 73 := ⟨by decide +kernel, rfl⟩
theorem dX0_likingOf_73 : xd cX0_likingOf 73 .iaload 1 74 := ⟨by decide +kernel, rfl⟩
theorem dX0_likingOf_74 : xd cX0_likingOf 74 .ireturn 1 75 := ⟨by decide +kernel, rfl⟩
theorem dX0_likingOf_75 : xd cX0_likingOf 75 (.aload_n 0) 1 76 := ⟨by decide +kernel, rfl⟩
theorem dX0_likingOf_76 : xd cX0_likingOf 76 (.getfield 9) 3 79 := ⟨by decide +kernel, rfl⟩
theorem dX0_likingOf_79 : xd cX0_likingOf 79 (.iload_n 3) 1 80 := ⟨by decide +kernel, rfl⟩
theorem dX0_likingOf_80 : xd cX0_likingOf 80 .iaload 1 81 := ⟨by decide +kernel, rfl⟩
theorem dX0_likingOf_81 : xd cX0_likingOf 81 (.iload 4) 2 83 := ⟨by decide +kernel, rfl⟩
theorem dX0_likingOf_83 : xd cX0_likingOf 83 (.invokestatic 141) 3 86 := ⟨by decide +kernel, rfl⟩
theorem dX0_likingOf_86 : xd cX0_likingOf 86 .iadd 1 87 := ⟨by decide +kernel, rfl⟩
theorem dX0_likingOf_87 : xd cX0_likingOf 87 .ireturn 1 88 := ⟨by decide +kernel, rfl⟩
theorem dX0_likingOf_88 : xd cX0_likingOf 88 (.aload_n 0) 1 89 := ⟨by decide +kernel, rfl⟩
theorem dX0_likingOf_89 : xd cX0_likingOf 89 (.getfield 9) 3 92 := ⟨by decide +kernel, rfl⟩
theorem dX0_likingOf_92 : xd cX0_likingOf 92 (.iload_n 3) 1 93 := ⟨by decide +kernel, rfl⟩
theorem dX0_likingOf_93 : xd cX0_likingOf 93 .iaload 1 94 := ⟨by decide +kernel, rfl⟩
theorem dX0_likingOf_94 : xd cX0_likingOf 94 (.iload 4) 2 96 := ⟨by decide +kernel, rfl⟩
theorem dX0_likingOf_96 : xd cX0_likingOf 96 (.invokestatic 144) 3 99 := ⟨by decide +kernel, rfl⟩
theorem dX0_likingOf_99 : xj cX0_likingOf 99 (.ifCond .eq) 102 107 := ⟨8, by decide +kernel, rfl, by decide⟩
theorem dX0_likingOf_102 : xd cX0_likingOf 102 (.bipush 20) 2 104 := ⟨by decide +kernel, rfl⟩
theorem dX0_likingOf_104 : xj cX0_likingOf 104 .goto 107 108 := ⟨4, by decide +kernel, rfl, by decide⟩
theorem dX0_likingOf_107 : xd cX0_likingOf 107 (.iconst 0) 1 108 := ⟨by decide +kernel, rfl⟩
theorem dX0_likingOf_108 : xd cX0_likingOf 108 .iadd 1 109 := ⟨by decide +kernel, rfl⟩
theorem dX0_likingOf_109 : xd cX0_likingOf 109 (.iload 4) 2 111 := ⟨by decide +kernel, rfl⟩
theorem dX0_likingOf_111 : xd cX0_likingOf 111 (.invokestatic 147) 3 114 := ⟨by decide +kernel, rfl⟩
theorem dX0_likingOf_114 : xj cX0_likingOf 114 (.ifCond .eq) 117 122 := ⟨8, by decide +kernel, rfl, by decide⟩
theorem dX0_likingOf_117 : xd cX0_likingOf 117 (.bipush 10) 2 119 := ⟨by decide +kernel, rfl⟩
theorem dX0_likingOf_119 : xj cX0_likingOf 119 .goto 122 123 := ⟨4, by decide +kernel, rfl, by decide⟩
theorem dX0_likingOf_122 : xd cX0_likingOf 122 (.iconst 0) 1 123 := ⟨by decide +kernel, rfl⟩
theorem dX0_likingOf_123 : xd cX0_likingOf 123 .iadd 1 124 := ⟨by decide +kernel, rfl⟩
theorem dX0_likingOf_124 : xd cX0_likingOf 124 .ireturn 1 125 := ⟨by decide +kernel, rfl⟩
theorem dX0_likingOf_125 : xd cX0_likingOf 125 (.iconst 1) 1 126 := ⟨by decide +kernel, rfl⟩
theorem dX0_likingOf_126 : xd cX0_likingOf 126 .ireturn 1 127 := ⟨by decide +kernel, rfl⟩
theorem dX0_likingOf_127 : xd cX0_likingOf 127 (.aload_n 0) 1 128 := ⟨by decide +kernel, rfl⟩
theorem dX0_likingOf_128 : xd cX0_likingOf 128 (.getfield 9) 3 131 := ⟨by decide +kernel, rfl⟩
theorem dX0_likingOf_131 : xd cX0_likingOf 131 (.iload_n 3) 1 132 := ⟨by decide +kernel, rfl⟩
theorem dX0_likingOf_132 : xd cX0_likingOf 132 .iaload 1 133 := ⟨by decide +kernel, rfl⟩
theorem dX0_likingOf_133 : xd cX0_likingOf 133 (.iconst 3) 1 134 := ⟨by decide +kernel, rfl⟩
theorem dX0_likingOf_134 : xd cX0_likingOf 134 (.iload 4) 2 136 := ⟨by decide +kernel, rfl⟩
theorem dX0_likingOf_136 : xd cX0_likingOf 136 (.aload_n 0) 1 137 := ⟨by decide +kernel, rfl⟩
theorem dX0_likingOf_137 : xd cX0_likingOf 137 (.getfield 64) 3 140 := ⟨by decide +kernel, rfl⟩
theorem dX0_likingOf_140 : xd cX0_likingOf 140 .iand 1 141 := ⟨by decide +kernel, rfl⟩
theorem dX0_likingOf_141 : xd cX0_likingOf 141 (.invokestatic 135) 3 144 := ⟨by decide +kernel, rfl⟩
theorem dX0_likingOf_144 : xd cX0_likingOf 144 .imul 1 145 := ⟨by decide +kernel, rfl⟩
theorem dX0_likingOf_145 : xd cX0_likingOf 145 .iadd 1 146 := ⟨by decide +kernel, rfl⟩
theorem dX0_likingOf_146 : xd cX0_likingOf 146 .ireturn 1 147 := ⟨by decide +kernel, rfl⟩
theorem dX0_likingOf_147 : xd cX0_likingOf 147 (.aload_n 0) 1 148 := ⟨by decide +kernel, rfl⟩
theorem dX0_likingOf_148 : xd cX0_likingOf 148 (.getfield 9) 3 151 := ⟨by decide +kernel, rfl⟩
theorem dX0_likingOf_151 : xd cX0_likingOf 151 (.iload_n 3) 1 152 := ⟨by decide +kernel, rfl⟩
theorem dX0_likingOf_152 : xd cX0_likingOf 152 .iaload 1 153 := ⟨by decide +kernel, rfl⟩
theorem dX0_likingOf_153 : xd cX0_likingOf 153 (.iload 4) 2 155 := ⟨by decide +kernel, rfl⟩
theorem dX0_likingOf_155 : xd cX0_likingOf 155 (.invokestatic 141) 3 158 := ⟨by decide +kernel, rfl⟩
theorem dX0_likingOf_158 : xd cX0_likingOf 158 .iadd 1 159 := ⟨by decide +kernel, rfl⟩
theorem dX0_likingOf_159 : xd cX0_likingOf 159 (.iload 4) 2 161 := ⟨by decide +kernel, rfl⟩
theorem dX0_likingOf_161 : xd cX0_likingOf 161 (.sipush 128) 3 164 := ⟨by decide +kernel, rfl⟩
theorem dX0_likingOf_164 : xd cX0_likingOf 164 .iand 1 165 := ⟨by decide +kernel, rfl⟩
theorem dX0_likingOf_165 : xj cX0_likingOf 165 (.ifCond .eq) 168 172 := ⟨7, by decide +kernel, rfl, by decide⟩
theorem dX0_likingOf_168 : xd cX0_likingOf 168 (.iconst 2) 1 169 := ⟨by decide +kernel, rfl⟩
theorem dX0_likingOf_169 : xj cX0_likingOf 169 .goto 172 173 := ⟨4, by decide +kernel, rfl, by decide⟩
theorem dX0_likingOf_172 : xd cX0_likingOf 172 (.iconst 1) 1 173 := ⟨by decide +kernel, rfl⟩
theorem dX0_likingOf_173 : xd cX0_likingOf 173 .imul 1 174 := ⟨by decide +kernel, rfl⟩
theorem dX0_likingOf_174 : xd cX0_likingOf 174 .ireturn 1 175 := ⟨by decide +kernel, rfl⟩
theorem dX0_likingOf_175 : xd cX0_likingOf 175 (.iconst 1) 1 176 := ⟨by decide +kernel, rfl⟩
theorem dX0_likingOf_176 : xd cX0_likingOf 176 (.iload 4) 2 178 := ⟨by decide +kernel, rfl⟩
theorem dX0_likingOf_178 : xd cX0_likingOf 178 (.sipush 3840) 3 181 := ⟨by decide +kernel, rfl⟩
theorem dX0_likingOf_181 : xd cX0_likingOf 181 .iand 1 182 := ⟨by decide +kernel, rfl⟩
theorem dX0_likingOf_182 : xd cX0_likingOf 182 (.invokestatic 135) 3 185 := ⟨by decide +kernel, rfl⟩
theorem dX0_likingOf_185 : xd cX0_likingOf 185 .iadd 1 186 := ⟨by decide +kernel, rfl⟩
theorem dX0_likingOf_186 : xd cX0_likingOf 186 .ireturn 1 187 := ⟨by decide +kernel, rfl⟩
theorem dX0_likingOf_187 : xd cX0_likingOf 187 (.iload_n 3) 1 188 := ⟨by decide +kernel, rfl⟩
theorem dX0_likingOf_188 : xd cX0_likingOf 188 (.iload_n 2) 1 189 := ⟨by decide +kernel, rfl⟩
theorem dX0_likingOf_189 : xj cX0_likingOf 189 (.if_icmp .ge) 192 206 := ⟨17, by decide +kernel, rfl, by decide⟩
theorem dX0_likingOf_192 : xd cX0_likingOf 192 (.iconst 1) 1 193 := ⟨by decide +kernel, rfl⟩
theorem dX0_likingOf_193 : xd cX0_likingOf 193 (.iload 4) 2 195 := ⟨by decide +kernel, rfl⟩
theorem dX0_likingOf_195 : xd cX0_likingOf 195 (.sipush 3840) 3 198 := ⟨by decide +kernel, rfl⟩
theorem dX0_likingOf_198 : xd cX0_likingOf 198 .iand 1 199 := ⟨by decide +kernel, rfl⟩
theorem dX0_likingOf_199 : xd cX0_likingOf 199 (.invokestatic 135) 3 202 := ⟨by decide +kernel, rfl⟩
theorem dX0_likingOf_202 : xd cX0_likingOf 202 .iadd 1 203 := ⟨by decide +kernel, rfl⟩
theorem dX0_likingOf_203 : xj cX0_likingOf 203 .goto 206 207 := ⟨4, by decide +kernel, rfl, by decide⟩
theorem dX0_likingOf_206 : xd cX0_likingOf 206 (.iconst 0) 1 207 := ⟨by decide +kernel, rfl⟩
theorem dX0_likingOf_207 : xd cX0_likingOf 207 .ireturn 1 208 := ⟨by decide +kernel, rfl⟩

set_option maxRecDepth 100000 in
set_option maxHeartbeats 4000000 in
theorem ct_X0_likingOf (l : Launch) (g : XG) (aC aS aL aV aO aCs aCl aCh aCw aCc aCb tot lat : Nat) (se sw : Int32) (aLb aLp : Nat) (sd : Nat → Nat) (kd mn p : Nat) (hkd : kd < 2 ^ 31) (hmn : mn ≤ 99999) (hp : p < 495) (hlat : lat < 4096) : Ct l g 3 0 0 yX0_likingOf cX0_likingOf 5 (some .int) [.ref aC, .int (nI kd), .int (nI mn), .int (nI p)] [(aC, .inr (0, [.ref aS, .ref aL, .ref aV, .ref aO, .ref aCs, .ref aCl, .ref aCh, .ref aCw, .ref aCc, .ref aCb, .int (nI tot), .int (nI lat), .int se, .int sw])), (aCs, .inl (g.2.1 0, 495, .inl (nIf sd))), (aL, .inr (5, [.ref aLb, .ref aLp])), (aLb, .inl (g.2.1 0, 495, .inl (nIf rowB)))] (xpi (nI (lkN kd mn p lat (sd p))) [(aC, .inr (0, [.ref aS, .ref aL, .ref aV, .ref aO, .ref aCs, .ref aCl, .ref aCh, .ref aCw, .ref aCc, .ref aCb, .int (nI tot), .int (nI lat), .int se, .int sw])), (aCs, .inl (g.2.1 0, 495, .inl (nIf sd))), (aL, .inr (5, [.ref aLb, .ref aLp])), (aLb, .inl (g.2.1 0, 495, .inl (nIf rowB)))]) := by
  refine Ct.ofX (lv := [some (.ref aC), some (.int (nI kd)), some (.int (nI mn)), some (.int (nI p)), none]) (by decide) rfl (Nat.le_of_ble_eq_true rfl) (fun κ => ?_)
  generalize hQ : xQ κ g 0 0 _ = Q
  refine x_iload_n dX0_likingOf_0 rfl ?_
  refine x_if_lt dX0_likingOf_1 (fun c1 => ?_) (fun c1 => ?_)
  · have c1 : (nI p) < 0 := c1
    have c1n := (nI_ltI (a := p) (b := 0) (by omega) (by omega)).mp c1
    exact absurd c1n (by omega)
  · have c1 : ¬ ((nI p) < 0) := c1
    have c1n := mt (nI_ltI (a := p) (b := 0) (by omega) (by omega)).mpr c1
    refine x_iload_n dX0_likingOf_4 rfl ?_
    refine x_sipush 495 dX0_likingOf_5 (by decide) ?_
    refine x_icmp_lt dX0_likingOf_8 (fun c8 => ?_) (fun c8 => ?_)
    · have c8 : (nI p) < 495 := c8
      have c8n := (nI_ltI (a := p) (b := 495) (by omega) (by omega)).mp c8
      refine x_aload_n dX0_likingOf_13 rfl ?_
      refine x_get dX0_likingOf_14 0 1 inX0 fl_X0_34 rfl rfl (by decide) rfl ?_
      refine x_get dX0_likingOf_17 2 0 inX5 fl_X0_68 rfl rfl (by decide) rfl ?_
      refine x_iload_n dX0_likingOf_20 rfl ?_
      refine x_iald dX0_likingOf_21 3 p rfl (rfl) (by omega) (by decide) ?_
      refine x_istore (lv' := [some (.ref aC), some (.int (nI kd)), some (.int (nI mn)), some (.int (nI p)), some (.int (nI (rowB p)))]) dX0_likingOf_22 (xlt rfl) rfl ?_
      refine x_iload_n dX0_likingOf_24 rfl ?_
      by_cases c25_0 : nI kd = 0
      · refine x_reS c25_0 ?_
        have c25_0n := (nI_eq (a := kd) (b := 0) (by omega) (by decide)).mp c25_0
        refine x_tabIn (off := 43) 68 dX0_likingOf_25 (by decide) (by decide) rfl (by decide) ?_
        refine x_aload_n dX0_likingOf_68 rfl ?_
        refine x_get dX0_likingOf_69 0 4 inX0 fl_X0_9 rfl rfl (by decide) rfl ?_
        refine x_iload_n dX0_likingOf_72 rfl ?_
        refine x_iald dX0_likingOf_73 1 p rfl (rfl) (by omega) (by decide) ?_
        rw [← hQ]
        refine x_iret dX0_likingOf_74 rfl (Nat.le_of_ble_eq_true rfl) (Nat.le_of_ble_eq_true rfl) ?_
        exact ⟨by simp [lkN, c25_0n] <;> rfl, rfl⟩
      have c25_0n := mt (nI_eq (a := kd) (b := 0) (by omega) (by decide)).mpr c25_0
      by_cases c25_1 : nI kd = 1
      · refine x_reS c25_1 ?_
        have c25_1n := (nI_eq (a := kd) (b := 1) (by omega) (by decide)).mp c25_1
        refine x_tabIn (off := 50) 75 dX0_likingOf_25 (by decide) (by decide) rfl (by decide) ?_
        refine x_aload_n dX0_likingOf_75 rfl ?_
        refine x_get dX0_likingOf_76 0 4 inX0 fl_X0_9 rfl rfl (by decide) rfl ?_
        refine x_iload_n dX0_likingOf_79 rfl ?_
        refine x_iald dX0_likingOf_80 1 p rfl (rfl) (by omega) (by decide) ?_
        refine x_iload dX0_likingOf_81 rfl ?_
        refine x_cSi dX0_likingOf_83 ml_X0_141 mX0_born (ct_X0_born κ.2.1 g (rowB p) (by first | exact rowB_lt _ | omega)) rfl (Nat.le_of_ble_eq_true rfl) (by decide) (Nat.le_refl _) (Nat.le_refl _) ?_
        refine x_iadd dX0_likingOf_86 ?_
        refine x_rei (nI (sd p + (2 * popN ((rowB p) &&& 63)))) (nI_iadd (sd p) (2 * popN ((rowB p) &&& 63))) ?_
        rw [← hQ]
        refine x_iret dX0_likingOf_87 rfl (Nat.le_of_ble_eq_true rfl) (Nat.le_of_ble_eq_true rfl) ?_
        exact ⟨by simp [lkN, c25_1n] <;> rfl, rfl⟩
      have c25_1n := mt (nI_eq (a := kd) (b := 1) (by omega) (by decide)).mpr c25_1
      by_cases c25_2 : nI kd = 2
      · refine x_reS c25_2 ?_
        have c25_2n := (nI_eq (a := kd) (b := 2) (by omega) (by decide)).mp c25_2
        refine x_tabIn (off := 63) 88 dX0_likingOf_25 (by decide) (by decide) rfl (by decide) ?_
        refine x_aload_n dX0_likingOf_88 rfl ?_
        refine x_get dX0_likingOf_89 0 4 inX0 fl_X0_9 rfl rfl (by decide) rfl ?_
        refine x_iload_n dX0_likingOf_92 rfl ?_
        refine x_iald dX0_likingOf_93 1 p rfl (rfl) (by omega) (by decide) ?_
        refine x_iload dX0_likingOf_94 rfl ?_
        refine x_cSi dX0_likingOf_96 ml_X0_144 mX5_inOneLine (ct_X5_inOneLine κ.2.1 g (rowB p) (by first | exact rowB_lt _ | omega)) rfl (Nat.le_of_ble_eq_true rfl) (by decide) (Nat.le_refl _) (Nat.le_refl _) ?_
        have J99_2 : ∀ (v1 : Int32), v1 = (if (nI (lineF (rowB p))) = 0 then 0 else 20) → Xs κ g 3 0 0 cX0_likingOf yX0_likingOf (some .int) Q 0 0 108 [some (.ref aC), some (.int (nI kd)), some (.int (nI mn)), some (.int (nI p)), some (.int (nI (rowB p)))] [.int v1, .int (nI (sd p))] [(aC, .inr (0, [.ref aS, .ref aL, .ref aV, .ref aO, .ref aCs, .ref aCl, .ref aCh, .ref aCw, .ref aCc, .ref aCb, .int (nI tot), .int (nI lat), .int se, .int sw])), (aCs, .inl (g.2.1 0, 495, .inl (nIf sd))), (aL, .inr (5, [.ref aLb, .ref aLp])), (aLb, .inl (g.2.1 0, 495, .inl (nIf rowB)))] := by
          intro v1 ev1
          refine x_rei (nI (20 * lineF (rowB p))) (by simp only [ev1]; exact if01 (lineF_lt _) 20) ?_
          refine x_iadd dX0_likingOf_108 ?_
          refine x_rei (nI (sd p + (20 * lineF (rowB p)))) (nI_iadd (sd p) (20 * lineF (rowB p))) ?_
          refine x_iload dX0_likingOf_109 rfl ?_
          refine x_cSi dX0_likingOf_111 ml_X0_147 mX5_hasColumn (ct_X5_hasColumn κ.2.1 g (rowB p) (by first | exact rowB_lt _ | omega)) rfl (Nat.le_of_ble_eq_true rfl) (by decide) (Nat.le_refl _) (Nat.le_refl _) ?_
          have J114_4 : ∀ (v3 : Int32), v3 = (if (nI (colF (rowB p))) = 0 then 0 else 10) → Xs κ g 3 0 0 cX0_likingOf yX0_likingOf (some .int) Q 0 0 123 [some (.ref aC), some (.int (nI kd)), some (.int (nI mn)), some (.int (nI p)), some (.int (nI (rowB p)))] [.int v3, .int (nI (sd p + (20 * lineF (rowB p))))] [(aC, .inr (0, [.ref aS, .ref aL, .ref aV, .ref aO, .ref aCs, .ref aCl, .ref aCh, .ref aCw, .ref aCc, .ref aCb, .int (nI tot), .int (nI lat), .int se, .int sw])), (aCs, .inl (g.2.1 0, 495, .inl (nIf sd))), (aL, .inr (5, [.ref aLb, .ref aLp])), (aLb, .inl (g.2.1 0, 495, .inl (nIf rowB)))] := by
            intro v3 ev3
            refine x_rei (nI (10 * colF (rowB p))) (by simp only [ev3]; exact if01 (colF_lt _) 10) ?_
            refine x_iadd dX0_likingOf_123 ?_
            refine x_rei (nI ((sd p + (20 * lineF (rowB p))) + (10 * colF (rowB p)))) (nI_iadd (sd p + (20 * lineF (rowB p))) (10 * colF (rowB p))) ?_
            rw [← hQ]
            refine x_iret dX0_likingOf_124 rfl (Nat.le_of_ble_eq_true rfl) (Nat.le_of_ble_eq_true rfl) ?_
            exact ⟨by simp [lkN, c25_2n] <;> rfl, rfl⟩
          refine x_if_eq dX0_likingOf_114 (fun c114 => ?_) (fun c114 => ?_)
          · have c114 : (nI (colF (rowB p))) = 0 := c114
            refine x_iconst 0 dX0_likingOf_122 (by decide) ?_
            exact J114_4 _ (if_pos c114).symm
          · have c114 : ¬ ((nI (colF (rowB p))) = 0) := c114
            refine x_bipush 10 dX0_likingOf_117 (by decide) ?_
            refine x_goto dX0_likingOf_119 ?_
            exact J114_4 _ (if_neg c114).symm
        refine x_if_eq dX0_likingOf_99 (fun c99 => ?_) (fun c99 => ?_)
        · have c99 : (nI (lineF (rowB p))) = 0 := c99
          refine x_iconst 0 dX0_likingOf_107 (by decide) ?_
          exact J99_2 _ (if_pos c99).symm
        · have c99 : ¬ ((nI (lineF (rowB p))) = 0) := c99
          refine x_bipush 20 dX0_likingOf_102 (by decide) ?_
          refine x_goto dX0_likingOf_104 ?_
          exact J99_2 _ (if_neg c99).symm
      have c25_2n := mt (nI_eq (a := kd) (b := 2) (by omega) (by decide)).mpr c25_2
      by_cases c25_3 : nI kd = 3
      · refine x_reS c25_3 ?_
        have c25_3n := (nI_eq (a := kd) (b := 3) (by omega) (by decide)).mp c25_3
        refine x_tabIn (off := 100) 125 dX0_likingOf_25 (by decide) (by decide) rfl (by decide) ?_
        refine x_iconst 1 dX0_likingOf_125 (by decide) ?_
        rw [← hQ]
        refine x_iret dX0_likingOf_126 rfl (Nat.le_of_ble_eq_true rfl) (Nat.le_of_ble_eq_true rfl) ?_
        exact ⟨by simp [lkN, c25_3n] <;> rfl, rfl⟩
      have c25_3n := mt (nI_eq (a := kd) (b := 3) (by omega) (by decide)).mpr c25_3
      by_cases c25_4 : nI kd = 4
      · refine x_reS c25_4 ?_
        have c25_4n := (nI_eq (a := kd) (b := 4) (by omega) (by decide)).mp c25_4
        refine x_tabIn (off := 102) 127 dX0_likingOf_25 (by decide) (by decide) rfl (by decide) ?_
        refine x_aload_n dX0_likingOf_127 rfl ?_
        refine x_get dX0_likingOf_128 0 4 inX0 fl_X0_9 rfl rfl (by decide) rfl ?_
        refine x_iload_n dX0_likingOf_131 rfl ?_
        refine x_iald dX0_likingOf_132 1 p rfl (rfl) (by omega) (by decide) ?_
        refine x_iconst 3 dX0_likingOf_133 (by decide) ?_
        refine x_iload dX0_likingOf_134 rfl ?_
        refine x_aload_n dX0_likingOf_136 rfl ?_
        refine x_get dX0_likingOf_137 0 11 inX0 fl_X0_64 rfl rfl (by decide) rfl ?_
        refine x_iand dX0_likingOf_140 ?_
        refine x_rei (nI ((rowB p) &&& lat)) (nI_iand (rowB p) lat) ?_
        refine x_cSi dX0_likingOf_141 ml_X0_135 mJ6_bitCount_0f7a4 (ct_bitCount_n κ.2.1 g ((rowB p) &&& lat) (by first | exact and_lt (by decide) | exact and_ltl (rowB_lt _) | exact rowB_lt _ | omega)) rfl (Nat.le_of_ble_eq_true rfl) (by decide) (Nat.le_refl _) (Nat.le_refl _) ?_
        refine x_imul dX0_likingOf_144 ?_
        refine x_rei (nI (3 * (popN ((rowB p) &&& lat)))) (nI_imul 3 (popN ((rowB p) &&& lat))) ?_
        refine x_iadd dX0_likingOf_145 ?_
        refine x_rei (nI (sd p + (3 * (popN ((rowB p) &&& lat))))) (nI_iadd (sd p) (3 * (popN ((rowB p) &&& lat)))) ?_
        rw [← hQ]
        refine x_iret dX0_likingOf_146 rfl (Nat.le_of_ble_eq_true rfl) (Nat.le_of_ble_eq_true rfl) ?_
        exact ⟨by simp [lkN, c25_4n] <;> rfl, rfl⟩
      have c25_4n := mt (nI_eq (a := kd) (b := 4) (by omega) (by decide)).mpr c25_4
      by_cases c25_5 : nI kd = 5
      · refine x_reS c25_5 ?_
        have c25_5n := (nI_eq (a := kd) (b := 5) (by omega) (by decide)).mp c25_5
        refine x_tabIn (off := 122) 147 dX0_likingOf_25 (by decide) (by decide) rfl (by decide) ?_
        refine x_aload_n dX0_likingOf_147 rfl ?_
        refine x_get dX0_likingOf_148 0 4 inX0 fl_X0_9 rfl rfl (by decide) rfl ?_
        refine x_iload_n dX0_likingOf_151 rfl ?_
        refine x_iald dX0_likingOf_152 1 p rfl (rfl) (by omega) (by decide) ?_
        refine x_iload dX0_likingOf_153 rfl ?_
        refine x_cSi dX0_likingOf_155 ml_X0_141 mX0_born (ct_X0_born κ.2.1 g (rowB p) (by first | exact rowB_lt _ | omega)) rfl (Nat.le_of_ble_eq_true rfl) (by decide) (Nat.le_refl _) (Nat.le_refl _) ?_
        refine x_iadd dX0_likingOf_158 ?_
        refine x_rei (nI (sd p + (2 * popN ((rowB p) &&& 63)))) (nI_iadd (sd p) (2 * popN ((rowB p) &&& 63))) ?_
        refine x_iload dX0_likingOf_159 rfl ?_
        refine x_sipush 128 dX0_likingOf_161 (by decide) ?_
        refine x_iand dX0_likingOf_164 ?_
        refine x_rei (nI ((rowB p) &&& 128)) (nI_iand (rowB p) 128) ?_
        have J165_6 : ∀ (v5 : Int32), v5 = (if (nI ((rowB p) &&& 128)) = 0 then 1 else 2) → Xs κ g 3 0 0 cX0_likingOf yX0_likingOf (some .int) Q 0 0 173 [some (.ref aC), some (.int (nI kd)), some (.int (nI mn)), some (.int (nI p)), some (.int (nI (rowB p)))] [.int v5, .int (nI (sd p + (2 * popN ((rowB p) &&& 63))))] [(aC, .inr (0, [.ref aS, .ref aL, .ref aV, .ref aO, .ref aCs, .ref aCl, .ref aCh, .ref aCw, .ref aCc, .ref aCb, .int (nI tot), .int (nI lat), .int se, .int sw])), (aCs, .inl (g.2.1 0, 495, .inl (nIf sd))), (aL, .inr (5, [.ref aLb, .ref aLp])), (aLb, .inl (g.2.1 0, 495, .inl (nIf rowB)))] := by
          intro v5 ev5
          refine x_rei (nI (if rowB p &&& 128 = 0 then 1 else 2)) (by simp only [ev5, nI_and0 (show 128 < 2 ^ 31 by decide)]; split <;> rfl) ?_
          refine x_imul dX0_likingOf_173 ?_
          refine x_rei (nI ((sd p + (2 * popN ((rowB p) &&& 63))) * (if rowB p &&& 128 = 0 then 1 else 2))) (nI_imul (sd p + (2 * popN ((rowB p) &&& 63))) (if rowB p &&& 128 = 0 then 1 else 2)) ?_
          rw [← hQ]
          refine x_iret dX0_likingOf_174 rfl (Nat.le_of_ble_eq_true rfl) (Nat.le_of_ble_eq_true rfl) ?_
          exact ⟨by simp [lkN, c25_5n] <;> rfl, rfl⟩
        refine x_if_eq dX0_likingOf_165 (fun c165 => ?_) (fun c165 => ?_)
        · have c165 : (nI ((rowB p) &&& 128)) = 0 := c165
          refine x_iconst 1 dX0_likingOf_172 (by decide) ?_
          exact J165_6 _ (if_pos c165).symm
        · have c165 : ¬ ((nI ((rowB p) &&& 128)) = 0) := c165
          refine x_iconst 2 dX0_likingOf_168 (by decide) ?_
          refine x_goto dX0_likingOf_169 ?_
          exact J165_6 _ (if_neg c165).symm
      have c25_5n := mt (nI_eq (a := kd) (b := 5) (by omega) (by decide)).mpr c25_5
      by_cases c25_6 : nI kd = 6
      · refine x_reS c25_6 ?_
        have c25_6n := (nI_eq (a := kd) (b := 6) (by omega) (by decide)).mp c25_6
        refine x_tabIn (off := 150) 175 dX0_likingOf_25 (by decide) (by decide) rfl (by decide) ?_
        refine x_iconst 1 dX0_likingOf_175 (by decide) ?_
        refine x_iload dX0_likingOf_176 rfl ?_
        refine x_sipush 3840 dX0_likingOf_178 (by decide) ?_
        refine x_iand dX0_likingOf_181 ?_
        refine x_rei (nI ((rowB p) &&& 3840)) (nI_iand (rowB p) 3840) ?_
        refine x_cSi dX0_likingOf_182 ml_X0_135 mJ6_bitCount_0f7a4 (ct_bitCount_n κ.2.1 g ((rowB p) &&& 3840) (by first | exact and_lt (by decide) | exact and_ltl (rowB_lt _) | exact rowB_lt _ | omega)) rfl (Nat.le_of_ble_eq_true rfl) (by decide) (Nat.le_refl _) (Nat.le_refl _) ?_
        refine x_iadd dX0_likingOf_185 ?_
        refine x_rei (nI (1 + (popN ((rowB p) &&& 3840)))) (nI_iadd 1 (popN ((rowB p) &&& 3840))) ?_
        rw [← hQ]
        refine x_iret dX0_likingOf_186 rfl (Nat.le_of_ble_eq_true rfl) (Nat.le_of_ble_eq_true rfl) ?_
        exact ⟨by simp [lkN, c25_6n] <;> rfl, rfl⟩
      have c25_6n := mt (nI_eq (a := kd) (b := 6) (by omega) (by decide)).mpr c25_6
      refine x_tabD 187 dX0_likingOf_25 (by decide) (fun t ht => match t, ht with | 0, _ => Or.inr (xtne c25_0 (by decide)) | 1, _ => Or.inr (xtne c25_1 (by decide)) | 2, _ => Or.inr (xtne c25_2 (by decide)) | 3, _ => Or.inr (xtne c25_3 (by decide)) | 4, _ => Or.inr (xtne c25_4 (by decide)) | 5, _ => Or.inr (xtne c25_5 (by decide)) | 6, _ => Or.inr (xtne c25_6 (by decide)) | t + 7, ht => absurd ht (by simp)) (by decide) ?_
      refine x_iload_n dX0_likingOf_187 rfl ?_
      refine x_iload_n dX0_likingOf_188 rfl ?_
      have J189_8 : ∀ (v7 : Nat), v7 = (if (nI mn) ≤ (nI p) then 0 else 1 + (popN ((rowB p) &&& 3840))) → Xs κ g 3 0 0 cX0_likingOf yX0_likingOf (some .int) Q 0 0 207 [some (.ref aC), some (.int (nI kd)), some (.int (nI mn)), some (.int (nI p)), some (.int (nI (rowB p)))] [.int (nI v7)] [(aC, .inr (0, [.ref aS, .ref aL, .ref aV, .ref aO, .ref aCs, .ref aCl, .ref aCh, .ref aCw, .ref aCc, .ref aCb, .int (nI tot), .int (nI lat), .int se, .int sw])), (aCs, .inl (g.2.1 0, 495, .inl (nIf sd))), (aL, .inr (5, [.ref aLb, .ref aLp])), (aLb, .inl (g.2.1 0, 495, .inl (nIf rowB)))] := by
        intro v7 ev7
        rw [← hQ]
        refine x_iret dX0_likingOf_207 rfl (Nat.le_of_ble_eq_true rfl) (Nat.le_of_ble_eq_true rfl) ?_
        exact ⟨by simp only [ev7, nI_leI (show mn < 2 ^ 31 by omega) (show p < 2 ^ 31 by omega)]; simp [lkN, c25_0n, c25_1n, c25_2n, c25_3n, c25_4n, c25_5n, c25_6n], rfl⟩
      refine x_icmp_ge dX0_likingOf_189 (fun c189 => ?_) (fun c189 => ?_)
      · have c189 : (nI mn) ≤ (nI p) := c189
        have c189n := (nI_leI (a := mn) (b := p) (by omega) (by omega)).mp c189
        refine x_iconst 0 dX0_likingOf_206 (by decide) ?_
        exact J189_8 0 (if_pos c189).symm
      · have c189 : ¬ ((nI mn) ≤ (nI p)) := c189
        have c189n := mt (nI_leI (a := mn) (b := p) (by omega) (by omega)).mpr c189
        refine x_iconst 1 dX0_likingOf_192 (by decide) ?_
        refine x_iload dX0_likingOf_193 rfl ?_
        refine x_sipush 3840 dX0_likingOf_195 (by decide) ?_
        refine x_iand dX0_likingOf_198 ?_
        refine x_rei (nI ((rowB p) &&& 3840)) (nI_iand (rowB p) 3840) ?_
        refine x_cSi dX0_likingOf_199 ml_X0_135 mJ6_bitCount_0f7a4 (ct_bitCount_n κ.2.1 g ((rowB p) &&& 3840) (by first | exact and_lt (by decide) | exact and_ltl (rowB_lt _) | exact rowB_lt _ | omega)) rfl (Nat.le_of_ble_eq_true rfl) (by decide) (Nat.le_refl _) (Nat.le_refl _) ?_
        refine x_iadd dX0_likingOf_202 ?_
        refine x_rei (nI (1 + (popN ((rowB p) &&& 3840)))) (nI_iadd 1 (popN ((rowB p) &&& 3840))) ?_
        refine x_goto dX0_likingOf_203 ?_
        exact J189_8 (1 + (popN ((rowB p) &&& 3840))) (if_neg c189).symm
    · have c8 : ¬ ((nI p) < 495) := c8
      have c8n := mt (nI_ltI (a := p) (b := 495) (by omega) (by omega)).mpr c8
      exact absurd c8n (by omega)

-- == X0_likeAll ==
theorem dX0_likeAll_0 : xd cX0_likeAll 0 (.iconst 0) 1 1 := ⟨by decide +kernel, rfl⟩
theorem dX0_likeAll_1 : xd cX0_likeAll 1 (.istore_n 3) 1 2 := ⟨by decide +kernel, rfl⟩
theorem dX0_likeAll_2 : xd cX0_likeAll 2 (.iconst 0) 1 3 := ⟨by decide +kernel, rfl⟩
theorem dX0_likeAll_3 : xd cX0_likeAll 3 (.istore 4) 2 5 := ⟨by decide +kernel, rfl⟩
theorem dX0_likeAll_5 : xd cX0_likeAll 5 (.iload 4) 2 7 := ⟨by decide +kernel, rfl⟩
theorem dX0_likeAll_7 : xd cX0_likeAll 7 (.sipush 495) 3 10 := ⟨by decide +kernel, rfl⟩
theorem dX0_likeAll_10 : xj cX0_likeAll 10 (.if_icmp .ge) 13 44 := ⟨34, by decide +kernel, rfl, by decide⟩
theorem dX0_likeAll_13 : xd cX0_likeAll 13 (.aload_n 0) 1 14 := ⟨by decide +kernel, rfl⟩
theorem dX0_likeAll_14 : xd cX0_likeAll 14 (.getfield 15) 3 17 := ⟨by decide +kernel, rfl⟩
theorem dX0_likeAll_17 : xd cX0_likeAll 17 (.iload 4) 2 19 := ⟨by decide +kernel, rfl⟩
theorem dX0_likeAll_19 : xd cX0_likeAll 19 (.aload_n 0) 1 20 := ⟨by decide +kernel, rfl⟩
theorem dX0_likeAll_20 : xd cX0_likeAll 20 (.iload_n 1) 1 21 := ⟨by decide +kernel, rfl⟩
theorem dX0_likeAll_21 : xd cX0_likeAll 21 (.iload_n 2) 1 22 := ⟨by decide +kernel, rfl⟩
theorem dX0_likeAll_22 : xd cX0_likeAll 22 (.iload 4) 2 24 := ⟨by decide +kernel, rfl⟩
theorem dX0_likeAll_24 : xd cX0_likeAll 24 (.invokevirtual 150) 3 27 := ⟨by decide +kernel, rfl⟩
theorem dX0_likeAll_27 : xd cX0_likeAll 27 .iastore 1 28 := ⟨by decide +kernel, rfl⟩
theorem dX0_likeAll_28 : xd cX0_likeAll 28 (.iload_n 3) 1 29 := ⟨by decide +kernel, rfl⟩
theorem dX0_likeAll_29 : xd cX0_likeAll 29 (.aload_n 0) 1 30 := ⟨by decide +kernel, rfl⟩
theorem dX0_likeAll_30 : xd cX0_likeAll 30 (.getfield 15) 3 33 := ⟨by decide +kernel, rfl⟩
theorem dX0_likeAll_33 : xd cX0_likeAll 33 (.iload 4) 2 35 := ⟨by decide +kernel, rfl⟩
theorem dX0_likeAll_35 : xd cX0_likeAll 35 .iaload 1 36 := ⟨by decide +kernel, rfl⟩
theorem dX0_likeAll_36 : xd cX0_likeAll 36 .iadd 1 37 := ⟨by decide +kernel, rfl⟩
theorem dX0_likeAll_37 : xd cX0_likeAll 37 (.istore_n 3) 1 38 := ⟨by decide +kernel, rfl⟩
theorem dX0_likeAll_38 : xd cX0_likeAll 38 (.iinc 4 1) 3 41 := ⟨by decide +kernel, rfl⟩
theorem dX0_likeAll_41 : xj cX0_likeAll 41 .goto 44 5 := ⟨(-36), by decide +kernel, rfl, by decide⟩
theorem dX0_likeAll_44 : xd cX0_likeAll 44 (.iload_n 3) 1 45 := ⟨by decide +kernel, rfl⟩
theorem dX0_likeAll_45 : xd cX0_likeAll 45 .ireturn 1 46 := ⟨by decide +kernel, rfl⟩

set_option maxRecDepth 100000 in
set_option maxHeartbeats 4000000 in
theorem ct_X0_likeAll (l : Launch) (g : XG) (aC aS aL aV aO aCs aCl aCh aCw aCc aCb tot lat : Nat) (se sw : Int32) (aLb aLp : Nat) (sd li : Nat → Nat) (kd mn : Nat) (hkd : kd < 2 ^ 31) (hmn : mn ≤ 99999) (hlat : lat < 4096) (hsd : ∀ p, sd p ≤ 99) : Ct l g 4 0 0 yX0_likeAll cX0_likeAll 5 (some .int) [.ref aC, .int (nI kd), .int (nI mn)] [(aC, .inr (0, [.ref aS, .ref aL, .ref aV, .ref aO, .ref aCs, .ref aCl, .ref aCh, .ref aCw, .ref aCc, .ref aCb, .int (nI tot), .int (nI lat), .int se, .int sw])), (aCs, .inl (g.2.1 0, 495, .inl (nIf sd))), (aCl, .inl (g.2.1 0, 495, .inl (nIf li))), (aL, .inr (5, [.ref aLb, .ref aLp])), (aLb, .inl (g.2.1 0, 495, .inl (nIf rowB)))] (xpi (nI (laN kd mn lat sd)) [(aC, .inr (0, [.ref aS, .ref aL, .ref aV, .ref aO, .ref aCs, .ref aCl, .ref aCh, .ref aCw, .ref aCc, .ref aCb, .int (nI tot), .int (nI lat), .int se, .int sw])), (aCs, .inl (g.2.1 0, 495, .inl (nIf sd))), (aCl, .inl (g.2.1 0, 495, .inl (nIf (fun p => lkN kd mn p lat (sd p))))), (aL, .inr (5, [.ref aLb, .ref aLp])), (aLb, .inl (g.2.1 0, 495, .inl (nIf rowB)))]) := by
  refine Ct.ofX (lv := [some (.ref aC), some (.int (nI kd)), some (.int (nI mn)), none, none]) (by decide) rfl (Nat.le_of_ble_eq_true rfl) (fun κ => ?_)
  generalize hQ : xQ κ g 0 0 _ = Q
  refine x_iconst 0 dX0_likeAll_0 (by decide) ?_
  refine x_istore_n (lv' := [some (.ref aC), some (.int (nI kd)), some (.int (nI mn)), some (.int 0), none]) dX0_likeAll_1 (xlt rfl) rfl ?_
  refine x_iconst 0 dX0_likeAll_2 (by decide) ?_
  refine x_istore (lv' := [some (.ref aC), some (.int (nI kd)), some (.int (nI mn)), some (.int 0), some (.int 0)]) dX0_likeAll_3 (xlt rfl) rfl ?_
  have L5_1 : ∀ (i : Nat), i ≤ 495 → ∀ (al : Nat), al = sumN (fun p => lkN kd mn p lat (sd p)) i → ∀ (lf : Nat → Nat), lf = fillT i (fun p => lkN kd mn p lat (sd p)) li → Xs κ g 4 0 0 cX0_likeAll yX0_likeAll (some .int) Q 0 0 5 [some (.ref aC), some (.int (nI kd)), some (.int (nI mn)), some (.int (nI al)), some (.int (nI i))] [] [(aC, .inr (0, [.ref aS, .ref aL, .ref aV, .ref aO, .ref aCs, .ref aCl, .ref aCh, .ref aCw, .ref aCc, .ref aCb, .int (nI tot), .int (nI lat), .int se, .int sw])), (aCs, .inl (g.2.1 0, 495, .inl (nIf sd))), (aCl, .inl (g.2.1 0, 495, .inl (nIf lf))), (aL, .inr (5, [.ref aLb, .ref aLp])), (aLb, .inl (g.2.1 0, 495, .inl (nIf rowB)))] := by
    refine upTo 495 (fun i hi5 ih5 => ?_)
    intro al eal
    subst eal
    intro lf elf
    subst elf
    refine x_iload dX0_likeAll_5 rfl ?_
    refine x_sipush 495 dX0_likeAll_7 (by decide) ?_
    refine x_icmp_ge dX0_likeAll_10 (fun c10 => ?_) (fun c10 => ?_)
    · have c10 : 495 ≤ (nI i) := c10
      have c10n := (nI_leI (a := 495) (b := i) (by omega) (by omega)).mp c10
      have hxc10 : i = 495 := by omega
      try rw [hxc10]
      refine x_funi (ws' := [(aC, .inr (0, [.ref aS, .ref aL, .ref aV, .ref aO, .ref aCs, .ref aCl, .ref aCh, .ref aCw, .ref aCc, .ref aCb, .int (nI tot), .int (nI lat), .int se, .int sw])), (aCs, .inl (g.2.1 0, 495, .inl (nIf sd))), (aCl, .inl (g.2.1 0, 495, .inl (nIf (fun p => lkN kd mn p lat (sd p))))), (aL, .inr (5, [.ref aLb, .ref aLp])), (aLb, .inl (g.2.1 0, 495, .inl (nIf rowB)))]) (q0 := 2) rfl (fun j hj => congrArg nI (fillT_in _ _ hj)) rfl ?_
      refine x_iload_n dX0_likeAll_44 rfl ?_
      rw [← hQ]
      refine x_iret dX0_likeAll_45 rfl (Nat.le_of_ble_eq_true rfl) (Nat.le_of_ble_eq_true rfl) ?_
      exact ⟨rfl, rfl⟩
    · have c10 : ¬ (495 ≤ (nI i)) := c10
      have c10n := mt (nI_leI (a := 495) (b := i) (by omega) (by omega)).mpr c10
      refine x_aload_n dX0_likeAll_13 rfl ?_
      refine x_get dX0_likeAll_14 0 5 inX0 fl_X0_15 rfl rfl (by decide) rfl ?_
      refine x_iload dX0_likeAll_17 rfl ?_
      refine x_aload_n dX0_likeAll_19 rfl ?_
      refine x_iload_n dX0_likeAll_20 rfl ?_
      refine x_iload_n dX0_likeAll_21 rfl ?_
      refine x_iload dX0_likeAll_22 rfl ?_
      refine x_cVi0 dX0_likeAll_24 ml_X0_150 mX0_likingOf (ct_X0_likingOf κ.2.1 g aC aS aL aV aO aCs aCl aCh aCw aCc aCb tot lat se sw aLb aLp sd kd mn i (hkd) (hmn) (by omega) (hlat)) [0, 1, 3, 4] rfl rfl 0 rfl rfl rfl (Nat.le_of_ble_eq_true rfl) (by decide) (Nat.le_refl _) (Nat.le_refl _) ?_
      refine x_iast (ws' := [(aC, .inr (0, [.ref aS, .ref aL, .ref aV, .ref aO, .ref aCs, .ref aCl, .ref aCh, .ref aCw, .ref aCc, .ref aCb, .int (nI tot), .int (nI lat), .int se, .int sw])), (aCs, .inl (g.2.1 0, 495, .inl (nIf sd))), (aCl, .inl (g.2.1 0, 495, .inl (nIf (updN (fillT i (fun p => lkN kd mn p lat (sd p)) li) i (lkN kd mn i lat (sd i)))))), (aL, .inr (5, [.ref aLb, .ref aLp])), (aLb, .inl (g.2.1 0, 495, .inl (nIf rowB)))]) dX0_likeAll_27 2 i rfl (rfl) (by omega) (by decide) (by rw [upd_nIf]; rfl) ?_
      refine x_iload_n dX0_likeAll_28 rfl ?_
      refine x_aload_n dX0_likeAll_29 rfl ?_
      refine x_get dX0_likeAll_30 0 5 inX0 fl_X0_15 rfl rfl (by decide) rfl ?_
      refine x_iload dX0_likeAll_33 rfl ?_
      refine x_iald dX0_likeAll_35 2 i rfl (rfl) (by omega) (by decide) ?_
      refine x_rei (nI (lkN kd mn i lat (sd i))) (congrArg nI (updN_self _ _ _)) ?_
      refine x_iadd dX0_likeAll_36 ?_
      refine x_rei (nI ((sumN (fun p => lkN kd mn p lat (sd p)) i) + (lkN kd mn i lat (sd i)))) (nI_iadd (sumN (fun p => lkN kd mn p lat (sd p)) i) (lkN kd mn i lat (sd i))) ?_
      refine x_istore_n (lv' := [some (.ref aC), some (.int (nI kd)), some (.int (nI mn)), some (.int (nI ((sumN (fun p => lkN kd mn p lat (sd p)) i) + (lkN kd mn i lat (sd i))))), some (.int (nI i))]) dX0_likeAll_37 (xlt rfl) rfl ?_
      refine x_iinc (lv' := [some (.ref aC), some (.int (nI kd)), some (.int (nI mn)), some (.int (nI ((sumN (fun p => lkN kd mn p lat (sd p)) i) + (lkN kd mn i lat (sd i))))), some (.int (nI (i + 1)))]) (nI (i + 1)) dX0_likeAll_38 rfl (nI_addc i 1 rfl) rfl ?_
      refine x_goto dX0_likeAll_41 ?_
      exact ih5 (by omega) ((sumN (fun p => lkN kd mn p lat (sd p)) i) + (lkN kd mn i lat (sd i))) (by rfl) (updN (fillT i (fun p => lkN kd mn p lat (sd p)) li) i (lkN kd mn i lat (sd i))) (by exact fillT_updN i (fun p => lkN kd mn p lat (sd p)) li)
  exact L5_1 0 (Nat.zero_le _) 0 (by rfl) li (by exact (fillT_0 _ _).symm)

-- == X0_crossesBy ==
theorem dX0_crossesBy_0 : xd cX0_crossesBy 0 (.aload_n 0) 1 1 := ⟨by decide +kernel, rfl⟩
theorem dX0_crossesBy_1 : xd cX0_crossesBy 1 (.iload_n 1) 1 2 := ⟨by decide +kernel, rfl⟩
theorem dX0_crossesBy_2 : xd cX0_crossesBy 2 (.iload_n 2) 1 3 := ⟨by decide +kernel, rfl⟩
theorem dX0_crossesBy_3 : xd cX0_crossesBy 3 (.invokevirtual 95) 3 6 := ⟨by decide +kernel, rfl⟩
theorem dX0_crossesBy_6 : xd cX0_crossesBy 6 (.istore 4) 2 8 := ⟨by decide +kernel, rfl⟩
theorem dX0_crossesBy_8 : xd cX0_crossesBy 8 (.iload 4) 2 10 := ⟨by decide +kernel, rfl⟩
theorem dX0_crossesBy_10 : xj cX0_crossesBy 10 (.ifCond .le) 13 24 := ⟨14, by decide +kernel, rfl, by decide⟩
theorem dX0_crossesBy_13 : xd cX0_crossesBy 13 (.iload_n 3) 1 14 := ⟨by decide +kernel, rfl⟩
theorem dX0_crossesBy_14 : xj cX0_crossesBy 14 (.ifCond .lt) 17 24 := ⟨10, by decide +kernel, rfl, by decide⟩
theorem dX0_crossesBy_17 : xd cX0_crossesBy 17 (.iload_n 3) 1 18 := ⟨by decide +kernel, rfl⟩
theorem dX0_crossesBy_18 : xd cX0_crossesBy 18 (.sipush 495) 3 21 := ⟨by decide +kernel, rfl⟩
theorem dX0_crossesBy_21 : xj cX0_crossesBy 21 (.if_icmp .lt) 24 26 := ⟨5, by decide +kernel, rfl, by decide⟩
theorem dX0_crossesBy_24 : xd cX0_crossesBy 24 (.iconst 0) 1 25 := ⟨by decide +kernel, rfl⟩
theorem dX0_crossesBy_25 : xd cX0_crossesBy 25 .ireturn 1 26 := ⟨by decide +kernel, rfl⟩
theorem dX0_crossesBy_26 : xd cX0_crossesBy 26 (.iload_n 2) 1 27 := ⟨by decide +kernel, rfl⟩
theorem dX0_crossesBy_27 : xd cX0_crossesBy 27 (.aload_n 0) 1 28 := ⟨by decide +kernel, rfl⟩
theorem dX0_crossesBy_28 : xd cX0_crossesBy 28 (.getfield 15) 3 31 := ⟨by decide +kernel, rfl⟩
theorem dX0_crossesBy_31 : xd cX0_crossesBy 31 (.iload_n 3) 1 32 := ⟨by decide +kernel, rfl⟩
theorem dX0_crossesBy_32 : xd cX0_crossesBy 32 .iaload 1 33 := ⟨by decide +kernel, rfl⟩
theorem dX0_crossesBy_33 : xd cX0_crossesBy 33 .imul 1 34 := ⟨by decide +kernel, rfl⟩
theorem dX0_crossesBy_34 : xd cX0_crossesBy 34 (.iload 4) 2 36 := ⟨by decide +kernel, rfl⟩
theorem dX0_crossesBy_36 : xd cX0_crossesBy 36 .idiv 1 37 := ⟨by decide +kernel, rfl⟩
theorem dX0_crossesBy_37 : xd cX0_crossesBy 37 .ireturn 1 38 := ⟨by decide +kernel, rfl⟩

set_option maxRecDepth 100000 in
set_option maxHeartbeats 4000000 in
theorem ct_X0_crossesBy (l : Launch) (g : XG) (aC aS aL aV aO aCs aCl aCh aCw aCc aCb tot lat : Nat) (se sw : Int32) (aLb aLp : Nat) (sd li : Nat → Nat) (kd mn : Nat) (p : Nat) (hkd : kd < 2 ^ 31) (hmn : mn ≤ 99999) (hlat : lat < 4096) (hsd : ∀ p, sd p ≤ 99) (hp : p < 495) : Ct l g 5 0 0 yX0_crossesBy cX0_crossesBy 5 (some .int) [.ref aC, .int (nI kd), .int (nI mn), .int (nI p)] [(aC, .inr (0, [.ref aS, .ref aL, .ref aV, .ref aO, .ref aCs, .ref aCl, .ref aCh, .ref aCw, .ref aCc, .ref aCb, .int (nI tot), .int (nI lat), .int se, .int sw])), (aCs, .inl (g.2.1 0, 495, .inl (nIf sd))), (aCl, .inl (g.2.1 0, 495, .inl (nIf li))), (aL, .inr (5, [.ref aLb, .ref aLp])), (aLb, .inl (g.2.1 0, 495, .inl (nIf rowB)))] (xpi (nI (shN kd mn p lat sd)) [(aC, .inr (0, [.ref aS, .ref aL, .ref aV, .ref aO, .ref aCs, .ref aCl, .ref aCh, .ref aCw, .ref aCc, .ref aCb, .int (nI tot), .int (nI lat), .int se, .int sw])), (aCs, .inl (g.2.1 0, 495, .inl (nIf sd))), (aCl, .inl (g.2.1 0, 495, .inl (nIf (fun p => lkN kd mn p lat (sd p))))), (aL, .inr (5, [.ref aLb, .ref aLp])), (aLb, .inl (g.2.1 0, 495, .inl (nIf rowB)))]) := by
  refine Ct.ofX (lv := [some (.ref aC), some (.int (nI kd)), some (.int (nI mn)), some (.int (nI p)), none]) (by decide) rfl (Nat.le_of_ble_eq_true rfl) (fun κ => ?_)
  generalize hQ : xQ κ g 0 0 _ = Q
  have hla := laN_le (kd := kd) (mn := mn) (lat := lat) hsd
  refine x_aload_n dX0_crossesBy_0 rfl ?_
  refine x_iload_n dX0_crossesBy_1 rfl ?_
  refine x_iload_n dX0_crossesBy_2 rfl ?_
  refine x_cVi (ws' := [(aC, .inr (0, [.ref aS, .ref aL, .ref aV, .ref aO, .ref aCs, .ref aCl, .ref aCh, .ref aCw, .ref aCc, .ref aCb, .int (nI tot), .int (nI lat), .int se, .int sw])), (aCs, .inl (g.2.1 0, 495, .inl (nIf sd))), (aCl, .inl (g.2.1 0, 495, .inl (nIf (fun p => lkN kd mn p lat (sd p))))), (aL, .inr (5, [.ref aLb, .ref aLp])), (aLb, .inl (g.2.1 0, 495, .inl (nIf rowB)))]) dX0_crossesBy_3 ml_X0_95 mX0_likeAll (ct_X0_likeAll κ.2.1 g aC aS aL aV aO aCs aCl aCh aCw aCc aCb tot lat se sw aLb aLp sd li kd mn (by assumption) (by assumption) (by assumption) (by assumption)) [0, 1, 2, 3, 4] rfl rfl 0 rfl rfl rfl (Nat.le_of_ble_eq_true rfl) (by decide) (Nat.le_refl _) (Nat.le_refl _) (rfl : [aC, aCs, aCl, aL, aLb] = [aC, aCs, aCl, aL, aLb]) rfl ?_
  refine x_istore (lv' := [some (.ref aC), some (.int (nI kd)), some (.int (nI mn)), some (.int (nI p)), some (.int (nI (laN kd mn lat sd)))]) dX0_crossesBy_6 (xlt rfl) rfl ?_
  refine x_iload dX0_crossesBy_8 rfl ?_
  refine x_if_le dX0_crossesBy_10 (fun c10 => ?_) (fun c10 => ?_)
  · have c10 : (nI (laN kd mn lat sd)) ≤ 0 := c10
    have c10n := (nI_leI (a := (laN kd mn lat sd)) (b := 0) (by omega) (by omega)).mp c10
    refine x_iconst 0 dX0_crossesBy_24 (by decide) ?_
    rw [← hQ]
    refine x_iret dX0_crossesBy_25 rfl (Nat.le_of_ble_eq_true rfl) (Nat.le_of_ble_eq_true rfl) ?_
    exact ⟨by rw [shN, if_pos (by omega)]; rfl, rfl⟩
  · have c10 : ¬ ((nI (laN kd mn lat sd)) ≤ 0) := c10
    have c10n := mt (nI_leI (a := (laN kd mn lat sd)) (b := 0) (by omega) (by omega)).mpr c10
    refine x_iload_n dX0_crossesBy_13 rfl ?_
    refine x_if_lt dX0_crossesBy_14 (fun c14 => ?_) (fun c14 => ?_)
    · have c14 : (nI p) < 0 := c14
      have c14n := (nI_ltI (a := p) (b := 0) (by omega) (by omega)).mp c14
      exact absurd c14n (by omega)
    · have c14 : ¬ ((nI p) < 0) := c14
      have c14n := mt (nI_ltI (a := p) (b := 0) (by omega) (by omega)).mpr c14
      refine x_iload_n dX0_crossesBy_17 rfl ?_
      refine x_sipush 495 dX0_crossesBy_18 (by decide) ?_
      refine x_icmp_lt dX0_crossesBy_21 (fun c21 => ?_) (fun c21 => ?_)
      · have c21 : (nI p) < 495 := c21
        have c21n := (nI_ltI (a := p) (b := 495) (by omega) (by omega)).mp c21
        refine x_iload_n dX0_crossesBy_26 rfl ?_
        refine x_aload_n dX0_crossesBy_27 rfl ?_
        refine x_get dX0_crossesBy_28 0 5 inX0 fl_X0_15 rfl rfl (by decide) rfl ?_
        refine x_iload_n dX0_crossesBy_31 rfl ?_
        refine x_iald dX0_crossesBy_32 2 p rfl (rfl) (by omega) (by decide) ?_
        refine x_imul dX0_crossesBy_33 ?_
        refine x_rei (nI (mn * (lkN kd mn p lat (sd p)))) (nI_imul mn (lkN kd mn p lat (sd p))) ?_
        refine x_iload dX0_crossesBy_34 rfl ?_
        refine x_idiv dX0_crossesBy_36 (nI_ne0 (by omega) (by omega)) ?_
        refine x_rei (nI (mn * lkN kd mn p lat (sd p) / laN kd mn lat sd)) (nI_idiv (mulb hmn (lkN_le (hsd p))) (by omega)) ?_
        rw [← hQ]
        refine x_iret dX0_crossesBy_37 rfl (Nat.le_of_ble_eq_true rfl) (Nat.le_of_ble_eq_true rfl) ?_
        exact ⟨by rw [shN, if_neg (by omega)], rfl⟩
      · have c21 : ¬ ((nI p) < 495) := c21
        have c21n := mt (nI_ltI (a := p) (b := 495) (by omega) (by omega)).mpr c21
        exact absurd c21n (by omega)

-- == X0_addCrosses ==
theorem dX0_addCrosses_0 : xd cX0_addCrosses 0 (.iload_n 2) 1 1 := ⟨by decide +kernel, rfl⟩
theorem dX0_addCrosses_1 : xj cX0_addCrosses 1 (.ifCond .gt) 4 5 := ⟨4, by decide +kernel, rfl, by decide⟩
theorem dX0_addCrosses_4 : xd cX0_addCrosses 4 .return_ 1 5 := ⟨by decide +kernel, rfl⟩
theorem dX0_addCrosses_5 : xd cX0_addCrosses 5 (.iconst 0) 1 6 := ⟨by decide +kernel, rfl⟩
theorem dX0_addCrosses_6 : xd cX0_addCrosses 6 (.istore_n 3) 1 7 := ⟨by decide +kernel, rfl⟩
theorem dX0_addCrosses_7 : xd cX0_addCrosses 7 (.iload_n 3) 1 8 := ⟨by decide +kernel, rfl⟩
theorem dX0_addCrosses_8 : xd cX0_addCrosses 8 (.sipush 495) 3 11 := ⟨by decide +kernel, rfl⟩
theorem dX0_addCrosses_11 : xj cX0_addCrosses 11 (.if_icmp .ge) 14 39 := ⟨28, by decide +kernel, rfl, by decide⟩
theorem dX0_addCrosses_14 : xd cX0_addCrosses 14 (.aload_n 0) 1 15 := ⟨by decide +kernel, rfl⟩
theorem dX0_addCrosses_15 : xd cX0_addCrosses 15 (.getfield 24) 3 18 := ⟨by decide +kernel, rfl⟩
theorem dX0_addCrosses_18 : xd cX0_addCrosses 18 (.iload_n 3) 1 19 := ⟨by decide +kernel, rfl⟩
theorem dX0_addCrosses_19 : xd cX0_addCrosses 19 .dup2 1 20 := ⟨by decide +kernel, rfl⟩
theorem dX0_addCrosses_20 : xd cX0_addCrosses 20 .iaload 1 21 := ⟨by decide +kernel, rfl⟩
theorem dX0_addCrosses_21 : xd cX0_addCrosses 21 (.iload_n 1) 1 22 := ⟨by decide +kernel, rfl⟩
theorem dX0_addCrosses_22 : xd cX0_addCrosses 22 (.aload_n 0) 1 23 := ⟨by decide +kernel, rfl⟩
theorem dX0_addCrosses_23 : xd cX0_addCrosses 23 (.getfield 15) 3 26 := ⟨by decide +kernel, rfl⟩
theorem dX0_addCrosses_26 : xd cX0_addCrosses 26 (.iload_n 3) 1 27 := ⟨by decide +kernel, rfl⟩
theorem dX0_addCrosses_27 : xd cX0_addCrosses 27 .iaload 1 28 := ⟨by decide +kernel, rfl⟩
theorem dX0_addCrosses_28 : xd cX0_addCrosses 28 .imul 1 29 := ⟨by decide +kernel, rfl⟩
theorem dX0_addCrosses_29 : xd cX0_addCrosses 29 (.iload_n 2) 1 30 := ⟨by decide +kernel, rfl⟩
theorem dX0_addCrosses_30 : xd cX0_addCrosses 30 .idiv 1 31 := ⟨by decide +kernel, rfl⟩
theorem dX0_addCrosses_31 : xd cX0_addCrosses 31 .iadd 1 32 := ⟨by decide +kernel, rfl⟩
theorem dX0_addCrosses_32 : xd cX0_addCrosses 32 .iastore 1 33 := ⟨by decide +kernel, rfl⟩
theorem dX0_addCrosses_33 : xd cX0_addCrosses 33 (.iinc 3 1) 3 36 := ⟨by decide +kernel, rfl⟩
theorem dX0_addCrosses_36 : xj cX0_addCrosses 36 .goto 39 7 := ⟨(-29), by decide +kernel, rfl, by decide⟩
theorem dX0_addCrosses_39 : xd cX0_addCrosses 39 .return_ 1 40 := ⟨by decide +kernel, rfl⟩

set_option maxRecDepth 100000 in
set_option maxHeartbeats 4000000 in
theorem ct_X0_addCrosses (l : Launch) (g : XG) (aC aS aL aV aO aCs aCl aCh aCw aCc aCb tot lat : Nat) (se sw : Int32) (li cr : Nat → Nat) (mn la : Nat) (hla : la < 2 ^ 31) (hmn : mn ≤ 99999) (hli : ∀ p, p < 495 → li p ≤ 300) : Ct l g 1 0 0 yX0_addCrosses cX0_addCrosses 4 none [.ref aC, .int (nI mn), .int (nI la)] [(aC, .inr (0, [.ref aS, .ref aL, .ref aV, .ref aO, .ref aCs, .ref aCl, .ref aCh, .ref aCw, .ref aCc, .ref aCb, .int (nI tot), .int (nI lat), .int se, .int sw])), (aCl, .inl (g.2.1 0, 495, .inl (nIf li))), (aCc, .inl (g.2.1 0, 495, .inl (nIf cr)))] (xpv [(aC, .inr (0, [.ref aS, .ref aL, .ref aV, .ref aO, .ref aCs, .ref aCl, .ref aCh, .ref aCw, .ref aCc, .ref aCb, .int (nI tot), .int (nI lat), .int se, .int sw])), (aCl, .inl (g.2.1 0, 495, .inl (nIf li))), (aCc, .inl (g.2.1 0, 495, .inl (nIf (fun p => cr p + (if la = 0 then 0 else mn * li p / la)))))]) := by
  refine Ct.ofX (lv := [some (.ref aC), some (.int (nI mn)), some (.int (nI la)), none]) (by decide) rfl (Nat.le_of_ble_eq_true rfl) (fun κ => ?_)
  generalize hQ : xQ κ g 0 0 _ = Q
  refine x_iload_n dX0_addCrosses_0 rfl ?_
  refine x_if_gt dX0_addCrosses_1 (fun c1 => ?_) (fun c1 => ?_)
  · have c1 : 0 < (nI la) := c1
    have c1n := (nI_ltI (a := 0) (b := la) (by omega) (by omega)).mp c1
    refine x_iconst 0 dX0_addCrosses_5 (by decide) ?_
    refine x_istore_n (lv' := [some (.ref aC), some (.int (nI mn)), some (.int (nI la)), some (.int 0)]) dX0_addCrosses_6 (xlt rfl) rfl ?_
    have L7_1 : ∀ (i : Nat), i ≤ 495 → ∀ (cf : Nat → Nat), cf = fillT i (fun p => cr p + (if la = 0 then 0 else mn * li p / la)) cr → Xs κ g 1 0 0 cX0_addCrosses yX0_addCrosses none Q 0 0 7 [some (.ref aC), some (.int (nI mn)), some (.int (nI la)), some (.int (nI i))] [] [(aC, .inr (0, [.ref aS, .ref aL, .ref aV, .ref aO, .ref aCs, .ref aCl, .ref aCh, .ref aCw, .ref aCc, .ref aCb, .int (nI tot), .int (nI lat), .int se, .int sw])), (aCl, .inl (g.2.1 0, 495, .inl (nIf li))), (aCc, .inl (g.2.1 0, 495, .inl (nIf cf)))] := by
      refine upTo 495 (fun i hi7 ih7 => ?_)
      intro cf ecf
      subst ecf
      refine x_iload_n dX0_addCrosses_7 rfl ?_
      refine x_sipush 495 dX0_addCrosses_8 (by decide) ?_
      refine x_icmp_ge dX0_addCrosses_11 (fun c11 => ?_) (fun c11 => ?_)
      · have c11 : 495 ≤ (nI i) := c11
        have c11n := (nI_leI (a := 495) (b := i) (by omega) (by omega)).mp c11
        have hxc11 : i = 495 := by omega
        try rw [hxc11]
        refine x_funi (ws' := [(aC, .inr (0, [.ref aS, .ref aL, .ref aV, .ref aO, .ref aCs, .ref aCl, .ref aCh, .ref aCw, .ref aCc, .ref aCb, .int (nI tot), .int (nI lat), .int se, .int sw])), (aCl, .inl (g.2.1 0, 495, .inl (nIf li))), (aCc, .inl (g.2.1 0, 495, .inl (nIf (fun p => cr p + (if la = 0 then 0 else mn * li p / la)))))]) (q0 := 2) rfl (fun j hj => congrArg nI (fillT_in _ _ hj)) rfl ?_
        rw [← hQ]
        refine x_vret dX0_addCrosses_39 rfl (Nat.le_of_ble_eq_true rfl) (Nat.le_of_ble_eq_true rfl) ?_
        exact ⟨rfl, rfl⟩
      · have c11 : ¬ (495 ≤ (nI i)) := c11
        have c11n := mt (nI_leI (a := 495) (b := i) (by omega) (by omega)).mpr c11
        refine x_aload_n dX0_addCrosses_14 rfl ?_
        refine x_get dX0_addCrosses_15 0 8 inX0 fl_X0_24 rfl rfl (by decide) rfl ?_
        refine x_iload_n dX0_addCrosses_18 rfl ?_
        refine x_dup2 dX0_addCrosses_19 rfl rfl ?_
        refine x_iald dX0_addCrosses_20 2 i rfl (rfl) (by omega) (by decide) ?_
        refine x_iload_n dX0_addCrosses_21 rfl ?_
        refine x_aload_n dX0_addCrosses_22 rfl ?_
        refine x_get dX0_addCrosses_23 0 5 inX0 fl_X0_15 rfl rfl (by decide) rfl ?_
        refine x_iload_n dX0_addCrosses_26 rfl ?_
        refine x_iald dX0_addCrosses_27 1 i rfl (rfl) (by omega) (by decide) ?_
        refine x_imul dX0_addCrosses_28 ?_
        refine x_rei (nI (mn * (li i))) (nI_imul mn (li i)) ?_
        refine x_iload_n dX0_addCrosses_29 rfl ?_
        refine x_idiv dX0_addCrosses_30 (nI_ne0 (by omega) (by omega)) ?_
        refine x_rei (nI (mn * li i / la)) (nI_idiv (mulb hmn (hli i (by omega))) hla) ?_
        refine x_iadd dX0_addCrosses_31 ?_
        refine x_rei (nI (((fillT i (fun p => cr p + (if la = 0 then 0 else mn * li p / la)) cr) i) + (mn * li i / la))) (nI_iadd ((fillT i (fun p => cr p + (if la = 0 then 0 else mn * li p / la)) cr) i) (mn * li i / la)) ?_
        refine x_iast (ws' := [(aC, .inr (0, [.ref aS, .ref aL, .ref aV, .ref aO, .ref aCs, .ref aCl, .ref aCh, .ref aCw, .ref aCc, .ref aCb, .int (nI tot), .int (nI lat), .int se, .int sw])), (aCl, .inl (g.2.1 0, 495, .inl (nIf li))), (aCc, .inl (g.2.1 0, 495, .inl (nIf (updN (fillT i (fun p => cr p + (if la = 0 then 0 else mn * li p / la)) cr) i (((fillT i (fun p => cr p + (if la = 0 then 0 else mn * li p / la)) cr) i) + (mn * li i / la))))))]) dX0_addCrosses_32 2 i rfl (rfl) (by omega) (by decide) (by rw [upd_nIf]; rfl) ?_
        refine x_iinc (lv' := [some (.ref aC), some (.int (nI mn)), some (.int (nI la)), some (.int (nI (i + 1)))]) (nI (i + 1)) dX0_addCrosses_33 rfl (nI_addc i 1 rfl) rfl ?_
        refine x_goto dX0_addCrosses_36 ?_
        exact ih7 (by omega) (updN (fillT i (fun p => cr p + (if la = 0 then 0 else mn * li p / la)) cr) i (((fillT i (fun p => cr p + (if la = 0 then 0 else mn * li p / la)) cr) i) + (mn * li i / la))) (by rw [fillT_out _ _ (Nat.lt_irrefl i), ← fillT_updN]; simp only [if_neg (show ¬ la = 0 by omega)])
    exact L7_1 0 (Nat.zero_le _) cr (by exact (fillT_0 _ _).symm)
  · have c1 : ¬ (0 < (nI la)) := c1
    have c1n := mt (nI_ltI (a := 0) (b := la) (by omega) (by omega)).mpr c1
    rw [← hQ]
    refine x_vret dX0_addCrosses_4 rfl (Nat.le_of_ble_eq_true rfl) (Nat.le_of_ble_eq_true rfl) ?_
    exact ⟨rfl, by rw [show (fun p => cr p + (if la = 0 then 0 else mn * li p / la)) = cr from by funext p; rw [if_pos (by omega)]; rfl]⟩

-- == X0_stir ==
theorem dX0_stir_0 : xd cX0_stir 0 (.aload_n 0) 1 1 := ⟨by decide +kernel, rfl⟩
theorem dX0_stir_1 : xd cX0_stir 1 (.iconst 0) 1 2 := ⟨by decide +kernel, rfl⟩
theorem dX0_stir_2 : xd cX0_stir 2 (.putfield 51) 3 5 := ⟨by decide +kernel, rfl⟩
theorem dX0_stir_5 : xd cX0_stir 5 (.aload_n 0) 1 6 := ⟨by decide +kernel, rfl⟩
theorem dX0_stir_6 : xd cX0_stir 6 (.iconst 0) 1 7 := ⟨by decide +kernel, rfl⟩
theorem dX0_stir_7 : xd cX0_stir 7 (.putfield 55) 3 10 := ⟨by decide +kernel, rfl⟩
theorem dX0_stir_10 : xd cX0_stir 10 .return_ 1 11 := ⟨by decide +kernel, rfl⟩

set_option maxRecDepth 100000 in
set_option maxHeartbeats 4000000 in
theorem ct_X0_stir (l : Launch) (g : XG) (aC aS aL aV aO aCs aCl aCh aCw aCc aCb tot lat : Nat) (se sw : Int32) : Ct l g 1 0 0 yX0_stir cX0_stir 1 none [.ref aC] [(aC, .inr (0, [.ref aS, .ref aL, .ref aV, .ref aO, .ref aCs, .ref aCl, .ref aCh, .ref aCw, .ref aCc, .ref aCb, .int (nI tot), .int (nI lat), .int se, .int sw]))] (xpv [(aC, .inr (0, [.ref aS, .ref aL, .ref aV, .ref aO, .ref aCs, .ref aCl, .ref aCh, .ref aCw, .ref aCc, .ref aCb, .int (nI tot), .int (nI lat), .int 0, .int 0]))]) := by
  refine Ct.ofX (lv := [some (.ref aC)]) (by decide) rfl (Nat.le_of_ble_eq_true rfl) (fun κ => ?_)
  generalize hQ : xQ κ g 0 0 _ = Q
  refine x_aload_n dX0_stir_0 rfl ?_
  refine x_iconst 0 dX0_stir_1 (by decide) ?_
  refine x_put (ws' := [(aC, .inr (0, [.ref aS, .ref aL, .ref aV, .ref aO, .ref aCs, .ref aCl, .ref aCh, .ref aCw, .ref aCc, .ref aCb, .int (nI tot), .int (nI lat), .int 0, .int sw]))]) dX0_stir_2 0 12 inX0 tyX0_ok nmX0 fl_X0_51 rfl rfl (by decide) rfl (rfl) rfl (xlt rfl) rfl ?_
  refine x_aload_n dX0_stir_5 rfl ?_
  refine x_iconst 0 dX0_stir_6 (by decide) ?_
  refine x_put (ws' := [(aC, .inr (0, [.ref aS, .ref aL, .ref aV, .ref aO, .ref aCs, .ref aCl, .ref aCh, .ref aCw, .ref aCc, .ref aCb, .int (nI tot), .int (nI lat), .int 0, .int 0]))]) dX0_stir_7 0 13 inX0 tyX0_ok nmX0 fl_X0_55 rfl rfl (by decide) rfl (rfl) rfl (xlt rfl) rfl ?_
  rw [← hQ]
  refine x_vret dX0_stir_10 rfl (Nat.le_of_ble_eq_true rfl) (Nat.le_of_ble_eq_true rfl) ?_
  exact ⟨rfl, rfl⟩

