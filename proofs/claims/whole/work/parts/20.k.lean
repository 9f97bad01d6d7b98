def layN (b n : Nat) : Nat := if b = 0 then 0 else n
theorem lay_sz {b n : Nat} (hb : b < 2 ^ 31) (hn : n ≤ 40) : (if nI b = 0 then (0 : Int32) else (if 0 < (if 40 < nI n then 40 else nI n) then (if 40 < nI n then 40 else nI n) else 0)) = nI (layN b n) := by
  have h1 : ¬ (40 : Int32) < nI n := nI_nlt (a := 40) (b := n) hn (by decide)
  simp only [if_neg h1, nI_eq0 hb, layN]
  by_cases h : b = 0
  · simp [h]; rfl
  · simp only [if_neg h]
    by_cases h2 : n = 0
    · subst h2; rfl
    · have h0 : (0 : Int32) < nI n := nI_lt (a := 0) (b := n) (by omega) (by omega)
      rw [if_pos h0]
def hdI (sz : Nat) (f n : Int32) : Int32 := if f < 0 then 0 else (if n < 0 then 0 else (if nI sz < f then 0 else (if nI sz - f < n then 0 else 1)))
theorem z01' {v : Int32} (h : v = 0 ∨ v = 1) : narrow .boolean (.int v) = .int v := z01 h
theorem hdI01 (sz : Nat) (f n : Int32) : hdI sz f n = 0 ∨ hdI sz f n = 1 := by
  unfold hdI; repeat' split
  all_goals simp
def wdI (w : Int32) : Int32 := if w = 8 then 1 else (if w = 16 then 1 else (if w = 64 then 1 else 0))
theorem wdI01 (w : Int32) : wdI w = 0 ∨ wdI w = 1 := by
  unfold wdI; repeat' split
  all_goals simp
def narL (b : Nat) (v : Int64) : Int64 := if b = 8 then v.toInt32.toInt8.toInt32.toInt64 else if b = 16 then v.toInt32.toInt16.toInt32.toInt64 else v
def fndI (f : Nat) : Int32 := (-1000000001) - nI f
def isRowI (x : Int64) : Int32 := if lg_cmp x 0 < 0 then 0 else (if 0 < lg_cmp x 4095 then 0 else (if bcI x.toInt32 = 4 then 1 else 0))
theorem isRowI01 (x : Int64) : isRowI x = 0 ∨ isRowI x = 1 := by
  unfold isRowI; repeat' split
  all_goals simp
def udI (kd : Nat) (ab : Int32) : Int32 := match kd with
  | 0 => if 0 = ab then 1 else 0
  | 1 => if 1 = ab then 1 else (if 0 = ab then 1 else 0)
  | 2 => if 2 = ab then 1 else (if 0 = ab then 1 else 0)
  | 3 => if 3 = ab then 1 else (if 0 = ab then 1 else 0)
  | 4 => if 4 = ab then 1 else (if 0 = ab then 1 else 0)
  | 5 => if 5 = ab then 1 else (if 1 = ab then 1 else (if 0 = ab then 1 else 0))
  | 6 => if 6 = ab then 1 else (if 3 = ab then 1 else (if 0 = ab then 1 else 0))
  | _ => if 7 = ab then 1 else (if 6 = ab then 1 else (if 3 = ab then 1 else (if 0 = ab then 1 else 0)))
def zT (z : Int32) : Nat → Int32
  | 0 => z
  | i + 1 => zT z i * 1103515245 + 12345
def lotN (z : Int32) : Nat := z.toUInt32.toNat / 65536 % 12
theorem lotN_lt (z : Int32) : lotN z < 12 := Nat.mod_lt _ (by decide)
def dT (z : Int32) : Nat → Nat
  | 0 => 0
  | i + 1 => dT z i ||| 2 ^ lotN (zT z (i + 1))
theorem ush16 (z : Int32) : (z.toUInt32 >>> ((16 : Int32).toUInt32 &&& Int32.toUInt32 31)).toInt32 = nI (z.toUInt32.toNat / 65536) := by
  apply Int32.toBitVec_inj.mp
  apply BitVec.eq_of_toNat_eq
  show (z.toUInt32 >>> ((16 : Int32).toUInt32 &&& Int32.toUInt32 31)).toNat = (BitVec.ofNat 32 (z.toUInt32.toNat / 65536)).toNat
  rw [show ((16 : Int32).toUInt32 &&& Int32.toUInt32 31) = 16 from by decide, UInt32.toNat_shiftRight, show (16 : UInt32).toNat % 32 = 16 from rfl, BitVec.toNat_ofNat, Nat.shiftRight_eq_div_pow]
  have h := z.toUInt32.toNat_lt
  have h2 : z.toUInt32.toNat / 65536 < 2 ^ 32 := by omega
  rw [Nat.mod_eq_of_lt h2]
theorem pow12 : ∀ k : Fin 12, (1 : Int32) <<< (nI k &&& 31) = nI (2 ^ (k : Nat)) := by decide +kernel
theorem lot_eq (z : Int32) : (1 : Int32) <<< (((z.toUInt32 >>> ((16 : Int32).toUInt32 &&& Int32.toUInt32 31)).toInt32 - (z.toUInt32 >>> ((16 : Int32).toUInt32 &&& Int32.toUInt32 31)).toInt32 / 12 * 12) &&& 31) = nI (2 ^ lotN z) := by
  rw [ush16]
  have h := z.toUInt32.toNat_lt
  have h2 : z.toUInt32.toNat / 65536 < 2 ^ 31 := by omega
  generalize hq : z.toUInt32.toNat / 65536 = q at h2
  have e : nI q - nI q / 12 * 12 = nI (q % 12) := by
    rw [show nI q / 12 = nI (q / 12) from nI_idiv (b := 12) h2 (by decide), show nI (q / 12) * 12 = nI (q / 12 * 12) from nI_imul (q / 12) 12, nI_isub _ _ (by omega)]
    congr 1; omega
  rw [e]
  have : lotN z = q % 12 := by unfold lotN; rw [hq]
  rw [this]
  exact pow12 ⟨q % 12, Nat.mod_lt _ (by decide)⟩
theorem or_lt12 {a k : Nat} (ha : a < 4096) (hk : k < 12) : a ||| 2 ^ k < 4096 := Nat.or_lt_two_pow (n := 12) ha (Nat.pow_lt_pow_right (by decide) hk)
theorem dT_lt (z : Int32) : ∀ i, dT z i < 4096
  | 0 => by show 0 < 4096; decide
  | i + 1 => or_lt12 (dT_lt z i) (lotN_lt _)

-- == X6_becomes ==
theorem dX6_becomes_0 : xd cX6_becomes 0 (.aload_n 1) 1 1 := ⟨by decide +kernel, rfl⟩
theorem dX6_becomes_1 : xd cX6_becomes 1 (.getfield 9) 3 4 := ⟨by decide +kernel, rfl⟩
theorem dX6_becomes_4 : xd cX6_becomes 4 (.iconst 0) 1 5 := ⟨by decide +kernel, rfl⟩
theorem dX6_becomes_5 : xd cX6_becomes 5 (.aload_n 0) 1 6 := ⟨by decide +kernel, rfl⟩
theorem dX6_becomes_6 : xd cX6_becomes 6 (.getfield 9) 3 9 := ⟨by decide +kernel, rfl⟩
theorem dX6_becomes_9 : xd cX6_becomes 9 (.iconst 0) 1 10 := ⟨by decide +kernel, rfl⟩
theorem dX6_becomes_10 : xd cX6_becomes 10 (.bipush 12) 2 12 := ⟨by decide +kernel, rfl⟩
theorem dX6_becomes_12 : xd cX6_becomes 12 (.invokestatic 40) 3 15 := ⟨by decide +kernel, rfl⟩
theorem dX6_becomes_15 : xd cX6_becomes 15 (.aload_n 1) 1 16 := ⟨by decide +kernel, rfl⟩
theorem dX6_becomes_16 : xd cX6_becomes 16 (.getfield 15) 3 19 := ⟨by decide +kernel, rfl⟩
theorem dX6_becomes_19 : xd cX6_becomes 19 (.iconst 0) 1 20 := ⟨by decide +kernel, rfl⟩
theorem dX6_becomes_20 : xd cX6_becomes 20 (.aload_n 0) 1 21 := ⟨by decide +kernel, rfl⟩
theorem dX6_becomes_21 : xd cX6_becomes 21 (.getfield 15) 3 24 := ⟨by decide +kernel, rfl⟩
theorem dX6_becomes_24 : xd cX6_becomes 24 (.iconst 0) 1 25 := ⟨by decide +kernel, rfl⟩
theorem dX6_becomes_25 : xd cX6_becomes 25 (.bipush 12) 2 27 := ⟨by decide +kernel, rfl⟩
theorem dX6_becomes_27 : xd cX6_becomes 27 (.invokestatic 40) 3 30 := ⟨by decide +kernel, rfl⟩
theorem dX6_becomes_30 : xd cX6_becomes 30 (.aload_n 1) 1 31 := ⟨by decide +kernel, rfl⟩
theorem dX6_becomes_31 : xd cX6_becomes 31 (.getfield 18) 3 34 := ⟨by decide +kernel, rfl⟩
theorem dX6_becomes_34 : xd cX6_becomes 34 (.iconst 0) 1 35 := ⟨by decide +kernel, rfl⟩
theorem dX6_becomes_35 : xd cX6_becomes 35 (.aload_n 0) 1 36 := ⟨by decide +kernel, rfl⟩
theorem dX6_becomes_36 : xd cX6_becomes 36 (.getfield 18) 3 39 := ⟨by decide +kernel, rfl⟩
theorem dX6_becomes_39 : xd cX6_becomes 39 (.iconst 0) 1 40 := ⟨by decide +kernel, rfl⟩
theorem dX6_becomes_40 : xd cX6_becomes 40 (.bipush 40) 2 42 := ⟨by decide +kernel, rfl⟩
theorem dX6_becomes_42 : xd cX6_becomes 42 (.invokestatic 40) 3 45 := ⟨by decide +kernel, rfl⟩
theorem dX6_becomes_45 : xd cX6_becomes 45 (.aload_n 1) 1 46 := ⟨by decide +kernel, rfl⟩
theorem dX6_becomes_46 : xd cX6_becomes 46 (.getfield 21) 3 49 := ⟨by decide +kernel, rfl⟩
theorem dX6_becomes_49 : xd cX6_becomes 49 (.iconst 0) 1 50 := ⟨by decide +kernel, rfl⟩
theorem dX6_becomes_50 : xd cX6_becomes 50 (.aload_n 0) 1 51 := ⟨by decide +kernel, rfl⟩
theorem dX6_becomes_51 : xd cX6_becomes 51 (.getfield 21) 3 54 := ⟨by decide +kernel, rfl⟩
theorem dX6_becomes_54 : xd cX6_becomes 54 (.iconst 0) 1 55 := ⟨by decide +kernel, rfl⟩
theorem dX6_becomes_55 : xd cX6_becomes 55 (.bipush 40) 2 57 := ⟨by decide +kernel, rfl⟩
theorem dX6_becomes_57 : xd cX6_becomes 57 (.invokestatic 40) 3 60 := ⟨by decide +kernel, rfl⟩
theorem dX6_becomes_60 : xd cX6_becomes 60 (.aload_n 1) 1 61 := ⟨by decide +kernel, rfl⟩
theorem dX6_becomes_61 : xd cX6_becomes 61 (.getfield 24) 3 64 := ⟨by decide +kernel, rfl⟩
theorem dX6_becomes_64 : xd cX6_becomes 64 (.iconst 0) 1 65 := ⟨by decide +kernel, rfl⟩
theorem dX6_becomes_65 : xd cX6_becomes 65 (.aload_n 0) 1 66 := ⟨by decide +kernel, rfl⟩
theorem dX6_becomes_66 : xd cX6_becomes 66 (.getfield 24) 3 69 := ⟨by decide +kernel, rfl⟩
theorem dX6_becomes_69 : xd cX6_becomes 69 (.iconst 0) 1 70 := ⟨by decide +kernel, rfl⟩
theorem dX6_becomes_70 : xd cX6_becomes 70 (.bipush 60) 2 72 := ⟨by decide +kernel, rfl⟩
theorem dX6_becomes_72 : xd cX6_becomes 72 (.invokestatic 40) 3 75 := ⟨by decide +kernel, rfl⟩
theorem dX6_becomes_75 : xd cX6_becomes 75 (.aload_n 1) 1 76 := ⟨by decide +kernel, rfl⟩
theorem dX6_becomes_76 : xd cX6_becomes 76 (.getfield 27) 3 79 := ⟨by decide +kernel, rfl⟩
theorem dX6_becomes_79 : xd cX6_becomes 79 (.iconst 0) 1 80 := ⟨by decide +kernel, rfl⟩
theorem dX6_becomes_80 : xd cX6_becomes 80 (.aload_n 0) 1 81 := ⟨by decide +kernel, rfl⟩
theorem dX6_becomes_81 : xd cX6_becomes 81 (.getfield 27) 3 84 := ⟨by decide +kernel, rfl⟩
theorem dX6_becomes_84 : xd cX6_becomes 84 (.iconst 0) 1 85 := ⟨by decide +kernel, rfl⟩
theorem dX6_becomes_85 : xd cX6_becomes 85 (.bipush 8) 2 87 := ⟨by decide +kernel, rfl⟩
theorem dX6_becomes_87 : xd cX6_becomes 87 (.invokestatic 40) 3 90 := ⟨by decide +kernel, rfl⟩
theorem dX6_becomes_90 : xd cX6_becomes 90 (.aload_n 1) 1 91 := ⟨by decide +kernel, rfl⟩
theorem dX6_becomes_91 : xd cX6_becomes 91 (.getfield 30) 3 94 := ⟨by decide +kernel, rfl⟩
theorem dX6_becomes_94 : xd cX6_becomes 94 (.iconst 0) 1 95 := ⟨by decide +kernel, rfl⟩
theorem dX6_becomes_95 : xd cX6_becomes 95 (.aload_n 0) 1 96 := ⟨by decide +kernel, rfl⟩
theorem dX6_becomes_96 : xd cX6_becomes 96 (.getfield 30) 3 99 := ⟨by decide +kernel, rfl⟩
theorem dX6_becomes_99 : xd cX6_becomes 99 (.iconst 0) 1 100 := ⟨by decide +kernel, rfl⟩
theorem dX6_becomes_100 : xd cX6_becomes 100 (.sipush 320) 3 103 := ⟨by decide +kernel, rfl⟩
theorem dX6_becomes_103 : xd cX6_becomes 103 (.invokestatic 40) 3 106 := ⟨by decide +kernel, rfl⟩
theorem dX6_becomes_106 : xd cX6_becomes 106 (.aload_n 0) 1 107 := ⟨by decide +kernel, rfl⟩
theorem dX6_becomes_107 : xd cX6_becomes 107 (.aload_n 1) 1 108 := ⟨by decide +kernel, rfl⟩
theorem dX6_becomes_108 : xd cX6_becomes 108 (.getfield 46) 3 111 := ⟨by decide +kernel, rfl⟩
theorem dX6_becomes_111 : xd cX6_becomes 111 (.putfield 46) 3 114 := ⟨by decide +kernel, rfl⟩
theorem dX6_becomes_114 : xd cX6_becomes 114 (.aload_n 0) 1 115 := ⟨by decide +kernel, rfl⟩
theorem dX6_becomes_115 : xd cX6_becomes 115 (.aload_n 1) 1 116 := ⟨by decide +kernel, rfl⟩
theorem dX6_becomes_116 : xd cX6_becomes 116 (.getfield 49) 3 119 := ⟨by decide +kernel, rfl⟩
theorem dX6_becomes_119 : xd cX6_becomes 119 (.putfield 49) 3 122 := ⟨by decide +kernel, rfl⟩
theorem dX6_becomes_122 : xd cX6_becomes 122 (.aload_n 0) 1 123 := ⟨by decide +kernel, rfl⟩
theorem dX6_becomes_123 : xd cX6_becomes 123 (.aload_n 1) 1 124 := ⟨by decide +kernel, rfl⟩
theorem dX6_becomes_124 : xd cX6_becomes 124 (.getfield 52) 3 127 := ⟨by decide +kernel, rfl⟩
theorem dX6_becomes_127 : xd cX6_becomes 127 (.putfield 52) 3 130 := ⟨by decide +kernel, rfl⟩
theorem dX6_becomes_130 : xd cX6_becomes 130 (.aload_n 0) 1 131 := ⟨by decide +kernel, rfl⟩
theorem dX6_becomes_131 : xd cX6_becomes 131 (.aload_n 1) 1 132 := ⟨by decide +kernel, rfl⟩
theorem dX6_becomes_132 : xd cX6_becomes 132 (.getfield 55) 3 135 := ⟨by decide +kernel, rfl⟩
theorem dX6_becomes_135 : xd cX6_becomes 135 (.putfield 55) 3 138 := ⟨by decide +kernel, rfl⟩
theorem dX6_becomes_138 : xd cX6_becomes 138 (.aload_n 0) 1 139 := ⟨by decide +kernel, rfl⟩
theorem dX6_becomes_139 : xd cX6_becomes 139 (.aload_n 1) 1 140 := ⟨by decide +kernel, rfl⟩
theorem dX6_becomes_140 : xd cX6_becomes 140 (.getfield 33) 3 143 := ⟨by decide +kernel, rfl⟩
theorem dX6_becomes_143 : xd cX6_becomes 143 (.putfield 33) 3 146 := ⟨by decide +kernel, rfl⟩
theorem dX6_becomes_146 : xd cX6_becomes 146 .return_ 1 147 := ⟨by decide +kernel, rfl⟩

set_option maxRecDepth 100000 in
set_option maxHeartbeats 4000000 in
theorem ct_X6_becomes (l : Launch) (g : XG) (aS aSk aSm aSp aSt aSc aSr aSe : Nat) (ki ma bp bt : Nat → Nat) (co : Nat → Int32) (ru : Nat → Nat) (ce : Nat → Int32) (gr br cs wk : Nat) (z : Int32) (aK aKk aKm aKp aKt aKc aKr aKe : Nat) (kki kma kbp kbt kru : Nat → Nat) (kco kce : Nat → Int32) (kgr kbr kcs kwk : Nat) (kz : Int32) : Ct l g 1 0 0 yX6_becomes cX6_becomes 2 none [.ref aS, .ref aK] [(aS, .inr (6, [.ref aSk, .ref aSm, .ref aSp, .ref aSt, .ref aSc, .ref aSr, .ref aSe, .int (nI gr), .int (nI br), .int (nI cs), .int (nI wk), .int z])), (aSk, .inl (g.2.1 0, 12, .inl (nIf ki))), (aSm, .inl (g.2.1 0, 12, .inl (nIf ma))), (aSp, .inl (g.2.1 0, 40, .inl (nIf bp))), (aSt, .inl (g.2.1 0, 40, .inl (nIf bt))), (aSc, .inl (g.2.1 0, 60, .inl co)), (aSr, .inl (g.2.1 0, 8, .inl (nIf ru))), (aSe, .inl (g.2.1 0, 320, .inl ce)), (aK, .inr (6, [.ref aKk, .ref aKm, .ref aKp, .ref aKt, .ref aKc, .ref aKr, .ref aKe, .int (nI kgr), .int (nI kbr), .int (nI kcs), .int (nI kwk), .int kz])), (aKk, .inl (g.2.1 0, 12, .inl (nIf kki))), (aKm, .inl (g.2.1 0, 12, .inl (nIf kma))), (aKp, .inl (g.2.1 0, 40, .inl (nIf kbp))), (aKt, .inl (g.2.1 0, 40, .inl (nIf kbt))), (aKc, .inl (g.2.1 0, 60, .inl kco)), (aKr, .inl (g.2.1 0, 8, .inl (nIf kru))), (aKe, .inl (g.2.1 0, 320, .inl kce))] (xpv [(aS, .inr (6, [.ref aSk, .ref aSm, .ref aSp, .ref aSt, .ref aSc, .ref aSr, .ref aSe, .int (nI kgr), .int (nI kbr), .int (nI kcs), .int (nI kwk), .int kz])), (aSk, .inl (g.2.1 0, 12, .inl (nIf kki))), (aSm, .inl (g.2.1 0, 12, .inl (nIf kma))), (aSp, .inl (g.2.1 0, 40, .inl (nIf kbp))), (aSt, .inl (g.2.1 0, 40, .inl (nIf kbt))), (aSc, .inl (g.2.1 0, 60, .inl kco)), (aSr, .inl (g.2.1 0, 8, .inl (nIf kru))), (aSe, .inl (g.2.1 0, 320, .inl kce)), (aK, .inr (6, [.ref aKk, .ref aKm, .ref aKp, .ref aKt, .ref aKc, .ref aKr, .ref aKe, .int (nI kgr), .int (nI kbr), .int (nI kcs), .int (nI kwk), .int kz])), (aKk, .inl (g.2.1 0, 12, .inl (nIf kki))), (aKm, .inl (g.2.1 0, 12, .inl (nIf kma))), (aKp, .inl (g.2.1 0, 40, .inl (nIf kbp))), (aKt, .inl (g.2.1 0, 40, .inl (nIf kbt))), (aKc, .inl (g.2.1 0, 60, .inl kco)), (aKr, .inl (g.2.1 0, 8, .inl (nIf kru))), (aKe, .inl (g.2.1 0, 320, .inl kce))]) := by
  refine Ct.ofX (lv := [some (.ref aS), some (.ref aK)]) (by decide) rfl (Nat.le_of_ble_eq_true rfl) (fun κ => ?_)
  generalize hQ : xQ κ g 0 0 _ = Q
  refine x_aload_n dX6_becomes_0 rfl ?_
  refine x_get dX6_becomes_1 8 0 inX6 fl_X6_9 rfl rfl (by decide) rfl ?_
  refine x_iconst 0 dX6_becomes_4 (by decide) ?_
  refine x_aload_n dX6_becomes_5 rfl ?_
  refine x_get dX6_becomes_6 0 0 inX6 fl_X6_9 rfl rfl (by decide) rfl ?_
  refine x_iconst 0 dX6_becomes_9 (by decide) ?_
  refine x_bipush 12 dX6_becomes_10 (by decide) ?_
  refine x_copyi (ti := 0) (ws' := [(aS, .inr (6, [.ref aSk, .ref aSm, .ref aSp, .ref aSt, .ref aSc, .ref aSr, .ref aSe, .int (nI gr), .int (nI br), .int (nI cs), .int (nI wk), .int z])), (aSk, .inl (g.2.1 0, 12, .inl (va_cpy (nIf kki) (nIf ki) 0 0 12))), (aSm, .inl (g.2.1 0, 12, .inl (nIf ma))), (aSp, .inl (g.2.1 0, 40, .inl (nIf bp))), (aSt, .inl (g.2.1 0, 40, .inl (nIf bt))), (aSc, .inl (g.2.1 0, 60, .inl co)), (aSr, .inl (g.2.1 0, 8, .inl (nIf ru))), (aSe, .inl (g.2.1 0, 320, .inl ce)), (aK, .inr (6, [.ref aKk, .ref aKm, .ref aKp, .ref aKt, .ref aKc, .ref aKr, .ref aKe, .int (nI kgr), .int (nI kbr), .int (nI kcs), .int (nI kwk), .int kz])), (aKk, .inl (g.2.1 0, 12, .inl (nIf kki))), (aKm, .inl (g.2.1 0, 12, .inl (nIf kma))), (aKp, .inl (g.2.1 0, 40, .inl (nIf kbp))), (aKt, .inl (g.2.1 0, 40, .inl (nIf kbt))), (aKc, .inl (g.2.1 0, 60, .inl kco)), (aKr, .inl (g.2.1 0, 8, .inl (nIf kru))), (aKe, .inl (g.2.1 0, 320, .inl kce))]) (sp := 0) (dp := 0) (n := 12) dX6_becomes_12 ml_X6_40 9 1 rfl rfl rfl rfl rfl (rfl) (rfl) (rfl) (by omega) (by omega) ⟨by decide, by decide⟩ (fun _ _ => rfl) (Nat.le_of_ble_eq_true rfl) (by decide) rfl ?_
  refine x_funi (ws' := [(aS, .inr (6, [.ref aSk, .ref aSm, .ref aSp, .ref aSt, .ref aSc, .ref aSr, .ref aSe, .int (nI gr), .int (nI br), .int (nI cs), .int (nI wk), .int z])), (aSk, .inl (g.2.1 0, 12, .inl (nIf kki))), (aSm, .inl (g.2.1 0, 12, .inl (nIf ma))), (aSp, .inl (g.2.1 0, 40, .inl (nIf bp))), (aSt, .inl (g.2.1 0, 40, .inl (nIf bt))), (aSc, .inl (g.2.1 0, 60, .inl co)), (aSr, .inl (g.2.1 0, 8, .inl (nIf ru))), (aSe, .inl (g.2.1 0, 320, .inl ce)), (aK, .inr (6, [.ref aKk, .ref aKm, .ref aKp, .ref aKt, .ref aKc, .ref aKr, .ref aKe, .int (nI kgr), .int (nI kbr), .int (nI kcs), .int (nI kwk), .int kz])), (aKk, .inl (g.2.1 0, 12, .inl (nIf kki))), (aKm, .inl (g.2.1 0, 12, .inl (nIf kma))), (aKp, .inl (g.2.1 0, 40, .inl (nIf kbp))), (aKt, .inl (g.2.1 0, 40, .inl (nIf kbt))), (aKc, .inl (g.2.1 0, 60, .inl kco)), (aKr, .inl (g.2.1 0, 8, .inl (nIf kru))), (aKe, .inl (g.2.1 0, 320, .inl kce))]) (q0 := 1) rfl (fun j hj => cpy_all _ _ hj) rfl ?_
  refine x_aload_n dX6_becomes_15 rfl ?_
  refine x_get dX6_becomes_16 8 1 inX6 fl_X6_15 rfl rfl (by decide) rfl ?_
  refine x_iconst 0 dX6_becomes_19 (by decide) ?_
  refine x_aload_n dX6_becomes_20 rfl ?_
  refine x_get dX6_becomes_21 0 1 inX6 fl_X6_15 rfl rfl (by decide) rfl ?_
  refine x_iconst 0 dX6_becomes_24 (by decide) ?_
  refine x_bipush 12 dX6_becomes_25 (by decide) ?_
  refine x_copyi (ti := 0) (ws' := [(aS, .inr (6, [.ref aSk, .ref aSm, .ref aSp, .ref aSt, .ref aSc, .ref aSr, .ref aSe, .int (nI gr), .int (nI br), .int (nI cs), .int (nI wk), .int z])), (aSk, .inl (g.2.1 0, 12, .inl (nIf kki))), (aSm, .inl (g.2.1 0, 12, .inl (va_cpy (nIf kma) (nIf ma) 0 0 12))), (aSp, .inl (g.2.1 0, 40, .inl (nIf bp))), (aSt, .inl (g.2.1 0, 40, .inl (nIf bt))), (aSc, .inl (g.2.1 0, 60, .inl co)), (aSr, .inl (g.2.1 0, 8, .inl (nIf ru))), (aSe, .inl (g.2.1 0, 320, .inl ce)), (aK, .inr (6, [.ref aKk, .ref aKm, .ref aKp, .ref aKt, .ref aKc, .ref aKr, .ref aKe, .int (nI kgr), .int (nI kbr), .int (nI kcs), .int (nI kwk), .int kz])), (aKk, .inl (g.2.1 0, 12, .inl (nIf kki))), (aKm, .inl (g.2.1 0, 12, .inl (nIf kma))), (aKp, .inl (g.2.1 0, 40, .inl (nIf kbp))), (aKt, .inl (g.2.1 0, 40, .inl (nIf kbt))), (aKc, .inl (g.2.1 0, 60, .inl kco)), (aKr, .inl (g.2.1 0, 8, .inl (nIf kru))), (aKe, .inl (g.2.1 0, 320, .inl kce))]) (sp := 0) (dp := 0) (n := 12) dX6_becomes_27 ml_X6_40 10 2 rfl rfl rfl rfl rfl (rfl) (rfl) (rfl) (by omega) (by omega) ⟨by decide, by decide⟩ (fun _ _ => rfl) (Nat.le_of_ble_eq_true rfl) (by decide) rfl ?_
  refine x_funi (ws' := [(aS, .inr (6, [.ref aSk, .ref aSm, .ref aSp, .ref aSt, .ref aSc, .ref aSr, .ref aSe, .int (nI gr), .int (nI br), .int (nI cs), .int (nI wk), .int z])), (aSk, .inl (g.2.1 0, 12, .inl (nIf kki))), (aSm, .inl (g.2.1 0, 12, .inl (nIf kma))), (aSp, .inl (g.2.1 0, 40, .inl (nIf bp))), (aSt, .inl (g.2.1 0, 40, .inl (nIf bt))), (aSc, .inl (g.2.1 0, 60, .inl co)), (aSr, .inl (g.2.1 0, 8, .inl (nIf ru))), (aSe, .inl (g.2.1 0, 320, .inl ce)), (aK, .inr (6, [.ref aKk, .ref aKm, .ref aKp, .ref aKt, .ref aKc, .ref aKr, .ref aKe, .int (nI kgr), .int (nI kbr), .int (nI kcs), .int (nI kwk), .int kz])), (aKk, .inl (g.2.1 0, 12, .inl (nIf kki))), (aKm, .inl (g.2.1 0, 12, .inl (nIf kma))), (aKp, .inl (g.2.1 0, 40, .inl (nIf kbp))), (aKt, .inl (g.2.1 0, 40, .inl (nIf kbt))), (aKc, .inl (g.2.1 0, 60, .inl kco)), (aKr, .inl (g.2.1 0, 8, .inl (nIf kru))), (aKe, .inl (g.2.1 0, 320, .inl kce))]) (q0 := 2) rfl (fun j hj => cpy_all _ _ hj) rfl ?_
  refine x_aload_n dX6_becomes_30 rfl ?_
  refine x_get dX6_becomes_31 8 2 inX6 fl_X6_18 rfl rfl (by decide) rfl ?_
  refine x_iconst 0 dX6_becomes_34 (by decide) ?_
  refine x_aload_n dX6_becomes_35 rfl ?_
  refine x_get dX6_becomes_36 0 2 inX6 fl_X6_18 rfl rfl (by decide) rfl ?_
  refine x_iconst 0 dX6_becomes_39 (by decide) ?_
  refine x_bipush 40 dX6_becomes_40 (by decide) ?_
  refine x_copyi (ti := 0) (ws' := [(aS, .inr (6, [.ref aSk, .ref aSm, .ref aSp, .ref aSt, .ref aSc, .ref aSr, .ref aSe, .int (nI gr), .int (nI br), .int (nI cs), .int (nI wk), .int z])), (aSk, .inl (g.2.1 0, 12, .inl (nIf kki))), (aSm, .inl (g.2.1 0, 12, .inl (nIf kma))), (aSp, .inl (g.2.1 0, 40, .inl (va_cpy (nIf kbp) (nIf bp) 0 0 40))), (aSt, .inl (g.2.1 0, 40, .inl (nIf bt))), (aSc, .inl (g.2.1 0, 60, .inl co)), (aSr, .inl (g.2.1 0, 8, .inl (nIf ru))), (aSe, .inl (g.2.1 0, 320, .inl ce)), (aK, .inr (6, [.ref aKk, .ref aKm, .ref aKp, .ref aKt, .ref aKc, .ref aKr, .ref aKe, .int (nI kgr), .int (nI kbr), .int (nI kcs), .int (nI kwk), .int kz])), (aKk, .inl (g.2.1 0, 12, .inl (nIf kki))), (aKm, .inl (g.2.1 0, 12, .inl (nIf kma))), (aKp, .inl (g.2.1 0, 40, .inl (nIf kbp))), (aKt, .inl (g.2.1 0, 40, .inl (nIf kbt))), (aKc, .inl (g.2.1 0, 60, .inl kco)), (aKr, .inl (g.2.1 0, 8, .inl (nIf kru))), (aKe, .inl (g.2.1 0, 320, .inl kce))]) (sp := 0) (dp := 0) (n := 40) dX6_becomes_42 ml_X6_40 11 3 rfl rfl rfl rfl rfl (rfl) (rfl) (rfl) (by omega) (by omega) ⟨by decide, by decide⟩ (fun _ _ => rfl) (Nat.le_of_ble_eq_true rfl) (by decide) rfl ?_
  refine x_funi (ws' := [(aS, .inr (6, [.ref aSk, .ref aSm, .ref aSp, .ref aSt, .ref aSc, .ref aSr, .ref aSe, .int (nI gr), .int (nI br), .int (nI cs), .int (nI wk), .int z])), (aSk, .inl (g.2.1 0, 12, .inl (nIf kki))), (aSm, .inl (g.2.1 0, 12, .inl (nIf kma))), (aSp, .inl (g.2.1 0, 40, .inl (nIf kbp))), (aSt, .inl (g.2.1 0, 40, .inl (nIf bt))), (aSc, .inl (g.2.1 0, 60, .inl co)), (aSr, .inl (g.2.1 0, 8, .inl (nIf ru))), (aSe, .inl (g.2.1 0, 320, .inl ce)), (aK, .inr (6, [.ref aKk, .ref aKm, .ref aKp, .ref aKt, .ref aKc, .ref aKr, .ref aKe, .int (nI kgr), .int (nI kbr), .int (nI kcs), .int (nI kwk), .int kz])), (aKk, .inl (g.2.1 0, 12, .inl (nIf kki))), (aKm, .inl (g.2.1 0, 12, .inl (nIf kma))), (aKp, .inl (g.2.1 0, 40, .inl (nIf kbp))), (aKt, .inl (g.2.1 0, 40, .inl (nIf kbt))), (aKc, .inl (g.2.1 0, 60, .inl kco)), (aKr, .inl (g.2.1 0, 8, .inl (nIf kru))), (aKe, .inl (g.2.1 0, 320, .inl kce))]) (q0 := 3) rfl (fun j hj => cpy_all _ _ hj) rfl ?_
  refine x_aload_n dX6_becomes_45 rfl ?_
  refine x_get dX6_becomes_46 8 3 inX6 fl_X6_21 rfl rfl (by decide) rfl ?_
  refine x_iconst 0 dX6_becomes_49 (by decide) ?_
  refine x_aload_n dX6_becomes_50 rfl ?_
  refine x_get dX6_becomes_51 0 3 inX6 fl_X6_21 rfl rfl (by decide) rfl ?_
  refine x_iconst 0 dX6_becomes_54 (by decide) ?_
  refine x_bipush 40 dX6_becomes_55 (by decide) ?_
  refine x_copyi (ti := 0) (ws' := [(aS, .inr (6, [.ref aSk, .ref aSm, .ref aSp, .ref aSt, .ref aSc, .ref aSr, .ref aSe, .int (nI gr), .int (nI br), .int (nI cs), .int (nI wk), .int z])), (aSk, .inl (g.2.1 0, 12, .inl (nIf kki))), (aSm, .inl (g.2.1 0, 12, .inl (nIf kma))), (aSp, .inl (g.2.1 0, 40, .inl (nIf kbp))), (aSt, .inl (g.2.1 0, 40, .inl (va_cpy (nIf kbt) (nIf bt) 0 0 40))), (aSc, .inl (g.2.1 0, 60, .inl co)), (aSr, .inl (g.2.1 0, 8, .inl (nIf ru))), (aSe, .inl (g.2.1 0, 320, .inl ce)), (aK, .inr (6, [.ref aKk, .ref aKm, .ref aKp, .ref aKt, .ref aKc, .ref aKr, .ref aKe, .int (nI kgr), .int (nI kbr), .int (nI kcs), .int (nI kwk), .int kz])), (aKk, .inl (g.2.1 0, 12, .inl (nIf kki))), (aKm, .inl (g.2.1 0, 12, .inl (nIf kma))), (aKp, .inl (g.2.1 0, 40, .inl (nIf kbp))), (aKt, .inl (g.2.1 0, 40, .inl (nIf kbt))), (aKc, .inl (g.2.1 0, 60, .inl kco)), (aKr, .inl (g.2.1 0, 8, .inl (nIf kru))), (aKe, .inl (g.2.1 0, 320, .inl kce))]) (sp := 0) (dp := 0) (n := 40) dX6_becomes_57 ml_X6_40 12 4 rfl rfl rfl rfl rfl (rfl) (rfl) (rfl) (by omega) (by omega) ⟨by decide, by decide⟩ (fun _ _ => rfl) (Nat.le_of_ble_eq_true rfl) (by decide) rfl ?_
  refine x_funi (ws' := [(aS, .inr (6, [.ref aSk, .ref aSm, .ref aSp, .ref aSt, .ref aSc, .ref aSr, .ref aSe, .int (nI gr), .int (nI br), .int (nI cs), .int (nI wk), .int z])), (aSk, .inl (g.2.1 0, 12, .inl (nIf kki))), (aSm, .inl (g.2.1 0, 12, .inl (nIf kma))), (aSp, .inl (g.2.1 0, 40, .inl (nIf kbp))), (aSt, .inl (g.2.1 0, 40, .inl (nIf kbt))), (aSc, .inl (g.2.1 0, 60, .inl co)), (aSr, .inl (g.2.1 0, 8, .inl (nIf ru))), (aSe, .inl (g.2.1 0, 320, .inl ce)), (aK, .inr (6, [.ref aKk, .ref aKm, .ref aKp, .ref aKt, .ref aKc, .ref aKr, .ref aKe, .int (nI kgr), .int (nI kbr), .int (nI kcs), .int (nI kwk), .int kz])), (aKk, .inl (g.2.1 0, 12, .inl (nIf kki))), (aKm, .inl (g.2.1 0, 12, .inl (nIf kma))), (aKp, .inl (g.2.1 0, 40, .inl (nIf kbp))), (aKt, .inl (g.2.1 0, 40, .inl (nIf kbt))), (aKc, .inl (g.2.1 0, 60, .inl kco)), (aKr, .inl (g.2.1 0, 8, .inl (nIf kru))), (aKe, .inl (g.2.1 0, 320, .inl kce))]) (q0 := 4) rfl (fun j hj => cpy_all _ _ hj) rfl ?_
  refine x_aload_n dX6_becomes_60 rfl ?_
  refine x_get dX6_becomes_61 8 4 inX6 fl_X6_24 rfl rfl (by decide) rfl ?_
  refine x_iconst 0 dX6_becomes_64 (by decide) ?_
  refine x_aload_n dX6_becomes_65 rfl ?_
  refine x_get dX6_becomes_66 0 4 inX6 fl_X6_24 rfl rfl (by decide) rfl ?_
  refine x_iconst 0 dX6_becomes_69 (by decide) ?_
  refine x_bipush 60 dX6_becomes_70 (by decide) ?_
  refine x_copyi (ti := 0) (ws' := [(aS, .inr (6, [.ref aSk, .ref aSm, .ref aSp, .ref aSt, .ref aSc, .ref aSr, .ref aSe, .int (nI gr), .int (nI br), .int (nI cs), .int (nI wk), .int z])), (aSk, .inl (g.2.1 0, 12, .inl (nIf kki))), (aSm, .inl (g.2.1 0, 12, .inl (nIf kma))), (aSp, .inl (g.2.1 0, 40, .inl (nIf kbp))), (aSt, .inl (g.2.1 0, 40, .inl (nIf kbt))), (aSc, .inl (g.2.1 0, 60, .inl (va_cpy kco co 0 0 60))), (aSr, .inl (g.2.1 0, 8, .inl (nIf ru))), (aSe, .inl (g.2.1 0, 320, .inl ce)), (aK, .inr (6, [.ref aKk, .ref aKm, .ref aKp, .ref aKt, .ref aKc, .ref aKr, .ref aKe, .int (nI kgr), .int (nI kbr), .int (nI kcs), .int (nI kwk), .int kz])), (aKk, .inl (g.2.1 0, 12, .inl (nIf kki))), (aKm, .inl (g.2.1 0, 12, .inl (nIf kma))), (aKp, .inl (g.2.1 0, 40, .inl (nIf kbp))), (aKt, .inl (g.2.1 0, 40, .inl (nIf kbt))), (aKc, .inl (g.2.1 0, 60, .inl kco)), (aKr, .inl (g.2.1 0, 8, .inl (nIf kru))), (aKe, .inl (g.2.1 0, 320, .inl kce))]) (sp := 0) (dp := 0) (n := 60) dX6_becomes_72 ml_X6_40 13 5 rfl rfl rfl rfl rfl (rfl) (rfl) (rfl) (by omega) (by omega) ⟨by decide, by decide⟩ (fun _ _ => rfl) (Nat.le_of_ble_eq_true rfl) (by decide) rfl ?_
  refine x_funi (ws' := [(aS, .inr (6, [.ref aSk, .ref aSm, .ref aSp, .ref aSt, .ref aSc, .ref aSr, .ref aSe, .int (nI gr), .int (nI br), .int (nI cs), .int (nI wk), .int z])), (aSk, .inl (g.2.1 0, 12, .inl (nIf kki))), (aSm, .inl (g.2.1 0, 12, .inl (nIf kma))), (aSp, .inl (g.2.1 0, 40, .inl (nIf kbp))), (aSt, .inl (g.2.1 0, 40, .inl (nIf kbt))), (aSc, .inl (g.2.1 0, 60, .inl kco)), (aSr, .inl (g.2.1 0, 8, .inl (nIf ru))), (aSe, .inl (g.2.1 0, 320, .inl ce)), (aK, .inr (6, [.ref aKk, .ref aKm, .ref aKp, .ref aKt, .ref aKc, .ref aKr, .ref aKe, .int (nI kgr), .int (nI kbr), .int (nI kcs), .int (nI kwk), .int kz])), (aKk, .inl (g.2.1 0, 12, .inl (nIf kki))), (aKm, .inl (g.2.1 0, 12, .inl (nIf kma))), (aKp, .inl (g.2.1 0, 40, .inl (nIf kbp))), (aKt, .inl (g.2.1 0, 40, .inl (nIf kbt))), (aKc, .inl (g.2.1 0, 60, .inl kco)), (aKr, .inl (g.2.1 0, 8, .inl (nIf kru))), (aKe, .inl (g.2.1 0, 320, .inl kce))]) (q0 := 5) rfl (fun j hj => cpy_all _ _ hj) rfl ?_
  refine x_aload_n dX6_becomes_75 rfl ?_
  refine x_get dX6_becomes_76 8 5 inX6 fl_X6_27 rfl rfl (by decide) rfl ?_
  refine x_iconst 0 dX6_becomes_79 (by decide) ?_
  refine x_aload_n dX6_becomes_80 rfl ?_
  refine x_get dX6_becomes_81 0 5 inX6 fl_X6_27 rfl rfl (by decide) rfl ?_
  refine x_iconst 0 dX6_becomes_84 (by decide) ?_
  refine x_bipush 8 dX6_becomes_85 (by decide) ?_
  refine x_copyi (ti := 0) (ws' := [(aS, .inr (6, [.ref aSk, .ref aSm, .ref aSp, .ref aSt, .ref aSc, .ref aSr, .ref aSe, .int (nI gr), .int (nI br), .int (nI cs), .int (nI wk), .int z])), (aSk, .inl (g.2.1 0, 12, .inl (nIf kki))), (aSm, .inl (g.2.1 0, 12, .inl (nIf kma))), (aSp, .inl (g.2.1 0, 40, .inl (nIf kbp))), (aSt, .inl (g.2.1 0, 40, .inl (nIf kbt))), (aSc, .inl (g.2.1 0, 60, .inl kco)), (aSr, .inl (g.2.1 0, 8, .inl (va_cpy (nIf kru) (nIf ru) 0 0 8))), (aSe, .inl (g.2.1 0, 320, .inl ce)), (aK, .inr (6, [.ref aKk, .ref aKm, .ref aKp, .ref aKt, .ref aKc, .ref aKr, .ref aKe, .int (nI kgr), .int (nI kbr), .int (nI kcs), .int (nI kwk), .int kz])), (aKk, .inl (g.2.1 0, 12, .inl (nIf kki))), (aKm, .inl (g.2.1 0, 12, .inl (nIf kma))), (aKp, .inl (g.2.1 0, 40, .inl (nIf kbp))), (aKt, .inl (g.2.1 0, 40, .inl (nIf kbt))), (aKc, .inl (g.2.1 0, 60, .inl kco)), (aKr, .inl (g.2.1 0, 8, .inl (nIf kru))), (aKe, .inl (g.2.1 0, 320, .inl kce))]) (sp := 0) (dp := 0) (n := 8) dX6_becomes_87 ml_X6_40 14 6 rfl rfl rfl rfl rfl (rfl) (rfl) (rfl) (by omega) (by omega) ⟨by decide, by decide⟩ (fun _ _ => rfl) (Nat.le_of_ble_eq_true rfl) (by decide) rfl ?_
  refine x_funi (ws' := [(aS, .inr (6, [.ref aSk, .ref aSm, .ref aSp, .ref aSt, .ref aSc, .ref aSr, .ref aSe, .int (nI gr), .int (nI br), .int (nI cs), .int (nI wk), .int z])), (aSk, .inl (g.2.1 0, 12, .inl (nIf kki))), (aSm, .inl (g.2.1 0, 12, .inl (nIf kma))), (aSp, .inl (g.2.1 0, 40, .inl (nIf kbp))), (aSt, .inl (g.2.1 0, 40, .inl (nIf kbt))), (aSc, .inl (g.2.1 0, 60, .inl kco)), (aSr, .inl (g.2.1 0, 8, .inl (nIf kru))), (aSe, .inl (g.2.1 0, 320, .inl ce)), (aK, .inr (6, [.ref aKk, .ref aKm, .ref aKp, .ref aKt, .ref aKc, .ref aKr, .ref aKe, .int (nI kgr), .int (nI kbr), .int (nI kcs), .int (nI kwk), .int kz])), (aKk, .inl (g.2.1 0, 12, .inl (nIf kki))), (aKm, .inl (g.2.1 0, 12, .inl (nIf kma))), (aKp, .inl (g.2.1 0, 40, .inl (nIf kbp))), (aKt, .inl (g.2.1 0, 40, .inl (nIf kbt))), (aKc, .inl (g.2.1 0, 60, .inl kco)), (aKr, .inl (g.2.1 0, 8, .inl (nIf kru))), (aKe, .inl (g.2.1 0, 320, .inl kce))]) (q0 := 6) rfl (fun j hj => cpy_all _ _ hj) rfl ?_
  refine x_aload_n dX6_becomes_90 rfl ?_
  refine x_get dX6_becomes_91 8 6 inX6 fl_X6_30 rfl rfl (by decide) rfl ?_
  refine x_iconst 0 dX6_becomes_94 (by decide) ?_
  refine x_aload_n dX6_becomes_95 rfl ?_
  refine x_get dX6_becomes_96 0 6 inX6 fl_X6_30 rfl rfl (by decide) rfl ?_
  refine x_iconst 0 dX6_becomes_99 (by decide) ?_
  refine x_sipush 320 dX6_becomes_100 (by decide) ?_
  refine x_copyi (ti := 0) (ws' := [(aS, .inr (6, [.ref aSk, .ref aSm, .ref aSp, .ref aSt, .ref aSc, .ref aSr, .ref aSe, .int (nI gr), .int (nI br), .int (nI cs), .int (nI wk), .int z])), (aSk, .inl (g.2.1 0, 12, .inl (nIf kki))), (aSm, .inl (g.2.1 0, 12, .inl (nIf kma))), (aSp, .inl (g.2.1 0, 40, .inl (nIf kbp))), (aSt, .inl (g.2.1 0, 40, .inl (nIf kbt))), (aSc, .inl (g.2.1 0, 60, .inl kco)), (aSr, .inl (g.2.1 0, 8, .inl (nIf kru))), (aSe, .inl (g.2.1 0, 320, .inl (va_cpy kce ce 0 0 320))), (aK, .inr (6, [.ref aKk, .ref aKm, .ref aKp, .ref aKt, .ref aKc, .ref aKr, .ref aKe, .int (nI kgr), .int (nI kbr), .int (nI kcs), .int (nI kwk), .int kz])), (aKk, .inl (g.2.1 0, 12, .inl (nIf kki))), (aKm, .inl (g.2.1 0, 12, .inl (nIf kma))), (aKp, .inl (g.2.1 0, 40, .inl (nIf kbp))), (aKt, .inl (g.2.1 0, 40, .inl (nIf kbt))), (aKc, .inl (g.2.1 0, 60, .inl kco)), (aKr, .inl (g.2.1 0, 8, .inl (nIf kru))), (aKe, .inl (g.2.1 0, 320, .inl kce))]) (sp := 0) (dp := 0) (n := 320) dX6_becomes_103 ml_X6_40 15 7 rfl rfl rfl rfl rfl (rfl) (rfl) (rfl) (by omega) (by omega) ⟨by decide, by decide⟩ (fun _ _ => rfl) (Nat.le_of_ble_eq_true rfl) (by decide) rfl ?_
  refine x_funi (ws' := [(aS, .inr (6, [.ref aSk, .ref aSm, .ref aSp, .ref aSt, .ref aSc, .ref aSr, .ref aSe, .int (nI gr), .int (nI br), .int (nI cs), .int (nI wk), .int z])), (aSk, .inl (g.2.1 0, 12, .inl (nIf kki))), (aSm, .inl (g.2.1 0, 12, .inl (nIf kma))), (aSp, .inl (g.2.1 0, 40, .inl (nIf kbp))), (aSt, .inl (g.2.1 0, 40, .inl (nIf kbt))), (aSc, .inl (g.2.1 0, 60, .inl kco)), (aSr, .inl (g.2.1 0, 8, .inl (nIf kru))), (aSe, .inl (g.2.1 0, 320, .inl kce)), (aK, .inr (6, [.ref aKk, .ref aKm, .ref aKp, .ref aKt, .ref aKc, .ref aKr, .ref aKe, .int (nI kgr), .int (nI kbr), .int (nI kcs), .int (nI kwk), .int kz])), (aKk, .inl (g.2.1 0, 12, .inl (nIf kki))), (aKm, .inl (g.2.1 0, 12, .inl (nIf kma))), (aKp, .inl (g.2.1 0, 40, .inl (nIf kbp))), (aKt, .inl (g.2.1 0, 40, .inl (nIf kbt))), (aKc, .inl (g.2.1 0, 60, .inl kco)), (aKr, .inl (g.2.1 0, 8, .inl (nIf kru))), (aKe, .inl (g.2.1 0, 320, .inl kce))]) (q0 := 7) rfl (fun j hj => cpy_all _ _ hj) rfl ?_
  refine x_aload_n dX6_becomes_106 rfl ?_
  refine x_aload_n dX6_becomes_107 rfl ?_
  refine x_get dX6_becomes_108 8 7 inX6 fl_X6_46 rfl rfl (by decide) rfl ?_
  refine x_put (ws' := [(aS, .inr (6, [.ref aSk, .ref aSm, .ref aSp, .ref aSt, .ref aSc, .ref aSr, .ref aSe, .int (nI kgr), .int (nI br), .int (nI cs), .int (nI wk), .int z])), (aSk, .inl (g.2.1 0, 12, .inl (nIf kki))), (aSm, .inl (g.2.1 0, 12, .inl (nIf kma))), (aSp, .inl (g.2.1 0, 40, .inl (nIf kbp))), (aSt, .inl (g.2.1 0, 40, .inl (nIf kbt))), (aSc, .inl (g.2.1 0, 60, .inl kco)), (aSr, .inl (g.2.1 0, 8, .inl (nIf kru))), (aSe, .inl (g.2.1 0, 320, .inl kce)), (aK, .inr (6, [.ref aKk, .ref aKm, .ref aKp, .ref aKt, .ref aKc, .ref aKr, .ref aKe, .int (nI kgr), .int (nI kbr), .int (nI kcs), .int (nI kwk), .int kz])), (aKk, .inl (g.2.1 0, 12, .inl (nIf kki))), (aKm, .inl (g.2.1 0, 12, .inl (nIf kma))), (aKp, .inl (g.2.1 0, 40, .inl (nIf kbp))), (aKt, .inl (g.2.1 0, 40, .inl (nIf kbt))), (aKc, .inl (g.2.1 0, 60, .inl kco)), (aKr, .inl (g.2.1 0, 8, .inl (nIf kru))), (aKe, .inl (g.2.1 0, 320, .inl kce))]) dX6_becomes_111 0 7 inX6 tyX6_ok nmX6 fl_X6_46 rfl rfl (by decide) rfl (rfl) rfl (xlt rfl) rfl ?_
  refine x_aload_n dX6_becomes_114 rfl ?_
  refine x_aload_n dX6_becomes_115 rfl ?_
  refine x_get dX6_becomes_116 8 8 inX6 fl_X6_49 rfl rfl (by decide) rfl ?_
  refine x_put (ws' := [(aS, .inr (6, [.ref aSk, .ref aSm, .ref aSp, .ref aSt, .ref aSc, .ref aSr, .ref aSe, .int (nI kgr), .int (nI kbr), .int (nI cs), .int (nI wk), .int z])), (aSk, .inl (g.2.1 0, 12, .inl (nIf kki))), (aSm, .inl (g.2.1 0, 12, .inl (nIf kma))), (aSp, .inl (g.2.1 0, 40, .inl (nIf kbp))), (aSt, .inl (g.2.1 0, 40, .inl (nIf kbt))), (aSc, .inl (g.2.1 0, 60, .inl kco)), (aSr, .inl (g.2.1 0, 8, .inl (nIf kru))), (aSe, .inl (g.2.1 0, 320, .inl kce)), (aK, .inr (6, [.ref aKk, .ref aKm, .ref aKp, .ref aKt, .ref aKc, .ref aKr, .ref aKe, .int (nI kgr), .int (nI kbr), .int (nI kcs), .int (nI kwk), .int kz])), (aKk, .inl (g.2.1 0, 12, .inl (nIf kki))), (aKm, .inl (g.2.1 0, 12, .inl (nIf kma))), (aKp, .inl (g.2.1 0, 40, .inl (nIf kbp))), (aKt, .inl (g.2.1 0, 40, .inl (nIf kbt))), (aKc, .inl (g.2.1 0, 60, .inl kco)), (aKr, .inl (g.2.1 0, 8, .inl (nIf kru))), (aKe, .inl (g.2.1 0, 320, .inl kce))]) dX6_becomes_119 0 8 inX6 tyX6_ok nmX6 fl_X6_49 rfl rfl (by decide) rfl (rfl) rfl (xlt rfl) rfl ?_
  refine x_aload_n dX6_becomes_122 rfl ?_
  refine x_aload_n dX6_becomes_123 rfl ?_
  refine x_get dX6_becomes_124 8 9 inX6 fl_X6_52 rfl rfl (by decide) rfl ?_
  refine x_put (ws' := [(aS, .inr (6, [.ref aSk, .ref aSm, .ref aSp, .ref aSt, .ref aSc, .ref aSr, .ref aSe, .int (nI kgr), .int (nI kbr), .int (nI kcs), .int (nI wk), .int z])), (aSk, .inl (g.2.1 0, 12, .inl (nIf kki))), (aSm, .inl (g.2.1 0, 12, .inl (nIf kma))), (aSp, .inl (g.2.1 0, 40, .inl (nIf kbp))), (aSt, .inl (g.2.1 0, 40, .inl (nIf kbt))), (aSc, .inl (g.2.1 0, 60, .inl kco)), (aSr, .inl (g.2.1 0, 8, .inl (nIf kru))), (aSe, .inl (g.2.1 0, 320, .inl kce)), (aK, .inr (6, [.ref aKk, .ref aKm, .ref aKp, .ref aKt, .ref aKc, .ref aKr, .ref aKe, .int (nI kgr), .int (nI kbr), .int (nI kcs), .int (nI kwk), .int kz])), (aKk, .inl (g.2.1 0, 12, .inl (nIf kki))), (aKm, .inl (g.2.1 0, 12, .inl (nIf kma))), (aKp, .inl (g.2.1 0, 40, .inl (nIf kbp))), (aKt, .inl (g.2.1 0, 40, .inl (nIf kbt))), (aKc, .inl (g.2.1 0, 60, .inl kco)), (aKr, .inl (g.2.1 0, 8, .inl (nIf kru))), (aKe, .inl (g.2.1 0, 320, .inl kce))]) dX6_becomes_127 0 9 inX6 tyX6_ok nmX6 fl_X6_52 rfl rfl (by decide) rfl (rfl) rfl (xlt rfl) rfl ?_
  refine x_aload_n dX6_becomes_130 rfl ?_
  refine x_aload_n dX6_becomes_131 rfl ?_
  refine x_get dX6_becomes_132 8 10 inX6 fl_X6_55 rfl rfl (by decide) rfl ?_
  refine x_put (ws' := [(aS, .inr (6, [.ref aSk, .ref aSm, .ref aSp, .ref aSt, .ref aSc, .ref aSr, .ref aSe, .int (nI kgr), .int (nI kbr), .int (nI kcs), .int (nI kwk), .int z])), (aSk, .inl (g.2.1 0, 12, .inl (nIf kki))), (aSm, .inl (g.2.1 0, 12, .inl (nIf kma))), (aSp, .inl (g.2.1 0, 40, .inl (nIf kbp))), (aSt, .inl (g.2.1 0, 40, .inl (nIf kbt))), (aSc, .inl (g.2.1 0, 60, .inl kco)), (aSr, .inl (g.2.1 0, 8, .inl (nIf kru))), (aSe, .inl (g.2.1 0, 320, .inl kce)), (aK, .inr (6, [.ref aKk, .ref aKm, .ref aKp, .ref aKt, .ref aKc, .ref aKr, .ref aKe, .int (nI kgr), .int (nI kbr), .int (nI kcs), .int (nI kwk), .int kz])), (aKk, .inl (g.2.1 0, 12, .inl (nIf kki))), (aKm, .inl (g.2.1 0, 12, .inl (nIf kma))), (aKp, .inl (g.2.1 0, 40, .inl (nIf kbp))), (aKt, .inl (g.2.1 0, 40, .inl (nIf kbt))), (aKc, .inl (g.2.1 0, 60, .inl kco)), (aKr, .inl (g.2.1 0, 8, .inl (nIf kru))), (aKe, .inl (g.2.1 0, 320, .inl kce))]) dX6_becomes_135 0 10 inX6 tyX6_ok nmX6 fl_X6_55 rfl rfl (by decide) rfl (rfl) rfl (xlt rfl) rfl ?_
  refine x_aload_n dX6_becomes_138 rfl ?_
  refine x_aload_n dX6_becomes_139 rfl ?_
  refine x_get dX6_becomes_140 8 11 inX6 fl_X6_33 rfl rfl (by decide) rfl ?_
  refine x_put (ws' := [(aS, .inr (6, [.ref aSk, .ref aSm, .ref aSp, .ref aSt, .ref aSc, .ref aSr, .ref aSe, .int (nI kgr), .int (nI kbr), .int (nI kcs), .int (nI kwk), .int kz])), (aSk, .inl (g.2.1 0, 12, .inl (nIf kki))), (aSm, .inl (g.2.1 0, 12, .inl (nIf kma))), (aSp, .inl (g.2.1 0, 40, .inl (nIf kbp))), (aSt, .inl (g.2.1 0, 40, .inl (nIf kbt))), (aSc, .inl (g.2.1 0, 60, .inl kco)), (aSr, .inl (g.2.1 0, 8, .inl (nIf kru))), (aSe, .inl (g.2.1 0, 320, .inl kce)), (aK, .inr (6, [.ref aKk, .ref aKm, .ref aKp, .ref aKt, .ref aKc, .ref aKr, .ref aKe, .int (nI kgr), .int (nI kbr), .int (nI kcs), .int (nI kwk), .int kz])), (aKk, .inl (g.2.1 0, 12, .inl (nIf kki))), (aKm, .inl (g.2.1 0, 12, .inl (nIf kma))), (aKp, .inl (g.2.1 0, 40, .inl (nIf kbp))), (aKt, .inl (g.2.1 0, 40, .inl (nIf kbt))), (aKc, .inl (g.2.1 0, 60, .inl kco)), (aKr, .inl (g.2.1 0, 8, .inl (nIf kru))), (aKe, .inl (g.2.1 0, 320, .inl kce))]) dX6_becomes_143 0 11 inX6 tyX6_ok nmX6 fl_X6_33 rfl rfl (by decide) rfl (rfl) rfl (xlt rfl) rfl ?_
  rw [← hQ]
  refine x_vret dX6_becomes_146 rfl (Nat.le_of_ble_eq_true rfl) (Nat.le_of_ble_eq_true rfl) ?_
  exact ⟨rfl, rfl⟩

-- == X4_isWidth ==
theorem dX4_isWidth_0 : xd cX4_isWidth 0 (.iload_n 0) 1 1 := ⟨by decide +kernel, rfl⟩
theorem dX4_isWidth_1 : xd cX4_isWidth 1 (.bipush 8) 2 3 := ⟨by decide +kernel, rfl⟩
theorem dX4_isWidth_3 : xj cX4_isWidth 3 (.if_icmp .eq) 6 18 := ⟨15, by decide +kernel, rfl, by decide⟩
theorem dX4_isWidth_6 : xd cX4_isWidth 6 (.iload_n 0) 1 7 := ⟨by decide +kernel, rfl⟩
theorem dX4_isWidth_7 : xd cX4_isWidth 7 (.bipush 16) 2 9 := ⟨by decide +kernel, rfl⟩
theorem dX4_isWidth_9 : xj cX4_isWidth 9 (.if_icmp .eq) 12 18 := ⟨9, by decide +kernel, rfl, by decide⟩
theorem dX4_isWidth_12 : xd cX4_isWidth 12 (.iload_n 0) 1 13 := ⟨by decide +kernel, rfl⟩
theorem dX4_isWidth_13 : xd cX4_isWidth 13 (.bipush 64) 2 15 := ⟨by decide +kernel, rfl⟩
theorem dX4_isWidth_15 : xj cX4_isWidth 15 (.if_icmp .ne) 18 22 := ⟨7, by decide +kernel, rfl, by decide⟩
theorem dX4_isWidth_18 : xd cX4_isWidth 18 (.iconst 1) 1 19 := ⟨by decide +kernel, rfl⟩
theorem dX4_isWidth_19 : xj cX4_isWidth 19 .goto 22 23 := ⟨4, by decide +kernel, rfl, by decide⟩
theorem dX4_isWidth_22 : xd cX4_isWidth 22 (.iconst 0) 1 23 := ⟨by decide +kernel, rfl⟩
theorem dX4_isWidth_23 : xd cX4_isWidth 23 .ireturn 1 24 := ⟨by decide +kernel, rfl⟩

set_option maxRecDepth 100000 in
set_option maxHeartbeats 4000000 in
theorem ct_X4_isWidth (l : Launch) (g : XG) (w : Int32) : Ct l g 1 0 0 yX4_isWidth cX4_isWidth 1 (some .boolean) [.int w] [] (xpi (wdI w) []) := by
  refine Ct.ofX (lv := [some (.int w)]) (by decide) rfl (Nat.le_of_ble_eq_true rfl) (fun κ => ?_)
  generalize hQ : xQ κ g 0 0 _ = Q
  refine x_iload_n dX4_isWidth_0 rfl ?_
  refine x_bipush 8 dX4_isWidth_1 (by decide) ?_
  have J3_8 : ∀ (v7 : Int32), v7 = (if w = 8 then 1 else ((if w = 16 then 1 else ((if w = 64 then 1 else 0))))) → Xs κ g 1 0 0 cX4_isWidth yX4_isWidth (some .boolean) Q 0 0 23 [some (.int w)] [.int v7] [] := by
    intro v7 ev7
    rw [← hQ]
    refine x_zret dX4_isWidth_23 rfl (by simp only [ev7]; exact z01 (wdI01 w)) (Nat.le_of_ble_eq_true rfl) (Nat.le_of_ble_eq_true rfl) ?_
    exact ⟨by simp only [ev7]; rfl, rfl⟩
  refine x_icmp_eq dX4_isWidth_3 (fun c3 => ?_) (fun c3 => ?_)
  · have c3 : w = 8 := c3
    refine x_iconst 1 dX4_isWidth_18 (by decide) ?_
    refine x_goto dX4_isWidth_19 ?_
    exact J3_8 _ (if_pos c3).symm
  · have c3 : ¬ (w = 8) := c3
    refine x_iload_n dX4_isWidth_6 rfl ?_
    refine x_bipush 16 dX4_isWidth_7 (by decide) ?_
    have J9_12 : ∀ (v11 : Int32), v11 = (if w = 16 then 1 else ((if w = 64 then 1 else 0))) → Xs κ g 1 0 0 cX4_isWidth yX4_isWidth (some .boolean) Q 0 0 23 [some (.int w)] [.int v11] [] := by
      intro v11 ev11
      exact J3_8 _ (by rw [if_neg c3]; try simp only [ev11])
    refine x_icmp_eq dX4_isWidth_9 (fun c9 => ?_) (fun c9 => ?_)
    · have c9 : w = 16 := c9
      refine x_iconst 1 dX4_isWidth_18 (by decide) ?_
      refine x_goto dX4_isWidth_19 ?_
      exact J9_12 _ (if_pos c9).symm
    · have c9 : ¬ (w = 16) := c9
      refine x_iload_n dX4_isWidth_12 rfl ?_
      refine x_bipush 64 dX4_isWidth_13 (by decide) ?_
      have J15_14 : ∀ (v13 : Int32), v13 = (if w = 64 then 1 else 0) → Xs κ g 1 0 0 cX4_isWidth yX4_isWidth (some .boolean) Q 0 0 23 [some (.int w)] [.int v13] [] := by
        intro v13 ev13
        exact J9_12 _ (by rw [if_neg c9]; try simp only [ev13])
      refine x_icmp_ne dX4_isWidth_15 (fun c15 => ?_) (fun c15 => ?_)
      · have c15 : ¬ (w = 64) := c15
        refine x_iconst 0 dX4_isWidth_22 (by decide) ?_
        exact J15_14 _ (if_neg c15).symm
      · have c15 : w = 64 := c15
        refine x_iconst 1 dX4_isWidth_18 (by decide) ?_
        refine x_goto dX4_isWidth_19 ?_
        exact J15_14 _ (if_pos c15).symm

-- == X4_lay ==
theorem dX4_lay_0 : xd cX4_lay 0 (.aload_n 0) 1 1 := ⟨by decide +kernel, rfl⟩
theorem dX4_lay_1 : xd cX4_lay 1 (.getfield 9) 3 4 := ⟨by decide +kernel, rfl⟩
theorem dX4_lay_4 : xd cX4_lay 4 (.lconst 0) 1 5 := ⟨by decide +kernel, rfl⟩
theorem dX4_lay_5 : xd cX4_lay 5 (.invokestatic 15) 3 8 := ⟨by decide +kernel, rfl⟩
theorem dX4_lay_8 : xd cX4_lay 8 (.aload_n 0) 1 9 := ⟨by decide +kernel, rfl⟩
theorem dX4_lay_9 : xd cX4_lay 9 (.iload_n 1) 1 10 := ⟨by decide +kernel, rfl⟩
theorem dX4_lay_10 : xd cX4_lay 10 (.putfield 21) 3 13 := ⟨by decide +kernel, rfl⟩
theorem dX4_lay_13 : xd cX4_lay 13 (.aload_n 0) 1 14 := ⟨by decide +kernel, rfl⟩
theorem dX4_lay_14 : xd cX4_lay 14 (.iload_n 1) 1 15 := ⟨by decide +kernel, rfl⟩
theorem dX4_lay_15 : xj cX4_lay 15 (.ifCond .ne) 18 22 := ⟨7, by decide +kernel, rfl, by decide⟩
theorem dX4_lay_18 : xd cX4_lay 18 (.iconst 0) 1 19 := ⟨by decide +kernel, rfl⟩
theorem dX4_lay_19 : xj cX4_lay 19 .goto 22 32 := ⟨13, by decide +kernel, rfl, by decide⟩
theorem dX4_lay_22 : xd cX4_lay 22 (.iconst 0) 1 23 := ⟨by decide +kernel, rfl⟩
theorem dX4_lay_23 : xd cX4_lay 23 (.iload_n 2) 1 24 := ⟨by decide +kernel, rfl⟩
theorem dX4_lay_24 : xd cX4_lay 24 (.bipush 40) 2 26 := ⟨by decide +kernel, rfl⟩
theorem dX4_lay_26 : xd cX4_lay 26 (.invokestatic 25) 3 29 := ⟨by decide +kernel, rfl⟩
theorem dX4_lay_29 : xd cX4_lay 29 (.invokestatic 31) 3 32 := ⟨by decide +kernel, rfl⟩
theorem dX4_lay_32 : xd cX4_lay 32 (.putfield 34) 3 35 := ⟨by decide +kernel, rfl⟩
theorem dX4_lay_35 : xd cX4_lay 35 (.aload_n 0) 1 36 := ⟨by decide +kernel, rfl⟩
theorem dX4_lay_36 : xd cX4_lay 36 (.getfield 34) 3 39 := ⟨by decide +kernel, rfl⟩
theorem dX4_lay_39 : xd cX4_lay 39 .ireturn 1 40 := ⟨by decide +kernel, rfl⟩

set_option maxRecDepth 100000 in
set_option maxHeartbeats 4000000 in
theorem ct_X4_lay (l : Launch) (g : XG) (aA aAn b n0 : Nat) (nu : Nat → Int64) (w n : Nat) (hw : w < 2 ^ 31) (hn : n ≤ 40) : Ct l g 2 0 0 yX4_lay cX4_lay 3 (some .int) [.ref aA, .int (nI w), .int (nI n)] [(aA, .inr (4, [.ref aAn, .int (nI b), .int (nI n0)])), (aAn, .inl (g.2.1 2, 40, .inr (.inl nu)))] (xpi (nI (layN w n)) [(aA, .inr (4, [.ref aAn, .int (nI w), .int (nI (layN w n))])), (aAn, .inl (g.2.1 2, 40, .inr (.inl (fun _ => 0))))]) := by
  refine Ct.ofX (lv := [some (.ref aA), some (.int (nI w)), some (.int (nI n))]) (by decide) rfl (Nat.le_of_ble_eq_true rfl) (fun κ => ?_)
  generalize hQ : xQ κ g 0 0 _ = Q
  refine x_aload_n dX4_lay_0 rfl ?_
  refine x_get dX4_lay_1 0 0 inX4 fl_X4_9 rfl rfl (by decide) rfl ?_
  refine x_lconst 0 dX4_lay_4 (by decide) ?_
  refine x_cSw (ws' := [(aA, .inr (4, [.ref aAn, .int (nI b), .int (nI n0)])), (aAn, .inl (g.2.1 2, 40, .inr (.inl (fun _ => 0))))]) dX4_lay_5 ml_X4_15 mJ7_fill_d0a16 (ct_J7_fill_d0a16 κ.2.1 g aAn 40 0 nu (by decide)) [1] rfl rfl rfl (Nat.le_of_ble_eq_true rfl) (by decide) (Nat.le_refl _) (Nat.le_refl _) (rfl : [aAn] = [aAn]) rfl ?_
  refine x_aload_n dX4_lay_8 rfl ?_
  refine x_iload_n dX4_lay_9 rfl ?_
  refine x_put (ws' := [(aA, .inr (4, [.ref aAn, .int (nI w), .int (nI n0)])), (aAn, .inl (g.2.1 2, 40, .inr (.inl (fun _ => 0))))]) dX4_lay_10 0 1 inX4 tyX4_ok nmX4 fl_X4_21 rfl rfl (by decide) rfl (rfl) rfl (xlt rfl) rfl ?_
  refine x_aload_n dX4_lay_13 rfl ?_
  refine x_iload_n dX4_lay_14 rfl ?_
  have J15_2 : ∀ (v1 : Int32), v1 = (if (nI w) = 0 then 0 else if 0 < (if 40 < (nI n) then 40 else (nI n)) then (if 40 < (nI n) then 40 else (nI n)) else 0) → Xs κ g 2 0 0 cX4_lay yX4_lay (some .int) Q 0 0 32 [some (.ref aA), some (.int (nI w)), some (.int (nI n))] [.int v1, .ref aA] [(aA, .inr (4, [.ref aAn, .int (nI w), .int (nI n0)])), (aAn, .inl (g.2.1 2, 40, .inr (.inl (fun _ => 0))))] := by
    intro v1 ev1
    refine x_rei (nI (layN w n)) (by simp only [ev1]; exact lay_sz hw hn) ?_
    refine x_put (ws' := [(aA, .inr (4, [.ref aAn, .int (nI w), .int (nI (layN w n))])), (aAn, .inl (g.2.1 2, 40, .inr (.inl (fun _ => 0))))]) dX4_lay_32 0 2 inX4 tyX4_ok nmX4 fl_X4_34 rfl rfl (by decide) rfl (rfl) rfl (xlt rfl) rfl ?_
    refine x_aload_n dX4_lay_35 rfl ?_
    refine x_get dX4_lay_36 0 2 inX4 fl_X4_34 rfl rfl (by decide) rfl ?_
    rw [← hQ]
    refine x_iret dX4_lay_39 rfl (Nat.le_of_ble_eq_true rfl) (Nat.le_of_ble_eq_true rfl) ?_
    exact ⟨rfl, rfl⟩
  refine x_if_ne dX4_lay_15 (fun c15 => ?_) (fun c15 => ?_)
  · have c15 : ¬ ((nI w) = 0) := c15
    have c15n := mt (nI_eq (a := w) (b := 0) (by omega) (by omega)).mpr c15
    refine x_iconst 0 dX4_lay_22 (by decide) ?_
    refine x_iload_n dX4_lay_23 rfl ?_
    refine x_bipush 40 dX4_lay_24 (by decide) ?_
    refine x_mmin dX4_lay_26 ml_X4_25 (Nat.le_of_ble_eq_true rfl) (by decide) (Nat.le_refl _) (Nat.le_refl _) ?_
    refine x_mmax dX4_lay_29 ml_X4_31 (Nat.le_of_ble_eq_true rfl) (by decide) (Nat.le_refl _) (Nat.le_refl _) ?_
    exact J15_2 _ (if_neg c15).symm
  · have c15 : (nI w) = 0 := c15
    have c15n := (nI_eq (a := w) (b := 0) (by omega) (by omega)).mp c15
    refine x_iconst 0 dX4_lay_18 (by decide) ?_
    refine x_goto dX4_lay_19 ?_
    exact J15_2 _ (if_pos c15).symm

-- == X4_holds ==
theorem dX4_holds_0 : xd cX4_holds 0 (.iload_n 1) 1 1 := ⟨by decide +kernel, rfl⟩
theorem dX4_holds_1 : xj cX4_holds 1 (.ifCond .lt) 4 30 := ⟨29, by decide +kernel, rfl, by decide⟩
theorem dX4_holds_4 : xd cX4_holds 4 (.iload_n 2) 1 5 := ⟨by decide +kernel, rfl⟩
theorem dX4_holds_5 : xj cX4_holds 5 (.ifCond .lt) 8 30 := ⟨25, by decide +kernel, rfl, by decide⟩
theorem dX4_holds_8 : xd cX4_holds 8 (.iload_n 1) 1 9 := ⟨by decide +kernel, rfl⟩
theorem dX4_holds_9 : xd cX4_holds 9 (.aload_n 0) 1 10 := ⟨by decide +kernel, rfl⟩
theorem dX4_holds_10 : xd cX4_holds 10 (.getfield 34) 3 13 := ⟨by decide +kernel, rfl⟩
theorem dX4_holds_13 : xj cX4_holds 13 (.if_icmp .gt) 16 30 := ⟨17, by decide +kernel, rfl, by decide⟩
theorem dX4_holds_16 : xd cX4_holds 16 (.iload_n 2) 1 17 := ⟨by decide +kernel, rfl⟩
theorem dX4_holds_17 : xd cX4_holds 17 (.aload_n 0) 1 18 := ⟨by decide +kernel, rfl⟩
theorem dX4_holds_18 : xd cX4_holds 18 (.getfield 34) 3 21 := ⟨by decide +kernel, rfl⟩
theorem dX4_holds_21 : xd cX4_holds 21 (.iload_n 1) 1 22 := ⟨by decide +kernel, rfl⟩
theorem dX4_holds_22 : xd cX4_holds 22 .isub 1 23 := ⟨by decide +kernel, rfl⟩
theorem dX4_holds_23 : xj cX4_holds 23 (.if_icmp .gt) 26 30 := ⟨7, by decide +kernel, rfl, by decide⟩
theorem dX4_holds_26 : xd cX4_holds 26 (.iconst 1) 1 27 := ⟨by decide +kernel, rfl⟩
theorem dX4_holds_27 : xj cX4_holds 27 .goto 30 31 := ⟨4, by decide +kernel, rfl, by decide⟩
theorem dX4_holds_30 : xd cX4_holds 30 (.iconst 0) 1 31 := ⟨by decide +kernel, rfl⟩
theorem dX4_holds_31 : xd cX4_holds 31 .ireturn 1 32 := ⟨by decide +kernel, rfl⟩

set_option maxRecDepth 100000 in
set_option maxHeartbeats 4000000 in
theorem ct_X4_holds (l : Launch) (g : XG) (aA aAn b n0 : Nat) (f n : Int32) : Ct l g 1 0 0 yX4_holds cX4_holds 3 (some .boolean) [.ref aA, .int f, .int n] [(aA, .inr (4, [.ref aAn, .int (nI b), .int (nI n0)]))] (xpi (hdI n0 f n) [(aA, .inr (4, [.ref aAn, .int (nI b), .int (nI n0)]))]) := by
  refine Ct.ofX (lv := [some (.ref aA), some (.int f), some (.int n)]) (by decide) rfl (Nat.le_of_ble_eq_true rfl) (fun κ => ?_)
  generalize hQ : xQ κ g 0 0 _ = Q
  refine x_iload_n dX4_holds_0 rfl ?_
  have J1_16 : ∀ (v15 : Int32), v15 = (if f < 0 then 0 else ((if n < 0 then 0 else ((if (nI n0) < f then 0 else ((if ((nI n0) - f) < n then 0 else 1))))))) → Xs κ g 1 0 0 cX4_holds yX4_holds (some .boolean) Q 0 0 31 [some (.ref aA), some (.int f), some (.int n)] [.int v15] [(aA, .inr (4, [.ref aAn, .int (nI b), .int (nI n0)]))] := by
    intro v15 ev15
    rw [← hQ]
    refine x_zret dX4_holds_31 rfl (by simp only [ev15]; exact z01 (hdI01 n0 f n)) (Nat.le_of_ble_eq_true rfl) (Nat.le_of_ble_eq_true rfl) ?_
    exact ⟨by simp only [ev15]; rfl, rfl⟩
  refine x_if_lt dX4_holds_1 (fun c1 => ?_) (fun c1 => ?_)
  · have c1 : f < 0 := c1
    refine x_iconst 0 dX4_holds_30 (by decide) ?_
    exact J1_16 _ (if_pos c1).symm
  · have c1 : ¬ (f < 0) := c1
    refine x_iload_n dX4_holds_4 rfl ?_
    have J5_24 : ∀ (v23 : Int32), v23 = (if n < 0 then 0 else ((if (nI n0) < f then 0 else ((if ((nI n0) - f) < n then 0 else 1))))) → Xs κ g 1 0 0 cX4_holds yX4_holds (some .boolean) Q 0 0 31 [some (.ref aA), some (.int f), some (.int n)] [.int v23] [(aA, .inr (4, [.ref aAn, .int (nI b), .int (nI n0)]))] := by
      intro v23 ev23
      exact J1_16 _ (by rw [if_neg c1]; try simp only [ev23])
    refine x_if_lt dX4_holds_5 (fun c5 => ?_) (fun c5 => ?_)
    · have c5 : n < 0 := c5
      refine x_iconst 0 dX4_holds_30 (by decide) ?_
      exact J5_24 _ (if_pos c5).symm
    · have c5 : ¬ (n < 0) := c5
      refine x_iload_n dX4_holds_8 rfl ?_
      refine x_aload_n dX4_holds_9 rfl ?_
      refine x_get dX4_holds_10 0 2 inX4 fl_X4_34 rfl rfl (by decide) rfl ?_
      have J13_28 : ∀ (v27 : Int32), v27 = (if (nI n0) < f then 0 else ((if ((nI n0) - f) < n then 0 else 1))) → Xs κ g 1 0 0 cX4_holds yX4_holds (some .boolean) Q 0 0 31 [some (.ref aA), some (.int f), some (.int n)] [.int v27] [(aA, .inr (4, [.ref aAn, .int (nI b), .int (nI n0)]))] := by
        intro v27 ev27
        exact J5_24 _ (by rw [if_neg c5]; try simp only [ev27])
      refine x_icmp_gt dX4_holds_13 (fun c13 => ?_) (fun c13 => ?_)
      · have c13 : (nI n0) < f := c13
        refine x_iconst 0 dX4_holds_30 (by decide) ?_
        exact J13_28 _ (if_pos c13).symm
      · have c13 : ¬ ((nI n0) < f) := c13
        refine x_iload_n dX4_holds_16 rfl ?_
        refine x_aload_n dX4_holds_17 rfl ?_
        refine x_get dX4_holds_18 0 2 inX4 fl_X4_34 rfl rfl (by decide) rfl ?_
        refine x_iload_n dX4_holds_21 rfl ?_
        refine x_isub dX4_holds_22 ?_
        have J23_30 : ∀ (v29 : Int32), v29 = (if ((nI n0) - f) < n then 0 else 1) → Xs κ g 1 0 0 cX4_holds yX4_holds (some .boolean) Q 0 0 31 [some (.ref aA), some (.int f), some (.int n)] [.int v29] [(aA, .inr (4, [.ref aAn, .int (nI b), .int (nI n0)]))] := by
          intro v29 ev29
          exact J13_28 _ (by rw [if_neg c13]; try simp only [ev29])
        refine x_icmp_gt dX4_holds_23 (fun c23 => ?_) (fun c23 => ?_)
        · have c23 : ((nI n0) - f) < n := c23
          refine x_iconst 0 dX4_holds_30 (by decide) ?_
          exact J23_30 _ (if_pos c23).symm
        · have c23 : ¬ (((nI n0) - f) < n) := c23
          refine x_iconst 1 dX4_holds_26 (by decide) ?_
          refine x_goto dX4_holds_27 ?_
          exact J23_30 _ (if_neg c23).symm

-- == lb_8 ==
theorem dX4_lowestBits_0 : xd cX4_lowestBits 0 (.aload_n 0) 1 1 := ⟨by decide +kernel, rfl⟩
theorem dX4_lowestBits_1 : xd cX4_lowestBits 1 (.getfield 21) 3 4 := ⟨by decide +kernel, rfl⟩
theorem dX4_lowestBits_4 : decode cX4_lowestBits 4 = .ok (.lookupswitch 38 #[(8, 28), (16, 33)], 28) := by decide +kernel
theorem dX4_lowestBits_32 : xd cX4_lowestBits 32 (.lload_n 1) 1 33 := ⟨by decide +kernel, rfl⟩
theorem dX4_lowestBits_33 : xd cX4_lowestBits 33 .l2i 1 34 := ⟨by decide +kernel, rfl⟩
theorem dX4_lowestBits_34 : xd cX4_lowestBits 34 .i2b 1 35 := ⟨by decide +kernel, rfl⟩
theorem dX4_lowestBits_35 : xd cX4_lowestBits 35 .i2l 1 36 := ⟨by decide +kernel, rfl⟩
theorem dX4_lowestBits_36 : xd cX4_lowestBits 36 .lreturn 1 37 := ⟨by decide +kernel, rfl⟩
theorem dX4_lowestBits_37 : xd cX4_lowestBits 37 (.lload_n 1) 1 38 := ⟨by decide +kernel, rfl⟩
theorem dX4_lowestBits_38 : xd cX4_lowestBits 38 .l2i 1 39 := ⟨by decide +kernel, rfl⟩
theorem dX4_lowestBits_39 : xd cX4_lowestBits 39 .i2s 1 40 := ⟨by decide +kernel, rfl⟩
theorem dX4_lowestBits_40 : xd cX4_lowestBits 40 .i2l 1 41 := ⟨by decide +kernel, rfl⟩
theorem dX4_lowestBits_41 : xd cX4_lowestBits 41 .lreturn 1 42 := ⟨by decide +kernel, rfl⟩
theorem dX4_lowestBits_42 : xd cX4_lowestBits 42 (.lload_n 1) 1 43 := ⟨by decide +kernel, rfl⟩
theorem dX4_lowestBits_43 : xd cX4_lowestBits 43 .lreturn 1 44 := ⟨by decide +kernel, rfl⟩

set_option maxRecDepth 100000 in
set_option maxHeartbeats 4000000 in
theorem ct_lb_8 (l : Launch) (g : XG) (aA aAn n0 : Nat) (v : Int64) : Ct l g 1 0 0 yX4_lowestBits cX4_lowestBits 3 (some .long) [.ref aA, .long v] [(aA, .inr (4, [.ref aAn, .int 8, .int (nI n0)]))] (xpl (v.toInt32.toInt8.toInt32.toInt64) [(aA, .inr (4, [.ref aAn, .int 8, .int (nI n0)]))]) := by
  refine Ct.ofX (lv := [some (.ref aA), some (.long v), none]) (by decide) rfl (Nat.le_of_ble_eq_true rfl) (fun κ => ?_)
  generalize hQ : xQ κ g 0 0 _ = Q
  refine x_aload_n dX4_lowestBits_0 rfl ?_
  refine x_get dX4_lowestBits_1 0 1 inX4 fl_X4_21 rfl rfl (by decide) rfl ?_
  refine x_lookup (off := 28) 32 dX4_lowestBits_4 (by decide) (by decide) (by decide) ?_
  refine x_lload_n dX4_lowestBits_32 rfl ?_
  refine x_l2i dX4_lowestBits_33 ?_
  refine x_i2b dX4_lowestBits_34 ?_
  refine x_i2l dX4_lowestBits_35 ?_
  rw [← hQ]
  refine x_lret dX4_lowestBits_36 rfl (Nat.le_of_ble_eq_true rfl) (Nat.le_of_ble_eq_true rfl) ?_
  exact ⟨rfl, rfl⟩

-- == lb_16 ==
set_option maxRecDepth 100000 in
set_option maxHeartbeats 4000000 in
theorem ct_lb_16 (l : Launch) (g : XG) (aA aAn n0 : Nat) (v : Int64) : Ct l g 1 0 0 yX4_lowestBits cX4_lowestBits 3 (some .long) [.ref aA, .long v] [(aA, .inr (4, [.ref aAn, .int 16, .int (nI n0)]))] (xpl (v.toInt32.toInt16.toInt32.toInt64) [(aA, .inr (4, [.ref aAn, .int 16, .int (nI n0)]))]) := by
  refine Ct.ofX (lv := [some (.ref aA), some (.long v), none]) (by decide) rfl (Nat.le_of_ble_eq_true rfl) (fun κ => ?_)
  generalize hQ : xQ κ g 0 0 _ = Q
  refine x_aload_n dX4_lowestBits_0 rfl ?_
  refine x_get dX4_lowestBits_1 0 1 inX4 fl_X4_21 rfl rfl (by decide) rfl ?_
  refine x_lookup (off := 33) 37 dX4_lowestBits_4 (by decide) (by decide) (by decide) ?_
  refine x_lload_n dX4_lowestBits_37 rfl ?_
  refine x_l2i dX4_lowestBits_38 ?_
  refine x_i2s dX4_lowestBits_39 ?_
  refine x_i2l dX4_lowestBits_40 ?_
  rw [← hQ]
  refine x_lret dX4_lowestBits_41 rfl (Nat.le_of_ble_eq_true rfl) (Nat.le_of_ble_eq_true rfl) ?_
  exact ⟨rfl, rfl⟩

-- == lb_64 ==
set_option maxRecDepth 100000 in
set_option maxHeartbeats 4000000 in
theorem ct_lb_64 (l : Launch) (g : XG) (aA aAn n0 : Nat) (v : Int64) : Ct l g 1 0 0 yX4_lowestBits cX4_lowestBits 3 (some .long) [.ref aA, .long v] [(aA, .inr (4, [.ref aAn, .int 64, .int (nI n0)]))] (xpl (v) [(aA, .inr (4, [.ref aAn, .int 64, .int (nI n0)]))]) := by
  refine Ct.ofX (lv := [some (.ref aA), some (.long v), none]) (by decide) rfl (Nat.le_of_ble_eq_true rfl) (fun κ => ?_)
  generalize hQ : xQ κ g 0 0 _ = Q
  refine x_aload_n dX4_lowestBits_0 rfl ?_
  refine x_get dX4_lowestBits_1 0 1 inX4 fl_X4_21 rfl rfl (by decide) rfl ?_
  refine x_lookup (off := 38) 42 dX4_lowestBits_4 (by decide) (by decide) (by decide) ?_
  refine x_lload_n dX4_lowestBits_42 rfl ?_
  rw [← hQ]
  refine x_lret dX4_lowestBits_43 rfl (Nat.le_of_ble_eq_true rfl) (Nat.le_of_ble_eq_true rfl) ?_
  exact ⟨rfl, rfl⟩

-- == X4_lowestBits ==
theorem ct_X4_lowestBits (l : Launch) (g : XG) (aA aAn b n0 : Nat) (v : Int64) (hb : b = 8 ∨ b = 16 ∨ b = 64) : Ct l g 1 0 0 yX4_lowestBits cX4_lowestBits 3 (some .long) [.ref aA, .long v] [(aA, .inr (4, [.ref aAn, .int (nI b), .int (nI n0)]))] (xpl (narL b v) [(aA, .inr (4, [.ref aAn, .int (nI b), .int (nI n0)]))]) := by
  rcases hb with rfl | rfl | rfl
  · exact ct_lb_8 l g aA aAn n0 v
  · exact ct_lb_16 l g aA aAn n0 v
  · exact ct_lb_64 l g aA aAn n0 v

-- == X8_tell ==
theorem dX8_tell_0 : xd cX8_tell 0 (.iload_n 1) 1 1 := ⟨by decide +kernel, rfl⟩
theorem dX8_tell_1 : xd cX8_tell 1 (.iconst 0) 1 2 := ⟨by decide +kernel, rfl⟩
theorem dX8_tell_2 : xd cX8_tell 2 (.bipush 6) 2 4 := ⟨by decide +kernel, rfl⟩
theorem dX8_tell_4 : xd cX8_tell 4 (.invokestatic 89) 3 7 := ⟨by decide +kernel, rfl⟩
theorem dX8_tell_7 : xj cX8_tell 7 (.ifCond .eq) 10 20 := ⟨13, by decide +kernel, rfl, by decide⟩
theorem dX8_tell_10 : xd cX8_tell 10 (.aload_n 0) 1 11 := ⟨by decide +kernel, rfl⟩
theorem dX8_tell_11 : xd cX8_tell 11 (.getfield 67) 3 14 := ⟨by decide +kernel, rfl⟩
theorem dX8_tell_14 : xd cX8_tell 14 (.iload_n 1) 1 15 := ⟨by decide +kernel, rfl⟩
theorem dX8_tell_15 : xd cX8_tell 15 .dup2 1 16 := ⟨by decide +kernel, rfl⟩
theorem dX8_tell_16 : xd cX8_tell 16 .iaload 1 17 := ⟨by decide +kernel, rfl⟩
theorem dX8_tell_17 : xd cX8_tell 17 (.iconst 1) 1 18 := ⟨by decide +kernel, rfl⟩
theorem dX8_tell_18 : xd cX8_tell 18 .iadd 1 19 := ⟨by decide +kernel, rfl⟩
theorem dX8_tell_19 : xd cX8_tell 19 .iastore 1 20 := ⟨by decide +kernel, rfl⟩
theorem dX8_tell_20 : xd cX8_tell 20 (.ldc_w 278) 3 23 := ⟨by decide +kernel, rfl⟩
theorem dX8_tell_23 : xd cX8_tell 23 (.iload_n 1) 1 24 := ⟨by decide +kernel, rfl⟩
theorem dX8_tell_24 : xd cX8_tell 24 .isub 1 25 := ⟨by decide +kernel, rfl⟩
theorem dX8_tell_25 : xd cX8_tell 25 .ireturn 1 26 := ⟨by decide +kernel, rfl⟩

set_option maxRecDepth 100000 in
set_option maxHeartbeats 4000000 in
theorem ct_X8_tell (l : Launch) (g : XG) (aM aS aK aL aC aW aR aT aH aF : Nat) (ts : Nat) (kp : Int32) (fi : Nat → Nat) (f : Nat) (hf : f ≤ 6) : Ct l g 2 0 0 yX8_tell cX8_tell 2 (some .int) [.ref aM, .int (nI f)] [(aM, .inr (8, [.ref aS, .ref aK, .ref aL, .ref aC, .ref aW, .ref aR, .ref aT, .ref aH, .ref aF, .int (nI ts), .int kp])), (aF, .inl (g.2.1 0, 7, .inl (nIf fi)))] (xpi (fndI f) [(aM, .inr (8, [.ref aS, .ref aK, .ref aL, .ref aC, .ref aW, .ref aR, .ref aT, .ref aH, .ref aF, .int (nI ts), .int kp])), (aF, .inl (g.2.1 0, 7, .inl (nIf (updN fi f (fi f + 1)))))]) := by
  refine Ct.ofX (lv := [some (.ref aM), some (.int (nI f))]) (by decide) rfl (Nat.le_of_ble_eq_true rfl) (fun κ => ?_)
  generalize hQ : xQ κ g 0 0 _ = Q
  refine x_iload_n dX8_tell_0 rfl ?_
  refine x_iconst 0 dX8_tell_1 (by decide) ?_
  refine x_bipush 6 dX8_tell_2 (by decide) ?_
  refine x_cSi dX8_tell_4 ml_X8_89 mX8_within (ct_within_n κ.2.1 g f 0 6 (⟨by omega, by omega, by omega, by omega⟩)) rfl (Nat.le_of_ble_eq_true rfl) (by decide) (Nat.le_refl _) (Nat.le_refl _) ?_
  refine x_if_eq dX8_tell_7 (fun c7 => ?_) (fun c7 => ?_)
  · exact absurd c7 (by decide)
  refine x_aload_n dX8_tell_10 rfl ?_
  refine x_get dX8_tell_11 0 8 inX8 fl_X8_67 rfl rfl (by decide) rfl ?_
  refine x_iload_n dX8_tell_14 rfl ?_
  refine x_dup2 dX8_tell_15 rfl rfl ?_
  refine x_iald dX8_tell_16 1 f rfl (rfl) (by omega) (by decide) ?_
  refine x_iconst 1 dX8_tell_17 (by decide) ?_
  refine x_iadd dX8_tell_18 ?_
  refine x_rei (nI (fi f + 1)) (nI_addc (fi f) 1 rfl) ?_
  refine x_iast (ws' := [(aM, .inr (8, [.ref aS, .ref aK, .ref aL, .ref aC, .ref aW, .ref aR, .ref aT, .ref aH, .ref aF, .int (nI ts), .int kp])), (aF, .inl (g.2.1 0, 7, .inl (nIf (updN fi f (fi f + 1)))))]) dX8_tell_19 1 f rfl (rfl) (by omega) (by decide) (by rw [upd_nIf]; rfl) ?_
  refine x_ldcw dX8_tell_20 k_X8_278 ?_
  refine x_iload_n dX8_tell_23 rfl ?_
  refine x_isub dX8_tell_24 ?_
  rw [← hQ]
  refine x_iret dX8_tell_25 rfl (Nat.le_of_ble_eq_true rfl) (Nat.le_of_ble_eq_true rfl) ?_
  exact ⟨rfl, rfl⟩

-- == X8_isRow ==
theorem dX8_isRow_0 : xd cX8_isRow 0 (.lload_n 0) 1 1 := ⟨by decide +kernel, rfl⟩
theorem dX8_isRow_1 : xd cX8_isRow 1 (.lconst 0) 1 2 := ⟨by decide +kernel, rfl⟩
theorem dX8_isRow_2 : xd cX8_isRow 2 .lcmp 1 3 := ⟨by decide +kernel, rfl⟩
theorem dX8_isRow_3 : xj cX8_isRow 3 (.ifCond .lt) 6 27 := ⟨24, by decide +kernel, rfl, by decide⟩
theorem dX8_isRow_6 : xd cX8_isRow 6 (.lload_n 0) 1 7 := ⟨by decide +kernel, rfl⟩
theorem dX8_isRow_7 : xd cX8_isRow 7 (.ldc2_w 279) 3 10 := ⟨by decide +kernel, rfl⟩
theorem dX8_isRow_10 : xd cX8_isRow 10 .lcmp 1 11 := ⟨by decide +kernel, rfl⟩
theorem dX8_isRow_11 : xj cX8_isRow 11 (.ifCond .gt) 14 27 := ⟨16, by decide +kernel, rfl, by decide⟩
theorem dX8_isRow_14 : xd cX8_isRow 14 (.lload_n 0) 1 15 := ⟨by decide +kernel, rfl⟩
theorem dX8_isRow_15 : xd cX8_isRow 15 .l2i 1 16 := ⟨by decide +kernel, rfl⟩
theorem dX8_isRow_16 : xd cX8_isRow 16 (.invokestatic 281) 3 19 := ⟨by decide +kernel, rfl⟩
theorem dX8_isRow_19 : xd cX8_isRow 19 (.iconst 4) 1 20 := ⟨by decide +kernel, rfl⟩
theorem dX8_isRow_20 : xj cX8_isRow 20 (.if_icmp .ne) 23 27 := ⟨7, by decide +kernel, rfl, by decide⟩
theorem dX8_isRow_23 : xd cX8_isRow 23 (.iconst 1) 1 24 := ⟨by decide +kernel, rfl⟩
theorem dX8_isRow_24 : xj cX8_isRow 24 .goto 27 28 := ⟨4, by decide +kernel, rfl, by decide⟩
theorem dX8_isRow_27 : xd cX8_isRow 27 (.iconst 0) 1 28 := ⟨by decide +kernel, rfl⟩
theorem dX8_isRow_28 : xd cX8_isRow 28 .ireturn 1 29 := ⟨by decide +kernel, rfl⟩

set_option maxRecDepth 100000 in
set_option maxHeartbeats 4000000 in
theorem ct_X8_isRow (l : Launch) (g : XG) (x : Int64) : Ct l g 2 0 0 yX8_isRow cX8_isRow 2 (some .boolean) [.long x] [] (xpi (isRowI x) []) := by
  refine Ct.ofX (lv := [some (.long x), none]) (by decide) rfl (Nat.le_of_ble_eq_true rfl) (fun κ => ?_)
  generalize hQ : xQ κ g 0 0 _ = Q
  refine x_lload_n dX8_isRow_0 rfl ?_
  refine x_lconst 0 dX8_isRow_1 (by decide) ?_
  refine x_lcmp dX8_isRow_2 ?_
  have J3_8 : ∀ (v7 : Int32), v7 = (if (lg_cmp x 0) < 0 then 0 else ((if 0 < (lg_cmp x 4095) then 0 else ((if (bcI x.toInt32) = 4 then 1 else 0))))) → Xs κ g 2 0 0 cX8_isRow yX8_isRow (some .boolean) Q 0 0 28 [some (.long x), none] [.int v7] [] := by
    intro v7 ev7
    rw [← hQ]
    refine x_zret dX8_isRow_28 rfl (by simp only [ev7]; exact z01 (isRowI01 x)) (Nat.le_of_ble_eq_true rfl) (Nat.le_of_ble_eq_true rfl) ?_
    exact ⟨by simp only [ev7]; rfl, rfl⟩
  refine x_if_lt dX8_isRow_3 (fun c3 => ?_) (fun c3 => ?_)
  · have c3 : (lg_cmp x 0) < 0 := c3
    refine x_iconst 0 dX8_isRow_27 (by decide) ?_
    exact J3_8 _ (if_pos c3).symm
  · have c3 : ¬ ((lg_cmp x 0) < 0) := c3
    refine x_lload_n dX8_isRow_6 rfl ?_
    refine x_ldc2 dX8_isRow_7 kl_X8_279 ?_
    refine x_lcmp dX8_isRow_10 ?_
    have J11_12 : ∀ (v11 : Int32), v11 = (if 0 < (lg_cmp x 4095) then 0 else ((if (bcI x.toInt32) = 4 then 1 else 0))) → Xs κ g 2 0 0 cX8_isRow yX8_isRow (some .boolean) Q 0 0 28 [some (.long x), none] [.int v11] [] := by
      intro v11 ev11
      exact J3_8 _ (by rw [if_neg c3]; try simp only [ev11])
    refine x_if_gt dX8_isRow_11 (fun c11 => ?_) (fun c11 => ?_)
    · have c11 : 0 < (lg_cmp x 4095) := c11
      refine x_iconst 0 dX8_isRow_27 (by decide) ?_
      exact J11_12 _ (if_pos c11).symm
    · have c11 : ¬ (0 < (lg_cmp x 4095)) := c11
      refine x_lload_n dX8_isRow_14 rfl ?_
      refine x_l2i dX8_isRow_15 ?_
      refine x_cSi dX8_isRow_16 ml_X8_281 mJ6_bitCount_0f7a4 (ct_J6_bitCount_0f7a4 κ.2.1 g x.toInt32) rfl (Nat.le_of_ble_eq_true rfl) (by decide) (Nat.le_refl _) (Nat.le_refl _) ?_
      refine x_iconst 4 dX8_isRow_19 (by decide) ?_
      have J20_14 : ∀ (v13 : Int32), v13 = (if (bcI x.toInt32) = 4 then 1 else 0) → Xs κ g 2 0 0 cX8_isRow yX8_isRow (some .boolean) Q 0 0 28 [some (.long x), none] [.int v13] [] := by
        intro v13 ev13
        exact J11_12 _ (by rw [if_neg c11]; try simp only [ev13])
      refine x_icmp_ne dX8_isRow_20 (fun c20 => ?_) (fun c20 => ?_)
      · have c20 : ¬ ((bcI x.toInt32) = 4) := c20
        refine x_iconst 0 dX8_isRow_27 (by decide) ?_
        exact J20_14 _ (if_neg c20).symm
      · have c20 : (bcI x.toInt32) = 4 := c20
        refine x_iconst 1 dX8_isRow_23 (by decide) ?_
        refine x_goto dX8_isRow_24 ?_
        exact J20_14 _ (if_pos c20).symm

-- == X8_isPeople ==
theorem dX8_isPeople_0 : xd cX8_isPeople 0 (.iload_n 1) 1 1 := ⟨by decide +kernel, rfl⟩
theorem dX8_isPeople_1 : xd cX8_isPeople 1 (.iconst 0) 1 2 := ⟨by decide +kernel, rfl⟩
theorem dX8_isPeople_2 : xd cX8_isPeople 2 (.aload_n 0) 1 3 := ⟨by decide +kernel, rfl⟩
theorem dX8_isPeople_3 : xd cX8_isPeople 3 (.getfield 10) 3 6 := ⟨by decide +kernel, rfl⟩
theorem dX8_isPeople_6 : xd cX8_isPeople 6 (.getfield 94) 3 9 := ⟨by decide +kernel, rfl⟩
theorem dX8_isPeople_9 : xd cX8_isPeople 9 (.iconst 1) 1 10 := ⟨by decide +kernel, rfl⟩
theorem dX8_isPeople_10 : xd cX8_isPeople 10 .isub 1 11 := ⟨by decide +kernel, rfl⟩
theorem dX8_isPeople_11 : xd cX8_isPeople 11 (.invokestatic 89) 3 14 := ⟨by decide +kernel, rfl⟩
theorem dX8_isPeople_14 : xd cX8_isPeople 14 .ireturn 1 15 := ⟨by decide +kernel, rfl⟩

set_option maxRecDepth 100000 in
set_option maxHeartbeats 4000000 in
theorem ct_X8_isPeople (l : Launch) (g : XG) (aM aS aK aL aC aW aR aT aH aF : Nat) (ts : Nat) (kp : Int32) (aSk aSm aSp aSt aSc aSr aSe gr br cs wk : Nat) (z : Int32) (pp : Int32) : Ct l g 2 0 0 yX8_isPeople cX8_isPeople 2 (some .boolean) [.ref aM, .int pp] [(aM, .inr (8, [.ref aS, .ref aK, .ref aL, .ref aC, .ref aW, .ref aR, .ref aT, .ref aH, .ref aF, .int (nI ts), .int kp])), (aS, .inr (6, [.ref aSk, .ref aSm, .ref aSp, .ref aSt, .ref aSc, .ref aSr, .ref aSe, .int (nI gr), .int (nI br), .int (nI cs), .int (nI wk), .int z]))] (xpi (wI pp 0 (nI gr - 1)) [(aM, .inr (8, [.ref aS, .ref aK, .ref aL, .ref aC, .ref aW, .ref aR, .ref aT, .ref aH, .ref aF, .int (nI ts), .int kp])), (aS, .inr (6, [.ref aSk, .ref aSm, .ref aSp, .ref aSt, .ref aSc, .ref aSr, .ref aSe, .int (nI gr), .int (nI br), .int (nI cs), .int (nI wk), .int z]))]) := by
  refine Ct.ofX (lv := [some (.ref aM), some (.int pp)]) (by decide) rfl (Nat.le_of_ble_eq_true rfl) (fun κ => ?_)
  generalize hQ : xQ κ g 0 0 _ = Q
  refine x_iload_n dX8_isPeople_0 rfl ?_
  refine x_iconst 0 dX8_isPeople_1 (by decide) ?_
  refine x_aload_n dX8_isPeople_2 rfl ?_
  refine x_get dX8_isPeople_3 0 0 inX8 fl_X8_10 rfl rfl (by decide) rfl ?_
  refine x_get dX8_isPeople_6 1 7 inX6 fl_X8_94 rfl rfl (by decide) rfl ?_
  refine x_iconst 1 dX8_isPeople_9 (by decide) ?_
  refine x_isub dX8_isPeople_10 ?_
  refine x_cSi dX8_isPeople_11 ml_X8_89 mX8_within (ct_X8_within κ.2.1 g pp 0 ((nI gr) - 1)) rfl (Nat.le_of_ble_eq_true rfl) (by decide) (Nat.le_refl _) (Nat.le_refl _) ?_
  rw [← hQ]
  refine x_zret dX8_isPeople_14 rfl (wI_nar _ _ _) (Nat.le_of_ble_eq_true rfl) (Nat.le_of_ble_eq_true rfl) ?_
  exact ⟨rfl, rfl⟩

-- == within_m ==
theorem ct_within_m (l : Launch) (g : XG)  : Ct l g 1 0 0 yX8_within cX8_within 3 (some .boolean) [.int ((-1)), .int 0, .int 7] [] (xpi (0) []) := by
  exact ct_X8_within l g (-1) 0 7

-- == under_0 ==
theorem dX8_isUnder_0 : xd cX8_isUnder 0 (.iload_n 0) 1 1 := ⟨by decide +kernel, rfl⟩
theorem dX8_isUnder_1 : xd cX8_isUnder 1 (.istore_n 2) 1 2 := ⟨by decide +kernel, rfl⟩
theorem dX8_isUnder_2 : xd cX8_isUnder 2 (.iconst 0) 1 3 := ⟨by decide +kernel, rfl⟩
theorem dX8_isUnder_3 : xd cX8_isUnder 3 (.istore_n 3) 1 4 := ⟨by decide +kernel, rfl⟩
theorem dX8_isUnder_4 : xd cX8_isUnder 4 (.iload_n 3) 1 5 := ⟨by decide +kernel, rfl⟩
theorem dX8_isUnder_5 : xd cX8_isUnder 5 (.bipush 8) 2 7 := ⟨by decide +kernel, rfl⟩
theorem dX8_isUnder_7 : xj cX8_isUnder 7 (.if_icmp .ge) 10 39 := ⟨32, by decide +kernel, rfl, by decide⟩
theorem dX8_isUnder_10 : xd cX8_isUnder 10 (.iload_n 2) 1 11 := ⟨by decide +kernel, rfl⟩
theorem dX8_isUnder_11 : xd cX8_isUnder 11 (.iconst 0) 1 12 := ⟨by decide +kernel, rfl⟩
theorem dX8_isUnder_12 : xd cX8_isUnder 12 (.bipush 7) 2 14 := ⟨by decide +kernel, rfl⟩
theorem dX8_isUnder_14 : xd cX8_isUnder 14 (.invokestatic 89) 3 17 := ⟨by decide +kernel, rfl⟩
theorem dX8_isUnder_17 : xj cX8_isUnder 17 (.ifCond .eq) 20 39 := ⟨22, by decide +kernel, rfl, by decide⟩
theorem dX8_isUnder_20 : xd cX8_isUnder 20 (.iload_n 2) 1 21 := ⟨by decide +kernel, rfl⟩
theorem dX8_isUnder_21 : xd cX8_isUnder 21 (.iload_n 1) 1 22 := ⟨by decide +kernel, rfl⟩
theorem dX8_isUnder_22 : xj cX8_isUnder 22 (.if_icmp .ne) 25 27 := ⟨5, by decide +kernel, rfl, by decide⟩
theorem dX8_isUnder_25 : xd cX8_isUnder 25 (.iconst 1) 1 26 := ⟨by decide +kernel, rfl⟩
theorem dX8_isUnder_26 : xd cX8_isUnder 26 .ireturn 1 27 := ⟨by decide +kernel, rfl⟩
theorem dX8_isUnder_27 : xd cX8_isUnder 27 (.getstatic 286) 3 30 := ⟨by decide +kernel, rfl⟩
theorem dX8_isUnder_30 : xd cX8_isUnder 30 (.iload_n 2) 1 31 := ⟨by decide +kernel, rfl⟩
theorem dX8_isUnder_31 : xd cX8_isUnder 31 .iaload 1 32 := ⟨by decide +kernel, rfl⟩
theorem dX8_isUnder_32 : xd cX8_isUnder 32 (.istore_n 2) 1 33 := ⟨by decide +kernel, rfl⟩
theorem dX8_isUnder_33 : xd cX8_isUnder 33 (.iinc 3 1) 3 36 := ⟨by decide +kernel, rfl⟩
theorem dX8_isUnder_36 : xj cX8_isUnder 36 .goto 39 4 := ⟨(-32), by decide +kernel, rfl, by decide⟩
theorem dX8_isUnder_39 : xd cX8_isUnder 39 (.iconst 0) 1 40 := ⟨by decide +kernel, rfl⟩
theorem dX8_isUnder_40 : xd cX8_isUnder 40 .ireturn 1 41 := ⟨by decide +kernel, rfl⟩

set_option maxRecDepth 100000 in
set_option maxHeartbeats 4000000 in
theorem ct_under_0 (l : Launch) (g : XG) (ab : Int32) : Ct l g 2 0 0 yX8_isUnder cX8_isUnder 4 (some .boolean) [.int 0, .int ab] [] (xpi (udI 0 ab) []) := by
  refine Ct.ofX (lv := [some (.int 0), some (.int ab), none, none]) (by decide) rfl (Nat.le_of_ble_eq_true rfl) (fun κ => ?_)
  generalize hQ : xQ κ g 0 0 _ = Q
  refine x_iload_n dX8_isUnder_0 rfl ?_
  refine x_istore_n (lv' := [some (.int 0), some (.int ab), some (.int 0), none]) dX8_isUnder_1 (xlt rfl) rfl ?_
  refine x_iconst 0 dX8_isUnder_2 (by decide) ?_
  refine x_istore_n (lv' := [some (.int 0), some (.int ab), some (.int 0), some (.int 0)]) dX8_isUnder_3 (xlt rfl) rfl ?_
  refine x_iload_n dX8_isUnder_4 rfl ?_
  refine x_bipush 8 dX8_isUnder_5 (by decide) ?_
  refine x_icmp_ge dX8_isUnder_7 (fun c7 => ?_) (fun c7 => ?_)
  · exact absurd c7 (by decide)
  refine x_iload_n dX8_isUnder_10 rfl ?_
  refine x_iconst 0 dX8_isUnder_11 (by decide) ?_
  refine x_bipush 7 dX8_isUnder_12 (by decide) ?_
  refine x_cSi dX8_isUnder_14 ml_X8_89 mX8_within (ct_within_n κ.2.1 g 0 0 7 (⟨by omega, by omega, by omega, by omega⟩)) rfl (Nat.le_of_ble_eq_true rfl) (by decide) (Nat.le_refl _) (Nat.le_refl _) ?_
  refine x_if_eq dX8_isUnder_17 (fun c17 => ?_) (fun c17 => ?_)
  · exact absurd c17 (by decide)
  refine x_iload_n dX8_isUnder_20 rfl ?_
  refine x_iload_n dX8_isUnder_21 rfl ?_
  refine x_icmp_ne dX8_isUnder_22 (fun c22 => ?_) (fun c22 => ?_)
  · have c22 : ¬ (0 = ab) := c22
    refine x_gets dX8_isUnder_27 (n := "KIND_ABOVE") (N := 8) (f := tKA) (fun h => h.2.1) fl_X8_286 ?_
    refine x_iload_n dX8_isUnder_30 rfl ?_
    refine x_tald dX8_isUnder_31 (n := "KIND_ABOVE") (N := 8) (f := tKA) (fun h => h.2.1) 0 (rfl) (by decide) (by decide) ?_
    refine x_rei ((-1)) (by decide) ?_
    refine x_istore_n (lv' := [some (.int 0), some (.int ab), some (.int ((-1))), some (.int 0)]) dX8_isUnder_32 (xlt rfl) rfl ?_
    refine x_iinc (lv' := [some (.int 0), some (.int ab), some (.int ((-1))), some (.int 1)]) (1) dX8_isUnder_33 rfl (by decide) rfl ?_
    refine x_goto dX8_isUnder_36 ?_
    refine x_iload_n dX8_isUnder_4 rfl ?_
    refine x_bipush 8 dX8_isUnder_5 (by decide) ?_
    refine x_icmp_ge dX8_isUnder_7 (fun c7 => ?_) (fun c7 => ?_)
    · exact absurd c7 (by decide)
    refine x_iload_n dX8_isUnder_10 rfl ?_
    refine x_iconst 0 dX8_isUnder_11 (by decide) ?_
    refine x_bipush 7 dX8_isUnder_12 (by decide) ?_
    refine x_cSi dX8_isUnder_14 ml_X8_89 mX8_within (ct_within_m κ.2.1 g ) rfl (Nat.le_of_ble_eq_true rfl) (by decide) (Nat.le_refl _) (Nat.le_refl _) ?_
    refine x_if_eq dX8_isUnder_17 (fun c17 => ?_) (fun c17 => ?_)
    rotate_left
    · exact absurd c17 (by decide)
    refine x_iconst 0 dX8_isUnder_39 (by decide) ?_
    rw [← hQ]
    refine x_zret dX8_isUnder_40 rfl (rfl) (Nat.le_of_ble_eq_true rfl) (Nat.le_of_ble_eq_true rfl) ?_
    exact ⟨by simp [udI, *], rfl⟩
  · have c22 : 0 = ab := c22
    refine x_iconst 1 dX8_isUnder_25 (by decide) ?_
    rw [← hQ]
    refine x_zret dX8_isUnder_26 rfl (rfl) (Nat.le_of_ble_eq_true rfl) (Nat.le_of_ble_eq_true rfl) ?_
    exact ⟨by simp [udI, *], rfl⟩

-- == under_1 ==
set_option maxRecDepth 100000 in
set_option maxHeartbeats 4000000 in
theorem ct_under_1 (l : Launch) (g : XG) (ab : Int32) : Ct l g 2 0 0 yX8_isUnder cX8_isUnder 4 (some .boolean) [.int 1, .int ab] [] (xpi (udI 1 ab) []) := by
  refine Ct.ofX (lv := [some (.int 1), some (.int ab), none, none]) (by decide) rfl (Nat.le_of_ble_eq_true rfl) (fun κ => ?_)
  generalize hQ : xQ κ g 0 0 _ = Q
  refine x_iload_n dX8_isUnder_0 rfl ?_
  refine x_istore_n (lv' := [some (.int 1), some (.int ab), some (.int 1), none]) dX8_isUnder_1 (xlt rfl) rfl ?_
  refine x_iconst 0 dX8_isUnder_2 (by decide) ?_
  refine x_istore_n (lv' := [some (.int 1), some (.int ab), some (.int 1), some (.int 0)]) dX8_isUnder_3 (xlt rfl) rfl ?_
  refine x_iload_n dX8_isUnder_4 rfl ?_
  refine x_bipush 8 dX8_isUnder_5 (by decide) ?_
  refine x_icmp_ge dX8_isUnder_7 (fun c7 => ?_) (fun c7 => ?_)
  · exact absurd c7 (by decide)
  refine x_iload_n dX8_isUnder_10 rfl ?_
  refine x_iconst 0 dX8_isUnder_11 (by decide) ?_
  refine x_bipush 7 dX8_isUnder_12 (by decide) ?_
  refine x_cSi dX8_isUnder_14 ml_X8_89 mX8_within (ct_within_n κ.2.1 g 1 0 7 (⟨by omega, by omega, by omega, by omega⟩)) rfl (Nat.le_of_ble_eq_true rfl) (by decide) (Nat.le_refl _) (Nat.le_refl _) ?_
  refine x_if_eq dX8_isUnder_17 (fun c17 => ?_) (fun c17 => ?_)
  · exact absurd c17 (by decide)
  refine x_iload_n dX8_isUnder_20 rfl ?_
  refine x_iload_n dX8_isUnder_21 rfl ?_
  refine x_icmp_ne dX8_isUnder_22 (fun c22 => ?_) (fun c22 => ?_)
  · have c22 : ¬ (1 = ab) := c22
    refine x_gets dX8_isUnder_27 (n := "KIND_ABOVE") (N := 8) (f := tKA) (fun h => h.2.1) fl_X8_286 ?_
    refine x_iload_n dX8_isUnder_30 rfl ?_
    refine x_tald dX8_isUnder_31 (n := "KIND_ABOVE") (N := 8) (f := tKA) (fun h => h.2.1) 1 (rfl) (by decide) (by decide) ?_
    refine x_rei (0) (by decide) ?_
    refine x_istore_n (lv' := [some (.int 1), some (.int ab), some (.int 0), some (.int 0)]) dX8_isUnder_32 (xlt rfl) rfl ?_
    refine x_iinc (lv' := [some (.int 1), some (.int ab), some (.int 0), some (.int 1)]) (1) dX8_isUnder_33 rfl (by decide) rfl ?_
    refine x_goto dX8_isUnder_36 ?_
    refine x_iload_n dX8_isUnder_4 rfl ?_
    refine x_bipush 8 dX8_isUnder_5 (by decide) ?_
    refine x_icmp_ge dX8_isUnder_7 (fun c7 => ?_) (fun c7 => ?_)
    · exact absurd c7 (by decide)
    refine x_iload_n dX8_isUnder_10 rfl ?_
    refine x_iconst 0 dX8_isUnder_11 (by decide) ?_
    refine x_bipush 7 dX8_isUnder_12 (by decide) ?_
    refine x_cSi dX8_isUnder_14 ml_X8_89 mX8_within (ct_within_n κ.2.1 g 0 0 7 (⟨by omega, by omega, by omega, by omega⟩)) rfl (Nat.le_of_ble_eq_true rfl) (by decide) (Nat.le_refl _) (Nat.le_refl _) ?_
    refine x_if_eq dX8_isUnder_17 (fun c17 => ?_) (fun c17 => ?_)
    · exact absurd c17 (by decide)
    refine x_iload_n dX8_isUnder_20 rfl ?_
    refine x_iload_n dX8_isUnder_21 rfl ?_
    refine x_icmp_ne dX8_isUnder_22 (fun c22 => ?_) (fun c22 => ?_)
    · have c22 : ¬ (0 = ab) := c22
      refine x_gets dX8_isUnder_27 (n := "KIND_ABOVE") (N := 8) (f := tKA) (fun h => h.2.1) fl_X8_286 ?_
      refine x_iload_n dX8_isUnder_30 rfl ?_
      refine x_tald dX8_isUnder_31 (n := "KIND_ABOVE") (N := 8) (f := tKA) (fun h => h.2.1) 0 (rfl) (by decide) (by decide) ?_
      refine x_rei ((-1)) (by decide) ?_
      refine x_istore_n (lv' := [some (.int 1), some (.int ab), some (.int ((-1))), some (.int 1)]) dX8_isUnder_32 (xlt rfl) rfl ?_
      refine x_iinc (lv' := [some (.int 1), some (.int ab), some (.int ((-1))), some (.int 2)]) (2) dX8_isUnder_33 rfl (by decide) rfl ?_
      refine x_goto dX8_isUnder_36 ?_
      refine x_iload_n dX8_isUnder_4 rfl ?_
      refine x_bipush 8 dX8_isUnder_5 (by decide) ?_
      refine x_icmp_ge dX8_isUnder_7 (fun c7 => ?_) (fun c7 => ?_)
      · exact absurd c7 (by decide)
      refine x_iload_n dX8_isUnder_10 rfl ?_
      refine x_iconst 0 dX8_isUnder_11 (by decide) ?_
      refine x_bipush 7 dX8_isUnder_12 (by decide) ?_
      refine x_cSi dX8_isUnder_14 ml_X8_89 mX8_within (ct_within_m κ.2.1 g ) rfl (Nat.le_of_ble_eq_true rfl) (by decide) (Nat.le_refl _) (Nat.le_refl _) ?_
      refine x_if_eq dX8_isUnder_17 (fun c17 => ?_) (fun c17 => ?_)
      rotate_left
      · exact absurd c17 (by decide)
      refine x_iconst 0 dX8_isUnder_39 (by decide) ?_
      rw [← hQ]
      refine x_zret dX8_isUnder_40 rfl (rfl) (Nat.le_of_ble_eq_true rfl) (Nat.le_of_ble_eq_true rfl) ?_
      exact ⟨by simp [udI, *], rfl⟩
    · have c22 : 0 = ab := c22
      refine x_iconst 1 dX8_isUnder_25 (by decide) ?_
      rw [← hQ]
      refine x_zret dX8_isUnder_26 rfl (rfl) (Nat.le_of_ble_eq_true rfl) (Nat.le_of_ble_eq_true rfl) ?_
      exact ⟨by simp [udI, *], rfl⟩
  · have c22 : 1 = ab := c22
    refine x_iconst 1 dX8_isUnder_25 (by decide) ?_
    rw [← hQ]
    refine x_zret dX8_isUnder_26 rfl (rfl) (Nat.le_of_ble_eq_true rfl) (Nat.le_of_ble_eq_true rfl) ?_
    exact ⟨by simp [udI, *], rfl⟩

-- == under_2 ==
set_option maxRecDepth 100000 in
set_option maxHeartbeats 4000000 in
theorem ct_under_2 (l : Launch) (g : XG) (ab : Int32) : Ct l g 2 0 0 yX8_isUnder cX8_isUnder 4 (some .boolean) [.int 2, .int ab] [] (xpi (udI 2 ab) []) := by
  refine Ct.ofX (lv := [some (.int 2), some (.int ab), none, none]) (by decide) rfl (Nat.le_of_ble_eq_true rfl) (fun κ => ?_)
  generalize hQ : xQ κ g 0 0 _ = Q
  refine x_iload_n dX8_isUnder_0 rfl ?_
  refine x_istore_n (lv' := [some (.int 2), some (.int ab), some (.int 2), none]) dX8_isUnder_1 (xlt rfl) rfl ?_
  refine x_iconst 0 dX8_isUnder_2 (by decide) ?_
  refine x_istore_n (lv' := [some (.int 2), some (.int ab), some (.int 2), some (.int 0)]) dX8_isUnder_3 (xlt rfl) rfl ?_
  refine x_iload_n dX8_isUnder_4 rfl ?_
  refine x_bipush 8 dX8_isUnder_5 (by decide) ?_
  refine x_icmp_ge dX8_isUnder_7 (fun c7 => ?_) (fun c7 => ?_)
  · exact absurd c7 (by decide)
  refine x_iload_n dX8_isUnder_10 rfl ?_
  refine x_iconst 0 dX8_isUnder_11 (by decide) ?_
  refine x_bipush 7 dX8_isUnder_12 (by decide) ?_
  refine x_cSi dX8_isUnder_14 ml_X8_89 mX8_within (ct_within_n κ.2.1 g 2 0 7 (⟨by omega, by omega, by omega, by omega⟩)) rfl (Nat.le_of_ble_eq_true rfl) (by decide) (Nat.le_refl _) (Nat.le_refl _) ?_
  refine x_if_eq dX8_isUnder_17 (fun c17 => ?_) (fun c17 => ?_)
  · exact absurd c17 (by decide)
  refine x_iload_n dX8_isUnder_20 rfl ?_
  refine x_iload_n dX8_isUnder_21 rfl ?_
  refine x_icmp_ne dX8_isUnder_22 (fun c22 => ?_) (fun c22 => ?_)
  · have c22 : ¬ (2 = ab) := c22
    refine x_gets dX8_isUnder_27 (n := "KIND_ABOVE") (N := 8) (f := tKA) (fun h => h.2.1) fl_X8_286 ?_
    refine x_iload_n dX8_isUnder_30 rfl ?_
    refine x_tald dX8_isUnder_31 (n := "KIND_ABOVE") (N := 8) (f := tKA) (fun h => h.2.1) 2 (rfl) (by decide) (by decide) ?_
    refine x_rei (0) (by decide) ?_
    refine x_istore_n (lv' := [some (.int 2), some (.int ab), some (.int 0), some (.int 0)]) dX8_isUnder_32 (xlt rfl) rfl ?_
    refine x_iinc (lv' := [some (.int 2), some (.int ab), some (.int 0), some (.int 1)]) (1) dX8_isUnder_33 rfl (by decide) rfl ?_
    refine x_goto dX8_isUnder_36 ?_
    refine x_iload_n dX8_isUnder_4 rfl ?_
    refine x_bipush 8 dX8_isUnder_5 (by decide) ?_
    refine x_icmp_ge dX8_isUnder_7 (fun c7 => ?_) (fun c7 => ?_)
    · exact absurd c7 (by decide)
    refine x_iload_n dX8_isUnder_10 rfl ?_
    refine x_iconst 0 dX8_isUnder_11 (by decide) ?_
    refine x_bipush 7 dX8_isUnder_12 (by decide) ?_
    refine x_cSi dX8_isUnder_14 ml_X8_89 mX8_within (ct_within_n κ.2.1 g 0 0 7 (⟨by omega, by omega, by omega, by omega⟩)) rfl (Nat.le_of_ble_eq_true rfl) (by decide) (Nat.le_refl _) (Nat.le_refl _) ?_
    refine x_if_eq dX8_isUnder_17 (fun c17 => ?_) (fun c17 => ?_)
    · exact absurd c17 (by decide)
    refine x_iload_n dX8_isUnder_20 rfl ?_
    refine x_iload_n dX8_isUnder_21 rfl ?_
    refine x_icmp_ne dX8_isUnder_22 (fun c22 => ?_) (fun c22 => ?_)
    · have c22 : ¬ (0 = ab) := c22
      refine x_gets dX8_isUnder_27 (n := "KIND_ABOVE") (N := 8) (f := tKA) (fun h => h.2.1) fl_X8_286 ?_
      refine x_iload_n dX8_isUnder_30 rfl ?_
      refine x_tald dX8_isUnder_31 (n := "KIND_ABOVE") (N := 8) (f := tKA) (fun h => h.2.1) 0 (rfl) (by decide) (by decide) ?_
      refine x_rei ((-1)) (by decide) ?_
      refine x_istore_n (lv' := [some (.int 2), some (.int ab), some (.int ((-1))), some (.int 1)]) dX8_isUnder_32 (xlt rfl) rfl ?_
      refine x_iinc (lv' := [some (.int 2), some (.int ab), some (.int ((-1))), some (.int 2)]) (2) dX8_isUnder_33 rfl (by decide) rfl ?_
      refine x_goto dX8_isUnder_36 ?_
      refine x_iload_n dX8_isUnder_4 rfl ?_
      refine x_bipush 8 dX8_isUnder_5 (by decide) ?_
      refine x_icmp_ge dX8_isUnder_7 (fun c7 => ?_) (fun c7 => ?_)
      · exact absurd c7 (by decide)
      refine x_iload_n dX8_isUnder_10 rfl ?_
      refine x_iconst 0 dX8_isUnder_11 (by decide) ?_
      refine x_bipush 7 dX8_isUnder_12 (by decide) ?_
      refine x_cSi dX8_isUnder_14 ml_X8_89 mX8_within (ct_within_m κ.2.1 g ) rfl (Nat.le_of_ble_eq_true rfl) (by decide) (Nat.le_refl _) (Nat.le_refl _) ?_
      refine x_if_eq dX8_isUnder_17 (fun c17 => ?_) (fun c17 => ?_)
      rotate_left
      · exact absurd c17 (by decide)
      refine x_iconst 0 dX8_isUnder_39 (by decide) ?_
      rw [← hQ]
      refine x_zret dX8_isUnder_40 rfl (rfl) (Nat.le_of_ble_eq_true rfl) (Nat.le_of_ble_eq_true rfl) ?_
      exact ⟨by simp [udI, *], rfl⟩
    · have c22 : 0 = ab := c22
      refine x_iconst 1 dX8_isUnder_25 (by decide) ?_
      rw [← hQ]
      refine x_zret dX8_isUnder_26 rfl (rfl) (Nat.le_of_ble_eq_true rfl) (Nat.le_of_ble_eq_true rfl) ?_
      exact ⟨by simp [udI, *], rfl⟩
  · have c22 : 2 = ab := c22
    refine x_iconst 1 dX8_isUnder_25 (by decide) ?_
    rw [← hQ]
    refine x_zret dX8_isUnder_26 rfl (rfl) (Nat.le_of_ble_eq_true rfl) (Nat.le_of_ble_eq_true rfl) ?_
    exact ⟨by simp [udI, *], rfl⟩

-- == under_3 ==
set_option maxRecDepth 100000 in
set_option maxHeartbeats 4000000 in
theorem ct_under_3 (l : Launch) (g : XG) (ab : Int32) : Ct l g 2 0 0 yX8_isUnder cX8_isUnder 4 (some .boolean) [.int 3, .int ab] [] (xpi (udI 3 ab) []) := by
  refine Ct.ofX (lv := [some (.int 3), some (.int ab), none, none]) (by decide) rfl (Nat.le_of_ble_eq_true rfl) (fun κ => ?_)
  generalize hQ : xQ κ g 0 0 _ = Q
  refine x_iload_n dX8_isUnder_0 rfl ?_
  refine x_istore_n (lv' := [some (.int 3), some (.int ab), some (.int 3), none]) dX8_isUnder_1 (xlt rfl) rfl ?_
  refine x_iconst 0 dX8_isUnder_2 (by decide) ?_
  refine x_istore_n (lv' := [some (.int 3), some (.int ab), some (.int 3), some (.int 0)]) dX8_isUnder_3 (xlt rfl) rfl ?_
  refine x_iload_n dX8_isUnder_4 rfl ?_
  refine x_bipush 8 dX8_isUnder_5 (by decide) ?_
  refine x_icmp_ge dX8_isUnder_7 (fun c7 => ?_) (fun c7 => ?_)
  · exact absurd c7 (by decide)
  refine x_iload_n dX8_isUnder_10 rfl ?_
  refine x_iconst 0 dX8_isUnder_11 (by decide) ?_
  refine x_bipush 7 dX8_isUnder_12 (by decide) ?_
  refine x_cSi dX8_isUnder_14 ml_X8_89 mX8_within (ct_within_n κ.2.1 g 3 0 7 (⟨by omega, by omega, by omega, by omega⟩)) rfl (Nat.le_of_ble_eq_true rfl) (by decide) (Nat.le_refl _) (Nat.le_refl _) ?_
  refine x_if_eq dX8_isUnder_17 (fun c17 => ?_) (fun c17 => ?_)
  · exact absurd c17 (by decide)
  refine x_iload_n dX8_isUnder_20 rfl ?_
  refine x_iload_n dX8_isUnder_21 rfl ?_
  refine x_icmp_ne dX8_isUnder_22 (fun c22 => ?_) (fun c22 => ?_)
  · have c22 : ¬ (3 = ab) := c22
    refine x_gets dX8_isUnder_27 (n := "KIND_ABOVE") (N := 8) (f := tKA) (fun h => h.2.1) fl_X8_286 ?_
    refine x_iload_n dX8_isUnder_30 rfl ?_
    refine x_tald dX8_isUnder_31 (n := "KIND_ABOVE") (N := 8) (f := tKA) (fun h => h.2.1) 3 (rfl) (by decide) (by decide) ?_
    refine x_rei (0) (by decide) ?_
    refine x_istore_n (lv' := [some (.int 3), some (.int ab), some (.int 0), some (.int 0)]) dX8_isUnder_32 (xlt rfl) rfl ?_
    refine x_iinc (lv' := [some (.int 3), some (.int ab), some (.int 0), some (.int 1)]) (1) dX8_isUnder_33 rfl (by decide) rfl ?_
    refine x_goto dX8_isUnder_36 ?_
    refine x_iload_n dX8_isUnder_4 rfl ?_
    refine x_bipush 8 dX8_isUnder_5 (by decide) ?_
    refine x_icmp_ge dX8_isUnder_7 (fun c7 => ?_) (fun c7 => ?_)
    · exact absurd c7 (by decide)
    refine x_iload_n dX8_isUnder_10 rfl ?_
    refine x_iconst 0 dX8_isUnder_11 (by decide) ?_
    refine x_bipush 7 dX8_isUnder_12 (by decide) ?_
    refine x_cSi dX8_isUnder_14 ml_X8_89 mX8_within (ct_within_n κ.2.1 g 0 0 7 (⟨by omega, by omega, by omega, by omega⟩)) rfl (Nat.le_of_ble_eq_true rfl) (by decide) (Nat.le_refl _) (Nat.le_refl _) ?_
    refine x_if_eq dX8_isUnder_17 (fun c17 => ?_) (fun c17 => ?_)
    · exact absurd c17 (by decide)
    refine x_iload_n dX8_isUnder_20 rfl ?_
    refine x_iload_n dX8_isUnder_21 rfl ?_
    refine x_icmp_ne dX8_isUnder_22 (fun c22 => ?_) (fun c22 => ?_)
    · have c22 : ¬ (0 = ab) := c22
      refine x_gets dX8_isUnder_27 (n := "KIND_ABOVE") (N := 8) (f := tKA) (fun h => h.2.1) fl_X8_286 ?_
      refine x_iload_n dX8_isUnder_30 rfl ?_
      refine x_tald dX8_isUnder_31 (n := "KIND_ABOVE") (N := 8) (f := tKA) (fun h => h.2.1) 0 (rfl) (by decide) (by decide) ?_
      refine x_rei ((-1)) (by decide) ?_
      refine x_istore_n (lv' := [some (.int 3), some (.int ab), some (.int ((-1))), some (.int 1)]) dX8_isUnder_32 (xlt rfl) rfl ?_
      refine x_iinc (lv' := [some (.int 3), some (.int ab), some (.int ((-1))), some (.int 2)]) (2) dX8_isUnder_33 rfl (by decide) rfl ?_
      refine x_goto dX8_isUnder_36 ?_
      refine x_iload_n dX8_isUnder_4 rfl ?_
      refine x_bipush 8 dX8_isUnder_5 (by decide) ?_
      refine x_icmp_ge dX8_isUnder_7 (fun c7 => ?_) (fun c7 => ?_)
      · exact absurd c7 (by decide)
      refine x_iload_n dX8_isUnder_10 rfl ?_
      refine x_iconst 0 dX8_isUnder_11 (by decide) ?_
      refine x_bipush 7 dX8_isUnder_12 (by decide) ?_
      refine x_cSi dX8_isUnder_14 ml_X8_89 mX8_within (ct_within_m κ.2.1 g ) rfl (Nat.le_of_ble_eq_true rfl) (by decide) (Nat.le_refl _) (Nat.le_refl _) ?_
      refine x_if_eq dX8_isUnder_17 (fun c17 => ?_) (fun c17 => ?_)
      rotate_left
      · exact absurd c17 (by decide)
      refine x_iconst 0 dX8_isUnder_39 (by decide) ?_
      rw [← hQ]
      refine x_zret dX8_isUnder_40 rfl (rfl) (Nat.le_of_ble_eq_true rfl) (Nat.le_of_ble_eq_true rfl) ?_
      exact ⟨by simp [udI, *], rfl⟩
    · have c22 : 0 = ab := c22
      refine x_iconst 1 dX8_isUnder_25 (by decide) ?_
      rw [← hQ]
      refine x_zret dX8_isUnder_26 rfl (rfl) (Nat.le_of_ble_eq_true rfl) (Nat.le_of_ble_eq_true rfl) ?_
      exact ⟨by simp [udI, *], rfl⟩
  · have c22 : 3 = ab := c22
    refine x_iconst 1 dX8_isUnder_25 (by decide) ?_
    rw [← hQ]
    refine x_zret dX8_isUnder_26 rfl (rfl) (Nat.le_of_ble_eq_true rfl) (Nat.le_of_ble_eq_true rfl) ?_
    exact ⟨by simp [udI, *], rfl⟩

-- == under_4 ==
set_option maxRecDepth 100000 in
set_option maxHeartbeats 4000000 in
theorem ct_under_4 (l : Launch) (g : XG) (ab : Int32) : Ct l g 2 0 0 yX8_isUnder cX8_isUnder 4 (some .boolean) [.int 4, .int ab] [] (xpi (udI 4 ab) []) := by
  refine Ct.ofX (lv := [some (.int 4), some (.int ab), none, none]) (by decide) rfl (Nat.le_of_ble_eq_true rfl) (fun κ => ?_)
  generalize hQ : xQ κ g 0 0 _ = Q
  refine x_iload_n dX8_isUnder_0 rfl ?_
  refine x_istore_n (lv' := [some (.int 4), some (.int ab), some (.int 4), none]) dX8_isUnder_1 (xlt rfl) rfl ?_
  refine x_iconst 0 dX8_isUnder_2 (by decide) ?_
  refine x_istore_n (lv' := [some (.int 4), some (.int ab), some (.int 4), some (.int 0)]) dX8_isUnder_3 (xlt rfl) rfl ?_
  refine x_iload_n dX8_isUnder_4 rfl ?_
  refine x_bipush 8 dX8_isUnder_5 (by decide) ?_
  refine x_icmp_ge dX8_isUnder_7 (fun c7 => ?_) (fun c7 => ?_)
  · exact absurd c7 (by decide)
  refine x_iload_n dX8_isUnder_10 rfl ?_
  refine x_iconst 0 dX8_isUnder_11 (by decide) ?_
  refine x_bipush 7 dX8_isUnder_12 (by decide) ?_
  refine x_cSi dX8_isUnder_14 ml_X8_89 mX8_within (ct_within_n κ.2.1 g 4 0 7 (⟨by omega, by omega, by omega, by omega⟩)) rfl (Nat.le_of_ble_eq_true rfl) (by decide) (Nat.le_refl _) (Nat.le_refl _) ?_
  refine x_if_eq dX8_isUnder_17 (fun c17 => ?_) (fun c17 => ?_)
  · exact absurd c17 (by decide)
  refine x_iload_n dX8_isUnder_20 rfl ?_
  refine x_iload_n dX8_isUnder_21 rfl ?_
  refine x_icmp_ne dX8_isUnder_22 (fun c22 => ?_) (fun c22 => ?_)
  · have c22 : ¬ (4 = ab) := c22
    refine x_gets dX8_isUnder_27 (n := "KIND_ABOVE") (N := 8) (f := tKA) (fun h => h.2.1) fl_X8_286 ?_
    refine x_iload_n dX8_isUnder_30 rfl ?_
    refine x_tald dX8_isUnder_31 (n := "KIND_ABOVE") (N := 8) (f := tKA) (fun h => h.2.1) 4 (rfl) (by decide) (by decide) ?_
    refine x_rei (0) (by decide) ?_
    refine x_istore_n (lv' := [some (.int 4), some (.int ab), some (.int 0), some (.int 0)]) dX8_isUnder_32 (xlt rfl) rfl ?_
    refine x_iinc (lv' := [some (.int 4), some (.int ab), some (.int 0), some (.int 1)]) (1) dX8_isUnder_33 rfl (by decide) rfl ?_
    refine x_goto dX8_isUnder_36 ?_
    refine x_iload_n dX8_isUnder_4 rfl ?_
    refine x_bipush 8 dX8_isUnder_5 (by decide) ?_
    refine x_icmp_ge dX8_isUnder_7 (fun c7 => ?_) (fun c7 => ?_)
    · exact absurd c7 (by decide)
    refine x_iload_n dX8_isUnder_10 rfl ?_
    refine x_iconst 0 dX8_isUnder_11 (by decide) ?_
    refine x_bipush 7 dX8_isUnder_12 (by decide) ?_
    refine x_cSi dX8_isUnder_14 ml_X8_89 mX8_within (ct_within_n κ.2.1 g 0 0 7 (⟨by omega, by omega, by omega, by omega⟩)) rfl (Nat.le_of_ble_eq_true rfl) (by decide) (Nat.le_refl _) (Nat.le_refl _) ?_
    refine x_if_eq dX8_isUnder_17 (fun c17 => ?_) (fun c17 => ?_)
    · exact absurd c17 (by decide)
    refine x_iload_n dX8_isUnder_20 rfl ?_
    refine x_iload_n dX8_isUnder_21 rfl ?_
    refine x_icmp_ne dX8_isUnder_22 (fun c22 => ?_) (fun c22 => ?_)
    · have c22 : ¬ (0 = ab) := c22
      refine x_gets dX8_isUnder_27 (n := "KIND_ABOVE") (N := 8) (f := tKA) (fun h => h.2.1) fl_X8_286 ?_
      refine x_iload_n dX8_isUnder_30 rfl ?_
      refine x_tald dX8_isUnder_31 (n := "KIND_ABOVE") (N := 8) (f := tKA) (fun h => h.2.1) 0 (rfl) (by decide) (by decide) ?_
      refine x_rei ((-1)) (by decide) ?_
      refine x_istore_n (lv' := [some (.int 4), some (.int ab), some (.int ((-1))), some (.int 1)]) dX8_isUnder_32 (xlt rfl) rfl ?_
      refine x_iinc (lv' := [some (.int 4), some (.int ab), some (.int ((-1))), some (.int 2)]) (2) dX8_isUnder_33 rfl (by decide) rfl ?_
      refine x_goto dX8_isUnder_36 ?_
      refine x_iload_n dX8_isUnder_4 rfl ?_
      refine x_bipush 8 dX8_isUnder_5 (by decide) ?_
      refine x_icmp_ge dX8_isUnder_7 (fun c7 => ?_) (fun c7 => ?_)
      · exact absurd c7 (by decide)
      refine x_iload_n dX8_isUnder_10 rfl ?_
      refine x_iconst 0 dX8_isUnder_11 (by decide) ?_
      refine x_bipush 7 dX8_isUnder_12 (by decide) ?_
      refine x_cSi dX8_isUnder_14 ml_X8_89 mX8_within (ct_within_m κ.2.1 g ) rfl (Nat.le_of_ble_eq_true rfl) (by decide) (Nat.le_refl _) (Nat.le_refl _) ?_
      refine x_if_eq dX8_isUnder_17 (fun c17 => ?_) (fun c17 => ?_)
      rotate_left
      · exact absurd c17 (by decide)
      refine x_iconst 0 dX8_isUnder_39 (by decide) ?_
      rw [← hQ]
      refine x_zret dX8_isUnder_40 rfl (rfl) (Nat.le_of_ble_eq_true rfl) (Nat.le_of_ble_eq_true rfl) ?_
      exact ⟨by simp [udI, *], rfl⟩
    · have c22 : 0 = ab := c22
      refine x_iconst 1 dX8_isUnder_25 (by decide) ?_
      rw [← hQ]
      refine x_zret dX8_isUnder_26 rfl (rfl) (Nat.le_of_ble_eq_true rfl) (Nat.le_of_ble_eq_true rfl) ?_
      exact ⟨by simp [udI, *], rfl⟩
  · have c22 : 4 = ab := c22
    refine x_iconst 1 dX8_isUnder_25 (by decide) ?_
    rw [← hQ]
    refine x_zret dX8_isUnder_26 rfl (rfl) (Nat.le_of_ble_eq_true rfl) (Nat.le_of_ble_eq_true rfl) ?_
    exact ⟨by simp [udI, *], rfl⟩

-- == under_5 ==
set_option maxRecDepth 100000 in
set_option maxHeartbeats 4000000 in
theorem ct_under_5 (l : Launch) (g : XG) (ab : Int32) : Ct l g 2 0 0 yX8_isUnder cX8_isUnder 4 (some .boolean) [.int 5, .int ab] [] (xpi (udI 5 ab) []) := by
  refine Ct.ofX (lv := [some (.int 5), some (.int ab), none, none]) (by decide) rfl (Nat.le_of_ble_eq_true rfl) (fun κ => ?_)
  generalize hQ : xQ κ g 0 0 _ = Q
  refine x_iload_n dX8_isUnder_0 rfl ?_
  refine x_istore_n (lv' := [some (.int 5), some (.int ab), some (.int 5), none]) dX8_isUnder_1 (xlt rfl) rfl ?_
  refine x_iconst 0 dX8_isUnder_2 (by decide) ?_
  refine x_istore_n (lv' := [some (.int 5), some (.int ab), some (.int 5), some (.int 0)]) dX8_isUnder_3 (xlt rfl) rfl ?_
  refine x_iload_n dX8_isUnder_4 rfl ?_
  refine x_bipush 8 dX8_isUnder_5 (by decide) ?_
  refine x_icmp_ge dX8_isUnder_7 (fun c7 => ?_) (fun c7 => ?_)
  · exact absurd c7 (by decide)
  refine x_iload_n dX8_isUnder_10 rfl ?_
  refine x_iconst 0 dX8_isUnder_11 (by decide) ?_
  refine x_bipush 7 dX8_isUnder_12 (by decide) ?_
  refine x_cSi dX8_isUnder_14 ml_X8_89 mX8_within (ct_within_n κ.2.1 g 5 0 7 (⟨by omega, by omega, by omega, by omega⟩)) rfl (Nat.le_of_ble_eq_true rfl) (by decide) (Nat.le_refl _) (Nat.le_refl _) ?_
  refine x_if_eq dX8_isUnder_17 (fun c17 => ?_) (fun c17 => ?_)
  · exact absurd c17 (by decide)
  refine x_iload_n dX8_isUnder_20 rfl ?_
  refine x_iload_n dX8_isUnder_21 rfl ?_
  refine x_icmp_ne dX8_isUnder_22 (fun c22 => ?_) (fun c22 => ?_)
  · have c22 : ¬ (5 = ab) := c22
    refine x_gets dX8_isUnder_27 (n := "KIND_ABOVE") (N := 8) (f := tKA) (fun h => h.2.1) fl_X8_286 ?_
    refine x_iload_n dX8_isUnder_30 rfl ?_
    refine x_tald dX8_isUnder_31 (n := "KIND_ABOVE") (N := 8) (f := tKA) (fun h => h.2.1) 5 (rfl) (by decide) (by decide) ?_
    refine x_rei (1) (by decide) ?_
    refine x_istore_n (lv' := [some (.int 5), some (.int ab), some (.int 1), some (.int 0)]) dX8_isUnder_32 (xlt rfl) rfl ?_
    refine x_iinc (lv' := [some (.int 5), some (.int ab), some (.int 1), some (.int 1)]) (1) dX8_isUnder_33 rfl (by decide) rfl ?_
    refine x_goto dX8_isUnder_36 ?_
    refine x_iload_n dX8_isUnder_4 rfl ?_
    refine x_bipush 8 dX8_isUnder_5 (by decide) ?_
    refine x_icmp_ge dX8_isUnder_7 (fun c7 => ?_) (fun c7 => ?_)
    · exact absurd c7 (by decide)
    refine x_iload_n dX8_isUnder_10 rfl ?_
    refine x_iconst 0 dX8_isUnder_11 (by decide) ?_
    refine x_bipush 7 dX8_isUnder_12 (by decide) ?_
    refine x_cSi dX8_isUnder_14 ml_X8_89 mX8_within (ct_within_n κ.2.1 g 1 0 7 (⟨by omega, by omega, by omega, by omega⟩)) rfl (Nat.le_of_ble_eq_true rfl) (by decide) (Nat.le_refl _) (Nat.le_refl _) ?_
    refine x_if_eq dX8_isUnder_17 (fun c17 => ?_) (fun c17 => ?_)
    · exact absurd c17 (by decide)
    refine x_iload_n dX8_isUnder_20 rfl ?_
    refine x_iload_n dX8_isUnder_21 rfl ?_
    refine x_icmp_ne dX8_isUnder_22 (fun c22 => ?_) (fun c22 => ?_)
    · have c22 : ¬ (1 = ab) := c22
      refine x_gets dX8_isUnder_27 (n := "KIND_ABOVE") (N := 8) (f := tKA) (fun h => h.2.1) fl_X8_286 ?_
      refine x_iload_n dX8_isUnder_30 rfl ?_
      refine x_tald dX8_isUnder_31 (n := "KIND_ABOVE") (N := 8) (f := tKA) (fun h => h.2.1) 1 (rfl) (by decide) (by decide) ?_
      refine x_rei (0) (by decide) ?_
      refine x_istore_n (lv' := [some (.int 5), some (.int ab), some (.int 0), some (.int 1)]) dX8_isUnder_32 (xlt rfl) rfl ?_
      refine x_iinc (lv' := [some (.int 5), some (.int ab), some (.int 0), some (.int 2)]) (2) dX8_isUnder_33 rfl (by decide) rfl ?_
      refine x_goto dX8_isUnder_36 ?_
      refine x_iload_n dX8_isUnder_4 rfl ?_
      refine x_bipush 8 dX8_isUnder_5 (by decide) ?_
      refine x_icmp_ge dX8_isUnder_7 (fun c7 => ?_) (fun c7 => ?_)
      · exact absurd c7 (by decide)
      refine x_iload_n dX8_isUnder_10 rfl ?_
      refine x_iconst 0 dX8_isUnder_11 (by decide) ?_
      refine x_bipush 7 dX8_isUnder_12 (by decide) ?_
      refine x_cSi dX8_isUnder_14 ml_X8_89 mX8_within (ct_within_n κ.2.1 g 0 0 7 (⟨by omega, by omega, by omega, by omega⟩)) rfl (Nat.le_of_ble_eq_true rfl) (by decide) (Nat.le_refl _) (Nat.le_refl _) ?_
      refine x_if_eq dX8_isUnder_17 (fun c17 => ?_) (fun c17 => ?_)
      · exact absurd c17 (by decide)
      refine x_iload_n dX8_isUnder_20 rfl ?_
      refine x_iload_n dX8_isUnder_21 rfl ?_
      refine x_icmp_ne dX8_isUnder_22 (fun c22 => ?_) (fun c22 => ?_)
      · have c22 : ¬ (0 = ab) := c22
        refine x_gets dX8_isUnder_27 (n := "KIND_ABOVE") (N := 8) (f := tKA) (fun h => h.2.1) fl_X8_286 ?_
        refine x_iload_n dX8_isUnder_30 rfl ?_
        refine x_tald dX8_isUnder_31 (n := "KIND_ABOVE") (N := 8) (f := tKA) (fun h => h.2.1) 0 (rfl) (by decide) (by decide) ?_
        refine x_rei ((-1)) (by decide) ?_
        refine x_istore_n (lv' := [some (.int 5), some (.int ab), some (.int ((-1))), some (.int 2)]) dX8_isUnder_32 (xlt rfl) rfl ?_
        refine x_iinc (lv' := [some (.int 5), some (.int ab), some (.int ((-1))), some (.int 3)]) (3) dX8_isUnder_33 rfl (by decide) rfl ?_
        refine x_goto dX8_isUnder_36 ?_
        refine x_iload_n dX8_isUnder_4 rfl ?_
        refine x_bipush 8 dX8_isUnder_5 (by decide) ?_
        refine x_icmp_ge dX8_isUnder_7 (fun c7 => ?_) (fun c7 => ?_)
        · exact absurd c7 (by decide)
        refine x_iload_n dX8_isUnder_10 rfl ?_
        refine x_iconst 0 dX8_isUnder_11 (by decide) ?_
        refine x_bipush 7 dX8_isUnder_12 (by decide) ?_
        refine x_cSi dX8_isUnder_14 ml_X8_89 mX8_within (ct_within_m κ.2.1 g ) rfl (Nat.le_of_ble_eq_true rfl) (by decide) (Nat.le_refl _) (Nat.le_refl _) ?_
        refine x_if_eq dX8_isUnder_17 (fun c17 => ?_) (fun c17 => ?_)
        rotate_left
        · exact absurd c17 (by decide)
        refine x_iconst 0 dX8_isUnder_39 (by decide) ?_
        rw [← hQ]
        refine x_zret dX8_isUnder_40 rfl (rfl) (Nat.le_of_ble_eq_true rfl) (Nat.le_of_ble_eq_true rfl) ?_
        exact ⟨by simp [udI, *], rfl⟩
      · have c22 : 0 = ab := c22
        refine x_iconst 1 dX8_isUnder_25 (by decide) ?_
        rw [← hQ]
        refine x_zret dX8_isUnder_26 rfl (rfl) (Nat.le_of_ble_eq_true rfl) (Nat.le_of_ble_eq_true rfl) ?_
        exact ⟨by simp [udI, *], rfl⟩
    · have c22 : 1 = ab := c22
      refine x_iconst 1 dX8_isUnder_25 (by decide) ?_
      rw [← hQ]
      refine x_zret dX8_isUnder_26 rfl (rfl) (Nat.le_of_ble_eq_true rfl) (Nat.le_of_ble_eq_true rfl) ?_
      exact ⟨by simp [udI, *], rfl⟩
  · have c22 : 5 = ab := c22
    refine x_iconst 1 dX8_isUnder_25 (by decide) ?_
    rw [← hQ]
    refine x_zret dX8_isUnder_26 rfl (rfl) (Nat.le_of_ble_eq_true rfl) (Nat.le_of_ble_eq_true rfl) ?_
    exact ⟨by simp [udI, *], rfl⟩

-- == under_6 ==
set_option maxRecDepth 100000 in
set_option maxHeartbeats 4000000 in
theorem ct_under_6 (l : Launch) (g : XG) (ab : Int32) : Ct l g 2 0 0 yX8_isUnder cX8_isUnder 4 (some .boolean) [.int 6, .int ab] [] (xpi (udI 6 ab) []) := by
  refine Ct.ofX (lv := [some (.int 6), some (.int ab), none, none]) (by decide) rfl (Nat.le_of_ble_eq_true rfl) (fun κ => ?_)
  generalize hQ : xQ κ g 0 0 _ = Q
  refine x_iload_n dX8_isUnder_0 rfl ?_
  refine x_istore_n (lv' := [some (.int 6), some (.int ab), some (.int 6), none]) dX8_isUnder_1 (xlt rfl) rfl ?_
  refine x_iconst 0 dX8_isUnder_2 (by decide) ?_
  refine x_istore_n (lv' := [some (.int 6), some (.int ab), some (.int 6), some (.int 0)]) dX8_isUnder_3 (xlt rfl) rfl ?_
  refine x_iload_n dX8_isUnder_4 rfl ?_
  refine x_bipush 8 dX8_isUnder_5 (by decide) ?_
  refine x_icmp_ge dX8_isUnder_7 (fun c7 => ?_) (fun c7 => ?_)
  · exact absurd c7 (by decide)
  refine x_iload_n dX8_isUnder_10 rfl ?_
  refine x_iconst 0 dX8_isUnder_11 (by decide) ?_
  refine x_bipush 7 dX8_isUnder_12 (by decide) ?_
  refine x_cSi dX8_isUnder_14 ml_X8_89 mX8_within (ct_within_n κ.2.1 g 6 0 7 (⟨by omega, by omega, by omega, by omega⟩)) rfl (Nat.le_of_ble_eq_true rfl) (by decide) (Nat.le_refl _) (Nat.le_refl _) ?_
  refine x_if_eq dX8_isUnder_17 (fun c17 => ?_) (fun c17 => ?_)
  · exact absurd c17 (by decide)
  refine x_iload_n dX8_isUnder_20 rfl ?_
  refine x_iload_n dX8_isUnder_21 rfl ?_
  refine x_icmp_ne dX8_isUnder_22 (fun c22 => ?_) (fun c22 => ?_)
  · have c22 : ¬ (6 = ab) := c22
    refine x_gets dX8_isUnder_27 (n := "KIND_ABOVE") (N := 8) (f := tKA) (fun h => h.2.1) fl_X8_286 ?_
    refine x_iload_n dX8_isUnder_30 rfl ?_
    refine x_tald dX8_isUnder_31 (n := "KIND_ABOVE") (N := 8) (f := tKA) (fun h => h.2.1) 6 (rfl) (by decide) (by decide) ?_
    refine x_rei (3) (by decide) ?_
    refine x_istore_n (lv' := [some (.int 6), some (.int ab), some (.int 3), some (.int 0)]) dX8_isUnder_32 (xlt rfl) rfl ?_
    refine x_iinc (lv' := [some (.int 6), some (.int ab), some (.int 3), some (.int 1)]) (1) dX8_isUnder_33 rfl (by decide) rfl ?_
    refine x_goto dX8_isUnder_36 ?_
    refine x_iload_n dX8_isUnder_4 rfl ?_
    refine x_bipush 8 dX8_isUnder_5 (by decide) ?_
    refine x_icmp_ge dX8_isUnder_7 (fun c7 => ?_) (fun c7 => ?_)
    · exact absurd c7 (by decide)
    refine x_iload_n dX8_isUnder_10 rfl ?_
    refine x_iconst 0 dX8_isUnder_11 (by decide) ?_
    refine x_bipush 7 dX8_isUnder_12 (by decide) ?_
    refine x_cSi dX8_isUnder_14 ml_X8_89 mX8_within (ct_within_n κ.2.1 g 3 0 7 (⟨by omega, by omega, by omega, by omega⟩)) rfl (Nat.le_of_ble_eq_true rfl) (by decide) (Nat.le_refl _) (Nat.le_refl _) ?_
    refine x_if_eq dX8_isUnder_17 (fun c17 => ?_) (fun c17 => ?_)
    · exact absurd c17 (by decide)
    refine x_iload_n dX8_isUnder_20 rfl ?_
    refine x_iload_n dX8_isUnder_21 rfl ?_
    refine x_icmp_ne dX8_isUnder_22 (fun c22 => ?_) (fun c22 => ?_)
    · have c22 : ¬ (3 = ab) := c22
      refine x_gets dX8_isUnder_27 (n := "KIND_ABOVE") (N := 8) (f := tKA) (fun h => h.2.1) fl_X8_286 ?_
      refine x_iload_n dX8_isUnder_30 rfl ?_
      refine x_tald dX8_isUnder_31 (n := "KIND_ABOVE") (N := 8) (f := tKA) (fun h => h.2.1) 3 (rfl) (by decide) (by decide) ?_
      refine x_rei (0) (by decide) ?_
      refine x_istore_n (lv' := [some (.int 6), some (.int ab), some (.int 0), some (.int 1)]) dX8_isUnder_32 (xlt rfl) rfl ?_
      refine x_iinc (lv' := [some (.int 6), some (.int ab), some (.int 0), some (.int 2)]) (2) dX8_isUnder_33 rfl (by decide) rfl ?_
      refine x_goto dX8_isUnder_36 ?_
      refine x_iload_n dX8_isUnder_4 rfl ?_
      refine x_bipush 8 dX8_isUnder_5 (by decide) ?_
      refine x_icmp_ge dX8_isUnder_7 (fun c7 => ?_) (fun c7 => ?_)
      · exact absurd c7 (by decide)
      refine x_iload_n dX8_isUnder_10 rfl ?_
      refine x_iconst 0 dX8_isUnder_11 (by decide) ?_
      refine x_bipush 7 dX8_isUnder_12 (by decide) ?_
      refine x_cSi dX8_isUnder_14 ml_X8_89 mX8_within (ct_within_n κ.2.1 g 0 0 7 (⟨by omega, by omega, by omega, by omega⟩)) rfl (Nat.le_of_ble_eq_true rfl) (by decide) (Nat.le_refl _) (Nat.le_refl _) ?_
      refine x_if_eq dX8_isUnder_17 (fun c17 => ?_) (fun c17 => ?_)
      · exact absurd c17 (by decide)
      refine x_iload_n dX8_isUnder_20 rfl ?_
      refine x_iload_n dX8_isUnder_21 rfl ?_
      refine x_icmp_ne dX8_isUnder_22 (fun c22 => ?_) (fun c22 => ?_)
      · have c22 : ¬ (0 = ab) := c22
        refine x_gets dX8_isUnder_27 (n := "KIND_ABOVE") (N := 8) (f := tKA) (fun h => h.2.1) fl_X8_286 ?_
        refine x_iload_n dX8_isUnder_30 rfl ?_
        refine x_tald dX8_isUnder_31 (n := "KIND_ABOVE") (N := 8) (f := tKA) (fun h => h.2.1) 0 (rfl) (by decide) (by decide) ?_
        refine x_rei ((-1)) (by decide) ?_
        refine x_istore_n (lv' := [some (.int 6), some (.int ab), some (.int ((-1))), some (.int 2)]) dX8_isUnder_32 (xlt rfl) rfl ?_
        refine x_iinc (lv' := [some (.int 6), some (.int ab), some (.int ((-1))), some (.int 3)]) (3) dX8_isUnder_33 rfl (by decide) rfl ?_
        refine x_goto dX8_isUnder_36 ?_
        refine x_iload_n dX8_isUnder_4 rfl ?_
        refine x_bipush 8 dX8_isUnder_5 (by decide) ?_
        refine x_icmp_ge dX8_isUnder_7 (fun c7 => ?_) (fun c7 => ?_)
        · exact absurd c7 (by decide)
        refine x_iload_n dX8_isUnder_10 rfl ?_
        refine x_iconst 0 dX8_isUnder_11 (by decide) ?_
        refine x_bipush 7 dX8_isUnder_12 (by decide) ?_
        refine x_cSi dX8_isUnder_14 ml_X8_89 mX8_within (ct_within_m κ.2.1 g ) rfl (Nat.le_of_ble_eq_true rfl) (by decide) (Nat.le_refl _) (Nat.le_refl _) ?_
        refine x_if_eq dX8_isUnder_17 (fun c17 => ?_) (fun c17 => ?_)
        rotate_left
        · exact absurd c17 (by decide)
        refine x_iconst 0 dX8_isUnder_39 (by decide) ?_
        rw [← hQ]
        refine x_zret dX8_isUnder_40 rfl (rfl) (Nat.le_of_ble_eq_true rfl) (Nat.le_of_ble_eq_true rfl) ?_
        exact ⟨by simp [udI, *], rfl⟩
      · have c22 : 0 = ab := c22
        refine x_iconst 1 dX8_isUnder_25 (by decide) ?_
        rw [← hQ]
        refine x_zret dX8_isUnder_26 rfl (rfl) (Nat.le_of_ble_eq_true rfl) (Nat.le_of_ble_eq_true rfl) ?_
        exact ⟨by simp [udI, *], rfl⟩
    · have c22 : 3 = ab := c22
      refine x_iconst 1 dX8_isUnder_25 (by decide) ?_
      rw [← hQ]
      refine x_zret dX8_isUnder_26 rfl (rfl) (Nat.le_of_ble_eq_true rfl) (Nat.le_of_ble_eq_true rfl) ?_
      exact ⟨by simp [udI, *], rfl⟩
  · have c22 : 6 = ab := c22
    refine x_iconst 1 dX8_isUnder_25 (by decide) ?_
    rw [← hQ]
    refine x_zret dX8_isUnder_26 rfl (rfl) (Nat.le_of_ble_eq_true rfl) (Nat.le_of_ble_eq_true rfl) ?_
    exact ⟨by simp [udI, *], rfl⟩

-- == under_7 ==
set_option maxRecDepth 100000 in
set_option maxHeartbeats 4000000 in
theorem ct_under_7 (l : Launch) (g : XG) (ab : Int32) : Ct l g 2 0 0 yX8_isUnder cX8_isUnder 4 (some .boolean) [.int 7, .int ab] [] (xpi (udI 7 ab) []) := by
  refine Ct.ofX (lv := [some (.int 7), some (.int ab), none, none]) (by decide) rfl (Nat.le_of_ble_eq_true rfl) (fun κ => ?_)
  generalize hQ : xQ κ g 0 0 _ = Q
  refine x_iload_n dX8_isUnder_0 rfl ?_
  refine x_istore_n (lv' := [some (.int 7), some (.int ab), some (.int 7), none]) dX8_isUnder_1 (xlt rfl) rfl ?_
  refine x_iconst 0 dX8_isUnder_2 (by decide) ?_
  refine x_istore_n (lv' := [some (.int 7), some (.int ab), some (.int 7), some (.int 0)]) dX8_isUnder_3 (xlt rfl) rfl ?_
  refine x_iload_n dX8_isUnder_4 rfl ?_
  refine x_bipush 8 dX8_isUnder_5 (by decide) ?_
  refine x_icmp_ge dX8_isUnder_7 (fun c7 => ?_) (fun c7 => ?_)
  · exact absurd c7 (by decide)
  refine x_iload_n dX8_isUnder_10 rfl ?_
  refine x_iconst 0 dX8_isUnder_11 (by decide) ?_
  refine x_bipush 7 dX8_isUnder_12 (by decide) ?_
  refine x_cSi dX8_isUnder_14 ml_X8_89 mX8_within (ct_within_n κ.2.1 g 7 0 7 (⟨by omega, by omega, by omega, by omega⟩)) rfl (Nat.le_of_ble_eq_true rfl) (by decide) (Nat.le_refl _) (Nat.le_refl _) ?_
  refine x_if_eq dX8_isUnder_17 (fun c17 => ?_) (fun c17 => ?_)
  · exact absurd c17 (by decide)
  refine x_iload_n dX8_isUnder_20 rfl ?_
  refine x_iload_n dX8_isUnder_21 rfl ?_
  refine x_icmp_ne dX8_isUnder_22 (fun c22 => ?_) (fun c22 => ?_)
  · have c22 : ¬ (7 = ab) := c22
    refine x_gets dX8_isUnder_27 (n := "KIND_ABOVE") (N := 8) (f := tKA) (fun h => h.2.1) fl_X8_286 ?_
    refine x_iload_n dX8_isUnder_30 rfl ?_
    refine x_tald dX8_isUnder_31 (n := "KIND_ABOVE") (N := 8) (f := tKA) (fun h => h.2.1) 7 (rfl) (by decide) (by decide) ?_
    refine x_rei (6) (by decide) ?_
    refine x_istore_n (lv' := [some (.int 7), some (.int ab), some (.int 6), some (.int 0)]) dX8_isUnder_32 (xlt rfl) rfl ?_
    refine x_iinc (lv' := [some (.int 7), some (.int ab), some (.int 6), some (.int 1)]) (1) dX8_isUnder_33 rfl (by decide) rfl ?_
    refine x_goto dX8_isUnder_36 ?_
    refine x_iload_n dX8_isUnder_4 rfl ?_
    refine x_bipush 8 dX8_isUnder_5 (by decide) ?_
    refine x_icmp_ge dX8_isUnder_7 (fun c7 => ?_) (fun c7 => ?_)
    · exact absurd c7 (by decide)
    refine x_iload_n dX8_isUnder_10 rfl ?_
    refine x_iconst 0 dX8_isUnder_11 (by decide) ?_
    refine x_bipush 7 dX8_isUnder_12 (by decide) ?_
    refine x_cSi dX8_isUnder_14 ml_X8_89 mX8_within (ct_within_n κ.2.1 g 6 0 7 (⟨by omega, by omega, by omega, by omega⟩)) rfl (Nat.le_of_ble_eq_true rfl) (by decide) (Nat.le_refl _) (Nat.le_refl _) ?_
    refine x_if_eq dX8_isUnder_17 (fun c17 => ?_) (fun c17 => ?_)
    · exact absurd c17 (by decide)
    refine x_iload_n dX8_isUnder_20 rfl ?_
    refine x_iload_n dX8_isUnder_21 rfl ?_
    refine x_icmp_ne dX8_isUnder_22 (fun c22 => ?_) (fun c22 => ?_)
    · have c22 : ¬ (6 = ab) := c22
      refine x_gets dX8_isUnder_27 (n := "KIND_ABOVE") (N := 8) (f := tKA) (fun h => h.2.1) fl_X8_286 ?_
      refine x_iload_n dX8_isUnder_30 rfl ?_
      refine x_tald dX8_isUnder_31 (n := "KIND_ABOVE") (N := 8) (f := tKA) (fun h => h.2.1) 6 (rfl) (by decide) (by decide) ?_
      refine x_rei (3) (by decide) ?_
      refine x_istore_n (lv' := [some (.int 7), some (.int ab), some (.int 3), some (.int 1)]) dX8_isUnder_32 (xlt rfl) rfl ?_
      refine x_iinc (lv' := [some (.int 7), some (.int ab), some (.int 3), some (.int 2)]) (2) dX8_isUnder_33 rfl (by decide) rfl ?_
      refine x_goto dX8_isUnder_36 ?_
      refine x_iload_n dX8_isUnder_4 rfl ?_
      refine x_bipush 8 dX8_isUnder_5 (by decide) ?_
      refine x_icmp_ge dX8_isUnder_7 (fun c7 => ?_) (fun c7 => ?_)
      · exact absurd c7 (by decide)
      refine x_iload_n dX8_isUnder_10 rfl ?_
      refine x_iconst 0 dX8_isUnder_11 (by decide) ?_
      refine x_bipush 7 dX8_isUnder_12 (by decide) ?_
      refine x_cSi dX8_isUnder_14 ml_X8_89 mX8_within (ct_within_n κ.2.1 g 3 0 7 (⟨by omega, by omega, by omega, by omega⟩)) rfl (Nat.le_of_ble_eq_true rfl) (by decide) (Nat.le_refl _) (Nat.le_refl _) ?_
      refine x_if_eq dX8_isUnder_17 (fun c17 => ?_) (fun c17 => ?_)
      · exact absurd c17 (by decide)
      refine x_iload_n dX8_isUnder_20 rfl ?_
      refine x_iload_n dX8_isUnder_21 rfl ?_
      refine x_icmp_ne dX8_isUnder_22 (fun c22 => ?_) (fun c22 => ?_)
      · have c22 : ¬ (3 = ab) := c22
        refine x_gets dX8_isUnder_27 (n := "KIND_ABOVE") (N := 8) (f := tKA) (fun h => h.2.1) fl_X8_286 ?_
        refine x_iload_n dX8_isUnder_30 rfl ?_
        refine x_tald dX8_isUnder_31 (n := "KIND_ABOVE") (N := 8) (f := tKA) (fun h => h.2.1) 3 (rfl) (by decide) (by decide) ?_
        refine x_rei (0) (by decide) ?_
        refine x_istore_n (lv' := [some (.int 7), some (.int ab), some (.int 0), some (.int 2)]) dX8_isUnder_32 (xlt rfl) rfl ?_
        refine x_iinc (lv' := [some (.int 7), some (.int ab), some (.int 0), some (.int 3)]) (3) dX8_isUnder_33 rfl (by decide) rfl ?_
        refine x_goto dX8_isUnder_36 ?_
        refine x_iload_n dX8_isUnder_4 rfl ?_
        refine x_bipush 8 dX8_isUnder_5 (by decide) ?_
        refine x_icmp_ge dX8_isUnder_7 (fun c7 => ?_) (fun c7 => ?_)
        · exact absurd c7 (by decide)
        refine x_iload_n dX8_isUnder_10 rfl ?_
        refine x_iconst 0 dX8_isUnder_11 (by decide) ?_
        refine x_bipush 7 dX8_isUnder_12 (by decide) ?_
        refine x_cSi dX8_isUnder_14 ml_X8_89 mX8_within (ct_within_n κ.2.1 g 0 0 7 (⟨by omega, by omega, by omega, by omega⟩)) rfl (Nat.le_of_ble_eq_true rfl) (by decide) (Nat.le_refl _) (Nat.le_refl _) ?_
        refine x_if_eq dX8_isUnder_17 (fun c17 => ?_) (fun c17 => ?_)
        · exact absurd c17 (by decide)
        refine x_iload_n dX8_isUnder_20 rfl ?_
        refine x_iload_n dX8_isUnder_21 rfl ?_
        refine x_icmp_ne dX8_isUnder_22 (fun c22 => ?_) (fun c22 => ?_)
        · have c22 : ¬ (0 = ab) := c22
          refine x_gets dX8_isUnder_27 (n := "KIND_ABOVE") (N := 8) (f := tKA) (fun h => h.2.1) fl_X8_286 ?_
          refine x_iload_n dX8_isUnder_30 rfl ?_
          refine x_tald dX8_isUnder_31 (n := "KIND_ABOVE") (N := 8) (f := tKA) (fun h => h.2.1) 0 (rfl) (by decide) (by decide) ?_
          refine x_rei ((-1)) (by decide) ?_
          refine x_istore_n (lv' := [some (.int 7), some (.int ab), some (.int ((-1))), some (.int 3)]) dX8_isUnder_32 (xlt rfl) rfl ?_
          refine x_iinc (lv' := [some (.int 7), some (.int ab), some (.int ((-1))), some (.int 4)]) (4) dX8_isUnder_33 rfl (by decide) rfl ?_
          refine x_goto dX8_isUnder_36 ?_
          refine x_iload_n dX8_isUnder_4 rfl ?_
          refine x_bipush 8 dX8_isUnder_5 (by decide) ?_
          refine x_icmp_ge dX8_isUnder_7 (fun c7 => ?_) (fun c7 => ?_)
          · exact absurd c7 (by decide)
          refine x_iload_n dX8_isUnder_10 rfl ?_
          refine x_iconst 0 dX8_isUnder_11 (by decide) ?_
          refine x_bipush 7 dX8_isUnder_12 (by decide) ?_
          refine x_cSi dX8_isUnder_14 ml_X8_89 mX8_within (ct_within_m κ.2.1 g ) rfl (Nat.le_of_ble_eq_true rfl) (by decide) (Nat.le_refl _) (Nat.le_refl _) ?_
          refine x_if_eq dX8_isUnder_17 (fun c17 => ?_) (fun c17 => ?_)
          rotate_left
          · exact absurd c17 (by decide)
          refine x_iconst 0 dX8_isUnder_39 (by decide) ?_
          rw [← hQ]
          refine x_zret dX8_isUnder_40 rfl (rfl) (Nat.le_of_ble_eq_true rfl) (Nat.le_of_ble_eq_true rfl) ?_
          exact ⟨by simp [udI, *], rfl⟩
        · have c22 : 0 = ab := c22
          refine x_iconst 1 dX8_isUnder_25 (by decide) ?_
          rw [← hQ]
          refine x_zret dX8_isUnder_26 rfl (rfl) (Nat.le_of_ble_eq_true rfl) (Nat.le_of_ble_eq_true rfl) ?_
          exact ⟨by simp [udI, *], rfl⟩
      · have c22 : 3 = ab := c22
        refine x_iconst 1 dX8_isUnder_25 (by decide) ?_
        rw [← hQ]
        refine x_zret dX8_isUnder_26 rfl (rfl) (Nat.le_of_ble_eq_true rfl) (Nat.le_of_ble_eq_true rfl) ?_
        exact ⟨by simp [udI, *], rfl⟩
    · have c22 : 6 = ab := c22
      refine x_iconst 1 dX8_isUnder_25 (by decide) ?_
      rw [← hQ]
      refine x_zret dX8_isUnder_26 rfl (rfl) (Nat.le_of_ble_eq_true rfl) (Nat.le_of_ble_eq_true rfl) ?_
      exact ⟨by simp [udI, *], rfl⟩
  · have c22 : 7 = ab := c22
    refine x_iconst 1 dX8_isUnder_25 (by decide) ?_
    rw [← hQ]
    refine x_zret dX8_isUnder_26 rfl (rfl) (Nat.le_of_ble_eq_true rfl) (Nat.le_of_ble_eq_true rfl) ?_
    exact ⟨by simp [udI, *], rfl⟩

-- == X8_isUnder ==
theorem ct_X8_isUnder (l : Launch) (g : XG) (kd : Nat) (ab : Int32) (hkd : kd ≤ 7) : Ct l g 2 0 0 yX8_isUnder cX8_isUnder 4 (some .boolean) [.int (nI kd), .int ab] [] (xpi (udI kd ab) []) := by
  rcases (by omega : kd = 0 ∨ kd = 1 ∨ kd = 2 ∨ kd = 3 ∨ kd = 4 ∨ kd = 5 ∨ kd = 6 ∨ kd = 7) with rfl | rfl | rfl | rfl | rfl | rfl | rfl | rfl
  · exact ct_under_0 l g ab
  · exact ct_under_1 l g ab
  · exact ct_under_2 l g ab
  · exact ct_under_3 l g ab
  · exact ct_under_4 l g ab
  · exact ct_under_5 l g ab
  · exact ct_under_6 l g ab
  · exact ct_under_7 l g ab

-- == X8_drawByLots ==
theorem dX8_drawByLots_0 : xd cX8_drawByLots 0 (.iconst 0) 1 1 := ⟨by decide +kernel, rfl⟩
theorem dX8_drawByLots_1 : xd cX8_drawByLots 1 (.istore_n 1) 1 2 := ⟨by decide +kernel, rfl⟩
theorem dX8_drawByLots_2 : xd cX8_drawByLots 2 (.iconst 0) 1 3 := ⟨by decide +kernel, rfl⟩
theorem dX8_drawByLots_3 : xd cX8_drawByLots 3 (.istore_n 2) 1 4 := ⟨by decide +kernel, rfl⟩
theorem dX8_drawByLots_4 : xd cX8_drawByLots 4 (.iload_n 2) 1 5 := ⟨by decide +kernel, rfl⟩
theorem dX8_drawByLots_5 : xd cX8_drawByLots 5 (.ldc_w 289) 3 8 := ⟨by decide +kernel, rfl⟩
theorem dX8_drawByLots_8 : xj cX8_drawByLots 8 (.if_icmp .ge) 11 65 := ⟨57, by decide +kernel, rfl, by decide⟩
theorem dX8_drawByLots_11 : xd cX8_drawByLots 11 (.iload_n 1) 1 12 := ⟨by decide +kernel, rfl⟩
theorem dX8_drawByLots_12 : xd cX8_drawByLots 12 (.invokestatic 281) 3 15 := ⟨by decide +kernel, rfl⟩
theorem dX8_drawByLots_15 : xd cX8_drawByLots 15 (.iconst 4) 1 16 := ⟨by decide +kernel, rfl⟩
theorem dX8_drawByLots_16 : xj cX8_drawByLots 16 (.if_icmp .ge) 19 65 := ⟨49, by decide +kernel, rfl, by decide⟩
theorem dX8_drawByLots_19 : xd cX8_drawByLots 19 (.aload_n 0) 1 20 := ⟨by decide +kernel, rfl⟩
theorem dX8_drawByLots_20 : xd cX8_drawByLots 20 (.getfield 10) 3 23 := ⟨by decide +kernel, rfl⟩
theorem dX8_drawByLots_23 : xd cX8_drawByLots 23 (.aload_n 0) 1 24 := ⟨by decide +kernel, rfl⟩
theorem dX8_drawByLots_24 : xd cX8_drawByLots 24 (.getfield 10) 3 27 := ⟨by decide +kernel, rfl⟩
theorem dX8_drawByLots_27 : xd cX8_drawByLots 27 (.getfield 175) 3 30 := ⟨by decide +kernel, rfl⟩
theorem dX8_drawByLots_30 : xd cX8_drawByLots 30 (.ldc_w 290) 3 33 := ⟨by decide +kernel, rfl⟩
theorem dX8_drawByLots_33 : xd cX8_drawByLots 33 .imul 1 34 := ⟨by decide +kernel, rfl⟩
theorem dX8_drawByLots_34 : xd cX8_drawByLots 34 (.sipush 12345) 3 37 := ⟨by decide +kernel, rfl⟩
theorem dX8_drawByLots_37 : xd cX8_drawByLots 37 .iadd 1 38 := ⟨by decide +kernel, rfl⟩
theorem dX8_drawByLots_38 : xd cX8_drawByLots 38 (.putfield 175) 3 41 := ⟨by decide +kernel, rfl⟩
theorem dX8_drawByLots_41 : xd cX8_drawByLots 41 (.iload_n 1) 1 42 := ⟨by decide +kernel, rfl⟩
theorem dX8_drawByLots_42 : xd cX8_drawByLots 42 (.iconst 1) 1 43 := ⟨by decide +kernel, rfl⟩
theorem dX8_drawByLots_43 : xd cX8_drawByLots 43 (.aload_n 0) 1 44 := ⟨by decide +kernel, rfl⟩
theorem dX8_drawByLots_44 : xd cX8_drawByLots 44 (.getfield 10) 3 47 := ⟨by decide +kernel, rfl⟩
theorem dX8_drawByLots_47 : xd cX8_drawByLots 47 (.getfield 175) 3 50 := ⟨by decide +kernel, rfl⟩
theorem dX8_drawByLots_50 : xd cX8_drawByLots 50 (.bipush 16) 2 52 := ⟨by decide +kernel, rfl⟩
theorem dX8_drawByLots_52 : xd cX8_drawByLots 52 .iushr 1 53 := ⟨by decide +kernel, rfl⟩
theorem dX8_drawByLots_53 : xd cX8_drawByLots 53 (.bipush 12) 2 55 := ⟨by decide +kernel, rfl⟩
theorem dX8_drawByLots_55 : xd cX8_drawByLots 55 .irem 1 56 := ⟨by decide +kernel, rfl⟩
theorem dX8_drawByLots_56 : xd cX8_drawByLots 56 .ishl 1 57 := ⟨by decide +kernel, rfl⟩
theorem dX8_drawByLots_57 : xd cX8_drawByLots 57 .ior 1 58 := ⟨by decide +kernel, rfl⟩
theorem dX8_drawByLots_58 : xd cX8_drawByLots 58 (.istore_n 1) 1 59 := ⟨by decide +kernel, rfl⟩
theorem dX8_drawByLots_59 : xd cX8_drawByLots 59 (.iinc 2 1) 3 62 := ⟨by decide +kernel, rfl⟩
theorem dX8_drawByLots_62 : xj cX8_drawByLots 62 .goto 65 4 := ⟨(-58), by decide +kernel, rfl, by decide⟩
theorem dX8_drawByLots_65 : xd cX8_drawByLots 65 (.iload_n 1) 1 66 := ⟨by decide +kernel, rfl⟩
theorem dX8_drawByLots_66 : xd cX8_drawByLots 66 .ireturn 1 67 := ⟨by decide +kernel, rfl⟩

set_option maxRecDepth 100000 in
set_option maxHeartbeats 4000000 in
theorem ct_X8_drawByLots (l : Launch) (g : XG) (aM aS aK aL aC aW aR aT aH aF : Nat) (ts : Nat) (kp : Int32) (aSk aSm aSp aSt aSc aSr aSe gr br cs wk : Nat) (z : Int32) (K : Nat) (hK1 : K ≤ 300000) (hK2 : ∀ j, j < K → popN (dT z j) < 4) (hK3 : 4 ≤ popN (dT z K)) : Ct l g 2 0 0 yX8_drawByLots cX8_drawByLots 3 (some .int) [.ref aM] [(aM, .inr (8, [.ref aS, .ref aK, .ref aL, .ref aC, .ref aW, .ref aR, .ref aT, .ref aH, .ref aF, .int (nI ts), .int kp])), (aS, .inr (6, [.ref aSk, .ref aSm, .ref aSp, .ref aSt, .ref aSc, .ref aSr, .ref aSe, .int (nI gr), .int (nI br), .int (nI cs), .int (nI wk), .int z]))] (xpi (nI (dT z K)) [(aM, .inr (8, [.ref aS, .ref aK, .ref aL, .ref aC, .ref aW, .ref aR, .ref aT, .ref aH, .ref aF, .int (nI ts), .int kp])), (aS, .inr (6, [.ref aSk, .ref aSm, .ref aSp, .ref aSt, .ref aSc, .ref aSr, .ref aSe, .int (nI gr), .int (nI br), .int (nI cs), .int (nI wk), .int (zT z K)]))]) := by
  refine Ct.ofX (lv := [some (.ref aM), none, none]) (by decide) rfl (Nat.le_of_ble_eq_true rfl) (fun κ => ?_)
  generalize hQ : xQ κ g 0 0 _ = Q
  refine x_iconst 0 dX8_drawByLots_0 (by decide) ?_
  refine x_istore_n (lv' := [some (.ref aM), some (.int 0), none]) dX8_drawByLots_1 (xlt rfl) rfl ?_
  refine x_iconst 0 dX8_drawByLots_2 (by decide) ?_
  refine x_istore_n (lv' := [some (.ref aM), some (.int 0), some (.int 0)]) dX8_drawByLots_3 (xlt rfl) rfl ?_
  have L4_1 : ∀ (i : Nat), i ≤ K → ∀ (zz : Int32), zz = zT z i → ∀ (dd : Nat), dd = dT z i → Xs κ g 2 0 0 cX8_drawByLots yX8_drawByLots (some .int) Q 0 0 4 [some (.ref aM), some (.int (nI dd)), some (.int (nI i))] [] [(aM, .inr (8, [.ref aS, .ref aK, .ref aL, .ref aC, .ref aW, .ref aR, .ref aT, .ref aH, .ref aF, .int (nI ts), .int kp])), (aS, .inr (6, [.ref aSk, .ref aSm, .ref aSp, .ref aSt, .ref aSc, .ref aSr, .ref aSe, .int (nI gr), .int (nI br), .int (nI cs), .int (nI wk), .int zz]))] := by
    refine upTo K (fun i hi4 ih4 => ?_)
    intro zz ezz
    subst ezz
    intro dd edd
    subst edd
    have hdl := dT_lt z i
    have hpl := popN_le (dT z i)
    refine x_iload_n dX8_drawByLots_4 rfl ?_
    refine x_ldcw dX8_drawByLots_5 k_X8_289 ?_
    refine x_icmp_ge dX8_drawByLots_8 (fun c8 => ?_) (fun c8 => ?_)
    · have c8 : 1000000 ≤ (nI i) := c8
      have c8n := (nI_leI (a := 1000000) (b := i) (by omega) (by omega)).mp c8
      exact absurd c8n (by omega)
    · have c8 : ¬ (1000000 ≤ (nI i)) := c8
      have c8n := mt (nI_leI (a := 1000000) (b := i) (by omega) (by omega)).mpr c8
      refine x_iload_n dX8_drawByLots_11 rfl ?_
      refine x_cSi dX8_drawByLots_12 ml_X8_281 mJ6_bitCount_0f7a4 (ct_bitCount_n κ.2.1 g (dT z i) (dT_lt z i)) rfl (Nat.le_of_ble_eq_true rfl) (by decide) (Nat.le_refl _) (Nat.le_refl _) ?_
      refine x_iconst 4 dX8_drawByLots_15 (by decide) ?_
      refine x_icmp_ge dX8_drawByLots_16 (fun c16 => ?_) (fun c16 => ?_)
      · have c16 : 4 ≤ (nI (popN (dT z i))) := c16
        have c16n := (nI_leI (a := 4) (b := (popN (dT z i))) (by omega) (by omega)).mp c16
        have hxK : i = K := by rcases Nat.lt_or_ge i K with q | q; have := hK2 i q; omega; omega
        rw [hxK]
        refine x_iload_n dX8_drawByLots_65 rfl ?_
        rw [← hQ]
        refine x_iret dX8_drawByLots_66 rfl (Nat.le_of_ble_eq_true rfl) (Nat.le_of_ble_eq_true rfl) ?_
        exact ⟨rfl, rfl⟩
      · have c16 : ¬ (4 ≤ (nI (popN (dT z i)))) := c16
        have c16n := mt (nI_leI (a := 4) (b := (popN (dT z i))) (by omega) (by omega)).mpr c16
        have hltK : i < K := by rcases Nat.lt_or_ge i K with q | q; exact q; have e : i = K := (by omega); rw [e] at c16n; omega
        refine x_aload_n dX8_drawByLots_19 rfl ?_
        refine x_get dX8_drawByLots_20 0 0 inX8 fl_X8_10 rfl rfl (by decide) rfl ?_
        refine x_aload_n dX8_drawByLots_23 rfl ?_
        refine x_get dX8_drawByLots_24 0 0 inX8 fl_X8_10 rfl rfl (by decide) rfl ?_
        refine x_get dX8_drawByLots_27 1 11 inX6 fl_X8_175 rfl rfl (by decide) rfl ?_
        refine x_ldcw dX8_drawByLots_30 k_X8_290 ?_
        refine x_imul dX8_drawByLots_33 ?_
        refine x_sipush 12345 dX8_drawByLots_34 (by decide) ?_
        refine x_iadd dX8_drawByLots_37 ?_
        refine x_put (ws' := [(aM, .inr (8, [.ref aS, .ref aK, .ref aL, .ref aC, .ref aW, .ref aR, .ref aT, .ref aH, .ref aF, .int (nI ts), .int kp])), (aS, .inr (6, [.ref aSk, .ref aSm, .ref aSp, .ref aSt, .ref aSc, .ref aSr, .ref aSe, .int (nI gr), .int (nI br), .int (nI cs), .int (nI wk), .int (((zT z i) * 1103515245) + 12345)]))]) dX8_drawByLots_38 1 11 inX6 tyX6_ok nmX6 fl_X8_175 rfl rfl (by decide) rfl (rfl) rfl (xlt rfl) rfl ?_
        refine x_iload_n dX8_drawByLots_41 rfl ?_
        refine x_iconst 1 dX8_drawByLots_42 (by decide) ?_
        refine x_aload_n dX8_drawByLots_43 rfl ?_
        refine x_get dX8_drawByLots_44 0 0 inX8 fl_X8_10 rfl rfl (by decide) rfl ?_
        refine x_get dX8_drawByLots_47 1 11 inX6 fl_X8_175 rfl rfl (by decide) rfl ?_
        refine x_bipush 16 dX8_drawByLots_50 (by decide) ?_
        refine x_iushr dX8_drawByLots_52 ?_
        refine x_bipush 12 dX8_drawByLots_53 (by decide) ?_
        refine x_irem dX8_drawByLots_55 (by decide) ?_
        refine x_ishl dX8_drawByLots_56 ?_
        refine x_rei (nI (2 ^ lotN (zT z (i + 1)))) (lot_eq (zT z (i + 1))) ?_
        refine x_ior dX8_drawByLots_57 ?_
        refine x_rei (nI ((dT z i) ||| (2 ^ lotN (zT z (i + 1))))) (nI_ior (dT z i) (2 ^ lotN (zT z (i + 1)))) ?_
        refine x_istore_n (lv' := [some (.ref aM), some (.int (nI ((dT z i) ||| (2 ^ lotN (zT z (i + 1)))))), some (.int (nI i))]) dX8_drawByLots_58 (xlt rfl) rfl ?_
        refine x_iinc (lv' := [some (.ref aM), some (.int (nI ((dT z i) ||| (2 ^ lotN (zT z (i + 1)))))), some (.int (nI (i + 1)))]) (nI (i + 1)) dX8_drawByLots_59 rfl (nI_addc i 1 rfl) rfl ?_
        refine x_goto dX8_drawByLots_62 ?_
        exact ih4 (by omega) _ (by rfl) ((dT z i) ||| (2 ^ lotN (zT z (i + 1)))) (by rfl)
  exact L4_1 0 (Nat.zero_le _) _ (by rfl) 0 (by rfl)

