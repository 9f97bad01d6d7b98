theorem sumL_i32 (f : Nat → Int64) : ∀ n, (sumL f n).toInt32 = sumI (fun k => (f k).toInt32) n
  | 0 => rfl
  | n + 1 => by simp only [sumL, sumI, Int64.toInt32_add, sumL_i32 f n]
theorem ov_win (cr : Nat → Nat) {p r : Nat} (hr : r ≤ 4) : (ovS r (fun q => (nI (cr q)).toInt64) p).toInt32 = nI (winN cr (rowB p) r) := by
  unfold ovS
  rw [sumL_i32, winN, winT, if_pos hr, ← sumI_nI]
  apply sumI_cong
  intro k hk
  split
  · simp
  · rfl
def thF (cr : Nat → Nat) : Nat → Nat := fun p => winN cr (rowB p) 3
def twF (cr : Nat → Nat) : Nat → Nat := fun p => winN cr (rowB p) 2
def crL (cr : Nat → Nat) : Nat → Int64 := fun q => (nI (cr q)).toInt64
def bvF (ru : Nat → Nat) (pot : Int64) (cr th tw : Nat → Nat) (r : Nat) : Nat → Int64 := fun d => oneG ru (partL ru r pot) (wnA cr th tw r d) 1
/-- all that a cross of each row gets, over all draws -/
def bsS (ru : Nat → Nat) (pot : Int64) (cr th tw : Nat → Nat) : Nat → Int64 := fun p => 0 + ovS 4 (bvF ru pot cr th tw 4) p + ovS 3 (bvF ru pot cr th tw 3) p + ovS 2 (bvF ru pot cr th tw 2) p
def bsT (S : Nat → Int64) : Nat → Nat
  | 0 => 0
  | i + 1 => if lg_cmp (S i / 495) (S (bsT S i) / 495) ≤ 0 then bsT S i else i
theorem bsT_lt (S : Nat → Int64) : ∀ {i N : Nat}, 0 < N → i ≤ N → bsT S i < N
  | 0, N, h, _ => h
  | i + 1, N, h, h2 => by
    have ih := bsT_lt S h (show i ≤ N by omega)
    simp only [bsT]; split
    · exact ih
    · omega
def hsI (ru : Nat → Nat) (pot : Int64) (cr th tw : Nat → Nat) (tv : Nat → Int64) (r : Nat) : Nat → Int64 := sumL (fun d => ovS r tv d * oneG ru (partL ru r pot) (wnA cr th tw r d) (ovS r tv d))
def hsL (ru : Nat → Nat) (pot : Int64) (cr th tw : Nat → Nat) (tv : Nat → Int64) (n : Nat) : Int64 := (0 + hsI ru pot cr th tw tv 4 495 + hsI ru pot cr th tw tv 3 495 + hsI ru pot cr th tw tv 2 495) / 495 - (nI n).toInt64 * (nI (ru 0)).toInt64
theorem accL (f : Nat → Int64) (s : Int64) (i : Nat) : s + sumL f i + f i = s + sumL f (i + 1) := by simp only [sumL, Int64.add_assoc]

-- == settleW_0 ==
theorem dX0_settleWinners_0 : xd cX0_settleWinners 0 (.aload_n 0) 1 1 := ⟨by decide +kernel, rfl⟩
theorem dX0_settleWinners_1 : xd cX0_settleWinners 1 (.invokevirtual 119) 3 4 := ⟨by decide +kernel, rfl⟩
theorem dX0_settleWinners_4 : xd cX0_settleWinners 4 (.aload_n 0) 1 5 := ⟨by decide +kernel, rfl⟩
theorem dX0_settleWinners_5 : xd cX0_settleWinners 5 (.getfield 55) 3 8 := ⟨by decide +kernel, rfl⟩
theorem dX0_settleWinners_8 : xj cX0_settleWinners 8 (.ifCond .eq) 11 12 := ⟨4, by decide +kernel, rfl, by decide⟩
theorem dX0_settleWinners_11 : xd cX0_settleWinners 11 .return_ 1 12 := ⟨by decide +kernel, rfl⟩
theorem dX0_settleWinners_12 : xd cX0_settleWinners 12 (.iconst 0) 1 13 := ⟨by decide +kernel, rfl⟩
theorem dX0_settleWinners_13 : xd cX0_settleWinners 13 (.istore_n 1) 1 14 := ⟨by decide +kernel, rfl⟩
theorem dX0_settleWinners_14 : xd cX0_settleWinners 14 (.iload_n 1) 1 15 := ⟨by decide +kernel, rfl⟩
theorem dX0_settleWinners_15 : xd cX0_settleWinners 15 (.sipush 495) 3 18 := ⟨by decide +kernel, rfl⟩
theorem dX0_settleWinners_18 : xj cX0_settleWinners 18 (.if_icmp .ge) 21 43 := ⟨25, by decide +kernel, rfl, by decide⟩
theorem dX0_settleWinners_21 : xd cX0_settleWinners 21 (.aload_n 0) 1 22 := ⟨by decide +kernel, rfl⟩
theorem dX0_settleWinners_22 : xd cX0_settleWinners 22 (.getfield 38) 3 25 := ⟨by decide +kernel, rfl⟩
theorem dX0_settleWinners_25 : xd cX0_settleWinners 25 (.getfield 122) 3 28 := ⟨by decide +kernel, rfl⟩
theorem dX0_settleWinners_28 : xd cX0_settleWinners 28 (.iload_n 1) 1 29 := ⟨by decide +kernel, rfl⟩
theorem dX0_settleWinners_29 : xd cX0_settleWinners 29 (.aload_n 0) 1 30 := ⟨by decide +kernel, rfl⟩
theorem dX0_settleWinners_30 : xd cX0_settleWinners 30 (.getfield 24) 3 33 := ⟨by decide +kernel, rfl⟩
theorem dX0_settleWinners_33 : xd cX0_settleWinners 33 (.iload_n 1) 1 34 := ⟨by decide +kernel, rfl⟩
theorem dX0_settleWinners_34 : xd cX0_settleWinners 34 .iaload 1 35 := ⟨by decide +kernel, rfl⟩
theorem dX0_settleWinners_35 : xd cX0_settleWinners 35 .i2l 1 36 := ⟨by decide +kernel, rfl⟩
theorem dX0_settleWinners_36 : xd cX0_settleWinners 36 .lastore 1 37 := ⟨by decide +kernel, rfl⟩
theorem dX0_settleWinners_37 : xd cX0_settleWinners 37 (.iinc 1 1) 3 40 := ⟨by decide +kernel, rfl⟩
theorem dX0_settleWinners_40 : xj cX0_settleWinners 40 .goto 43 14 := ⟨(-26), by decide +kernel, rfl, by decide⟩
theorem dX0_settleWinners_43 : xd cX0_settleWinners 43 (.aload_n 0) 1 44 := ⟨by decide +kernel, rfl⟩
theorem dX0_settleWinners_44 : xd cX0_settleWinners 44 (.getfield 38) 3 47 := ⟨by decide +kernel, rfl⟩
theorem dX0_settleWinners_47 : xd cX0_settleWinners 47 (.invokevirtual 128) 3 50 := ⟨by decide +kernel, rfl⟩
theorem dX0_settleWinners_50 : xd cX0_settleWinners 50 (.iconst 0) 1 51 := ⟨by decide +kernel, rfl⟩
theorem dX0_settleWinners_51 : xd cX0_settleWinners 51 (.istore_n 1) 1 52 := ⟨by decide +kernel, rfl⟩
theorem dX0_settleWinners_52 : xd cX0_settleWinners 52 (.iload_n 1) 1 53 := ⟨by decide +kernel, rfl⟩
theorem dX0_settleWinners_53 : xd cX0_settleWinners 53 (.sipush 495) 3 56 := ⟨by decide +kernel, rfl⟩
theorem dX0_settleWinners_56 : xj cX0_settleWinners 56 (.if_icmp .ge) 59 97 := ⟨41, by decide +kernel, rfl, by decide⟩
theorem dX0_settleWinners_59 : xd cX0_settleWinners 59 (.aload_n 0) 1 60 := ⟨by decide +kernel, rfl⟩
theorem dX0_settleWinners_60 : xd cX0_settleWinners 60 (.getfield 18) 3 63 := ⟨by decide +kernel, rfl⟩
theorem dX0_settleWinners_63 : xd cX0_settleWinners 63 (.iload_n 1) 1 64 := ⟨by decide +kernel, rfl⟩
theorem dX0_settleWinners_64 : xd cX0_settleWinners 64 (.aload_n 0) 1 65 := ⟨by decide +kernel, rfl⟩
theorem dX0_settleWinners_65 : xd cX0_settleWinners 65 (.getfield 38) 3 68 := ⟨by decide +kernel, rfl⟩
theorem dX0_settleWinners_68 : xd cX0_settleWinners 68 (.iconst 3) 1 69 := ⟨by decide +kernel, rfl⟩
theorem dX0_settleWinners_69 : xd cX0_settleWinners 69 (.iload_n 1) 1 70 := ⟨by decide +kernel, rfl⟩
theorem dX0_settleWinners_70 : xd cX0_settleWinners 70 (.invokevirtual 131) 3 73 := ⟨by decide +kernel, rfl⟩
theorem dX0_settleWinners_73 : xd cX0_settleWinners 73 .l2i 1 74 := ⟨by decide +kernel, rfl⟩
theorem dX0_settleWinners_74 : xd cX0_settleWinners 74 .iastore 1 75 := ⟨by decide +kernel, rfl⟩
theorem dX0_settleWinners_75 : xd cX0_settleWinners 75 (.aload_n 0) 1 76 := ⟨by decide +kernel, rfl⟩
theorem dX0_settleWinners_76 : xd cX0_settleWinners 76 (.getfield 21) 3 79 := ⟨by decide +kernel, rfl⟩
theorem dX0_settleWinners_79 : xd cX0_settleWinners 79 (.iload_n 1) 1 80 := ⟨by decide +kernel, rfl⟩
theorem dX0_settleWinners_80 : xd cX0_settleWinners 80 (.aload_n 0) 1 81 := ⟨by decide +kernel, rfl⟩
theorem dX0_settleWinners_81 : xd cX0_settleWinners 81 (.getfield 38) 3 84 := ⟨by decide +kernel, rfl⟩
theorem dX0_settleWinners_84 : xd cX0_settleWinners 84 (.iconst 2) 1 85 := ⟨by decide +kernel, rfl⟩
theorem dX0_settleWinners_85 : xd cX0_settleWinners 85 (.iload_n 1) 1 86 := ⟨by decide +kernel, rfl⟩
theorem dX0_settleWinners_86 : xd cX0_settleWinners 86 (.invokevirtual 131) 3 89 := ⟨by decide +kernel, rfl⟩
theorem dX0_settleWinners_89 : xd cX0_settleWinners 89 .l2i 1 90 := ⟨by decide +kernel, rfl⟩
theorem dX0_settleWinners_90 : xd cX0_settleWinners 90 .iastore 1 91 := ⟨by decide +kernel, rfl⟩
theorem dX0_settleWinners_91 : xd cX0_settleWinners 91 (.iinc 1 1) 3 94 := ⟨by decide +kernel, rfl⟩
theorem dX0_settleWinners_94 : xj cX0_settleWinners 94 .goto 97 52 := ⟨(-42), by decide +kernel, rfl, by decide⟩
theorem dX0_settleWinners_97 : xd cX0_settleWinners 97 (.aload_n 0) 1 98 := ⟨by decide +kernel, rfl⟩
theorem dX0_settleWinners_98 : xd cX0_settleWinners 98 (.iconst 1) 1 99 := ⟨by decide +kernel, rfl⟩
theorem dX0_settleWinners_99 : xd cX0_settleWinners 99 (.putfield 55) 3 102 := ⟨by decide +kernel, rfl⟩
theorem dX0_settleWinners_102 : xd cX0_settleWinners 102 .return_ 1 103 := ⟨by decide +kernel, rfl⟩

set_option maxRecDepth 100000 in
set_option maxHeartbeats 4000000 in
theorem ct_settleW_0 (l : Launch) (g : XG) (aC aS aL aV aO aCs aCl aCh aCw aCc aCb tot lat : Nat) (se sw : Int32) (aLb aLp aVs aSk aSm aSp aSt aSc aSr aSe gr br cs wk : Nat) (z : Int32) (sd li cr ki ma bp bt : Nat → Nat) (co ce sk : Nat → Int32) (aOv aOs aOm : Nat) (va su : Nat → Int64) (mk th tw : Nat → Nat) (V : Nat → Int32) (L : Nat) (hgr : gr ≤ 12) (hbr : br ≤ 40) (hcs : cs ≤ 60) (hwk : wk ≤ 40) (hki : ∀ j, ki j ≤ 7) (hma : ∀ j, ma j ≤ 99999) (hbp : ∀ j, bp j < 495) (hlat : latI ce wk = nI L) (hL : L < 4096) (hV : cs ≠ 0 → ∀ p, p < 495 → evR (nmI wk L p) (cdF co 0 cs) [] = some [V p]) (hse : se = 0 ∨ (se = 1 ∧ sd = sdF cs V ∧ cr = crF gr ki ma bp bt br L (sdF cs V) ∧ tot = totF gr ki ma bp bt br L (sdF cs V) ∧ lat = L)) : Ct l g 7 0 0 yX0_settleWinners cX0_settleWinners 2 none [.ref aC] [(aC, .inr (0, [.ref aS, .ref aL, .ref aV, .ref aO, .ref aCs, .ref aCl, .ref aCh, .ref aCw, .ref aCc, .ref aCb, .int (nI tot), .int (nI lat), .int se, .int 0])), (aCs, .inl (g.2.1 0, 495, .inl (nIf sd))), (aCl, .inl (g.2.1 0, 495, .inl (nIf li))), (aCc, .inl (g.2.1 0, 495, .inl (nIf cr))), (aL, .inr (5, [.ref aLb, .ref aLp])), (aLb, .inl (g.2.1 0, 495, .inl (nIf rowB))), (aLp, .inl (g.2.1 0, 495, .inl (nIf packB))), (aV, .inr (2, [.ref aS, .ref aVs])), (aVs, .inl (g.2.1 0, 60, .inl sk)), (aS, .inr (6, [.ref aSk, .ref aSm, .ref aSp, .ref aSt, .ref aSc, .ref aSr, .ref aSe, .int (nI gr), .int (nI br), .int (nI cs), .int (nI wk), .int z])), (aSk, .inl (g.2.1 0, 12, .inl (nIf ki))), (aSm, .inl (g.2.1 0, 12, .inl (nIf ma))), (aSp, .inl (g.2.1 0, 40, .inl (nIf bp))), (aSt, .inl (g.2.1 0, 40, .inl (nIf bt))), (aSc, .inl (g.2.1 0, 60, .inl co)), (aSe, .inl (g.2.1 0, 320, .inl ce)), (aO, .inr (3, [.ref aOv, .ref aOs, .ref aOm, .ref aL])), (aOv, .inl (g.2.1 2, 495, .inr (.inl va))), (aOs, .inl (g.2.1 2, 286, .inr (.inl su))), (aOm, .inl (g.2.1 0, 10, .inl (nIf mk))), (aCh, .inl (g.2.1 0, 495, .inl (nIf th))), (aCw, .inl (g.2.1 0, 495, .inl (nIf tw)))] (fun vv_ ww_ => ∃ (li2 : Nat → Nat) (sk2 : Nat → Int32) (va2 : Nat → Int64) (su2 : Nat → Int64) (mk2 : Nat → Nat), vv_ = none ∧ ww_ = [(aC, .inr (0, [.ref aS, .ref aL, .ref aV, .ref aO, .ref aCs, .ref aCl, .ref aCh, .ref aCw, .ref aCc, .ref aCb, .int (nI (totF gr ki ma bp bt br L (sdF cs V))), .int (nI L), .int 1, .int 1])), (aCs, .inl (g.2.1 0, 495, .inl (nIf (sdF cs V)))), (aCl, .inl (g.2.1 0, 495, .inl (nIf li2))), (aCc, .inl (g.2.1 0, 495, .inl (nIf (crF gr ki ma bp bt br L (sdF cs V))))), (aL, .inr (5, [.ref aLb, .ref aLp])), (aLb, .inl (g.2.1 0, 495, .inl (nIf rowB))), (aLp, .inl (g.2.1 0, 495, .inl (nIf packB))), (aV, .inr (2, [.ref aS, .ref aVs])), (aVs, .inl (g.2.1 0, 60, .inl sk2)), (aS, .inr (6, [.ref aSk, .ref aSm, .ref aSp, .ref aSt, .ref aSc, .ref aSr, .ref aSe, .int (nI gr), .int (nI br), .int (nI cs), .int (nI wk), .int z])), (aSk, .inl (g.2.1 0, 12, .inl (nIf ki))), (aSm, .inl (g.2.1 0, 12, .inl (nIf ma))), (aSp, .inl (g.2.1 0, 40, .inl (nIf bp))), (aSt, .inl (g.2.1 0, 40, .inl (nIf bt))), (aSc, .inl (g.2.1 0, 60, .inl co)), (aSe, .inl (g.2.1 0, 320, .inl ce)), (aO, .inr (3, [.ref aOv, .ref aOs, .ref aOm, .ref aL])), (aOv, .inl (g.2.1 2, 495, .inr (.inl va2))), (aOs, .inl (g.2.1 2, 286, .inr (.inl su2))), (aOm, .inl (g.2.1 0, 10, .inl (nIf mk2))), (aCh, .inl (g.2.1 0, 495, .inl (nIf (thF (crF gr ki ma bp bt br L (sdF cs V)))))), (aCw, .inl (g.2.1 0, 495, .inl (nIf (twF (crF gr ki ma bp bt br L (sdF cs V))))))]) := by
  refine Ct.ofX (lv := [some (.ref aC), none]) (by decide) rfl (Nat.le_of_ble_eq_true rfl) (fun κ => ?_)
  generalize hQ : xQ κ g 0 0 _ = Q
  refine x_aload_n dX0_settleWinners_0 rfl ?_
  refine x_callV dX0_settleWinners_1 ml_X0_119 mX0_settle (ct_X0_settle κ.2.1 g aC aS aL aV aO aCs aCl aCh aCw aCc aCb tot lat se 0 aLb aLp aVs aSk aSm aSp aSt aSc aSr aSe gr br cs wk z sd li cr ki ma bp bt co ce sk V L (hgr) (hbr) (hcs) (hwk) (hki) (hma) (hbp) (hlat) (hL) (hV) (hse)) [0, 1, 2, 3, 4, 5, 6, 7, 8, 9, 10, 11, 12, 13, 14, 15] rfl rfl 0 rfl rfl rfl (Nat.le_of_ble_eq_true rfl) (by decide) (Nat.le_refl _) (Nat.le_refl _) (fun vv ww hp => ?_)
  obtain ⟨z1, z2, rfl, rfl⟩ := hp
  refine ⟨(rfl : [aC, aCs, aCl, aCc, aL, aLb, aLp, aV, aVs, aS, aSk, aSm, aSp, aSt, aSc, aSe] = [aC, aCs, aCl, aCc, aL, aLb, aLp, aV, aVs, aS, aSk, aSm, aSp, aSt, aSc, aSe]), x_eq (lv' := [some (.ref aC), none]) (st' := []) (ws' := [(aC, .inr (0, [.ref aS, .ref aL, .ref aV, .ref aO, .ref aCs, .ref aCl, .ref aCh, .ref aCw, .ref aCc, .ref aCb, .int (nI (totF gr ki ma bp bt br L (sdF cs V))), .int (nI L), .int 1, .int 0])), (aCs, .inl (g.2.1 0, 495, .inl (nIf (sdF cs V)))), (aCl, .inl (g.2.1 0, 495, .inl (nIf z1))), (aCc, .inl (g.2.1 0, 495, .inl (nIf (crF gr ki ma bp bt br L (sdF cs V))))), (aL, .inr (5, [.ref aLb, .ref aLp])), (aLb, .inl (g.2.1 0, 495, .inl (nIf rowB))), (aLp, .inl (g.2.1 0, 495, .inl (nIf packB))), (aV, .inr (2, [.ref aS, .ref aVs])), (aVs, .inl (g.2.1 0, 60, .inl z2)), (aS, .inr (6, [.ref aSk, .ref aSm, .ref aSp, .ref aSt, .ref aSc, .ref aSr, .ref aSe, .int (nI gr), .int (nI br), .int (nI cs), .int (nI wk), .int z])), (aSk, .inl (g.2.1 0, 12, .inl (nIf ki))), (aSm, .inl (g.2.1 0, 12, .inl (nIf ma))), (aSp, .inl (g.2.1 0, 40, .inl (nIf bp))), (aSt, .inl (g.2.1 0, 40, .inl (nIf bt))), (aSc, .inl (g.2.1 0, 60, .inl co)), (aSe, .inl (g.2.1 0, 320, .inl ce)), (aO, .inr (3, [.ref aOv, .ref aOs, .ref aOm, .ref aL])), (aOv, .inl (g.2.1 2, 495, .inr (.inl va))), (aOs, .inl (g.2.1 2, 286, .inr (.inl su))), (aOm, .inl (g.2.1 0, 10, .inl (nIf mk))), (aCh, .inl (g.2.1 0, 495, .inl (nIf th))), (aCw, .inl (g.2.1 0, 495, .inl (nIf tw)))]) ?_ rfl rfl rfl⟩
  refine x_aload_n dX0_settleWinners_4 rfl ?_
  refine x_get dX0_settleWinners_5 0 13 inX0 fl_X0_55 rfl rfl (by decide) rfl ?_
  refine x_if_eq dX0_settleWinners_8 (fun c8 => ?_) (fun c8 => ?_)
  rotate_left
  · exact absurd c8 (by decide)
  refine x_iconst 0 dX0_settleWinners_12 (by decide) ?_
  refine x_istore_n (lv' := [some (.ref aC), some (.int 0)]) dX0_settleWinners_13 (xlt rfl) rfl ?_
  have L14_3 : ∀ (i : Nat), i ≤ 495 → ∀ (vf : Nat → Int64), vf = fillT i (crL (crF gr ki ma bp bt br L (sdF cs V))) va → Xs κ g 7 0 0 cX0_settleWinners yX0_settleWinners none Q 0 0 14 [some (.ref aC), some (.int (nI i))] [] [(aC, .inr (0, [.ref aS, .ref aL, .ref aV, .ref aO, .ref aCs, .ref aCl, .ref aCh, .ref aCw, .ref aCc, .ref aCb, .int (nI (totF gr ki ma bp bt br L (sdF cs V))), .int (nI L), .int 1, .int 0])), (aCs, .inl (g.2.1 0, 495, .inl (nIf (sdF cs V)))), (aCl, .inl (g.2.1 0, 495, .inl (nIf z1))), (aCc, .inl (g.2.1 0, 495, .inl (nIf (crF gr ki ma bp bt br L (sdF cs V))))), (aL, .inr (5, [.ref aLb, .ref aLp])), (aLb, .inl (g.2.1 0, 495, .inl (nIf rowB))), (aLp, .inl (g.2.1 0, 495, .inl (nIf packB))), (aV, .inr (2, [.ref aS, .ref aVs])), (aVs, .inl (g.2.1 0, 60, .inl z2)), (aS, .inr (6, [.ref aSk, .ref aSm, .ref aSp, .ref aSt, .ref aSc, .ref aSr, .ref aSe, .int (nI gr), .int (nI br), .int (nI cs), .int (nI wk), .int z])), (aSk, .inl (g.2.1 0, 12, .inl (nIf ki))), (aSm, .inl (g.2.1 0, 12, .inl (nIf ma))), (aSp, .inl (g.2.1 0, 40, .inl (nIf bp))), (aSt, .inl (g.2.1 0, 40, .inl (nIf bt))), (aSc, .inl (g.2.1 0, 60, .inl co)), (aSe, .inl (g.2.1 0, 320, .inl ce)), (aO, .inr (3, [.ref aOv, .ref aOs, .ref aOm, .ref aL])), (aOv, .inl (g.2.1 2, 495, .inr (.inl vf))), (aOs, .inl (g.2.1 2, 286, .inr (.inl su))), (aOm, .inl (g.2.1 0, 10, .inl (nIf mk))), (aCh, .inl (g.2.1 0, 495, .inl (nIf th))), (aCw, .inl (g.2.1 0, 495, .inl (nIf tw)))] := by
    refine upTo 495 (fun i hi14 ih14 => ?_)
    intro vf evf
    subst evf
    refine x_iload_n dX0_settleWinners_14 rfl ?_
    refine x_sipush 495 dX0_settleWinners_15 (by decide) ?_
    refine x_icmp_ge dX0_settleWinners_18 (fun c18 => ?_) (fun c18 => ?_)
    · have c18 : 495 ≤ (nI i) := c18
      have c18n := (nI_leI (a := 495) (b := i) (by omega) (by omega)).mp c18
      have hxc18 : i = 495 := by omega
      try rw [hxc18]
      refine x_funl (ws' := [(aC, .inr (0, [.ref aS, .ref aL, .ref aV, .ref aO, .ref aCs, .ref aCl, .ref aCh, .ref aCw, .ref aCc, .ref aCb, .int (nI (totF gr ki ma bp bt br L (sdF cs V))), .int (nI L), .int 1, .int 0])), (aCs, .inl (g.2.1 0, 495, .inl (nIf (sdF cs V)))), (aCl, .inl (g.2.1 0, 495, .inl (nIf z1))), (aCc, .inl (g.2.1 0, 495, .inl (nIf (crF gr ki ma bp bt br L (sdF cs V))))), (aL, .inr (5, [.ref aLb, .ref aLp])), (aLb, .inl (g.2.1 0, 495, .inl (nIf rowB))), (aLp, .inl (g.2.1 0, 495, .inl (nIf packB))), (aV, .inr (2, [.ref aS, .ref aVs])), (aVs, .inl (g.2.1 0, 60, .inl z2)), (aS, .inr (6, [.ref aSk, .ref aSm, .ref aSp, .ref aSt, .ref aSc, .ref aSr, .ref aSe, .int (nI gr), .int (nI br), .int (nI cs), .int (nI wk), .int z])), (aSk, .inl (g.2.1 0, 12, .inl (nIf ki))), (aSm, .inl (g.2.1 0, 12, .inl (nIf ma))), (aSp, .inl (g.2.1 0, 40, .inl (nIf bp))), (aSt, .inl (g.2.1 0, 40, .inl (nIf bt))), (aSc, .inl (g.2.1 0, 60, .inl co)), (aSe, .inl (g.2.1 0, 320, .inl ce)), (aO, .inr (3, [.ref aOv, .ref aOs, .ref aOm, .ref aL])), (aOv, .inl (g.2.1 2, 495, .inr (.inl (crL (crF gr ki ma bp bt br L (sdF cs V)))))), (aOs, .inl (g.2.1 2, 286, .inr (.inl su))), (aOm, .inl (g.2.1 0, 10, .inl (nIf mk))), (aCh, .inl (g.2.1 0, 495, .inl (nIf th))), (aCw, .inl (g.2.1 0, 495, .inl (nIf tw)))]) (q0 := 17) rfl (fun j hj => fillT_in _ _ hj) rfl ?_
      refine x_aload_n dX0_settleWinners_43 rfl ?_
      refine x_get dX0_settleWinners_44 0 3 inX0 fl_X0_38 rfl rfl (by decide) rfl ?_
      refine x_callV dX0_settleWinners_47 ml_X0_128 mX3_gather (ct_X3_gather κ.2.1 g aO aOv aOs aOm aL aLb aLp (crL (crF gr ki ma bp bt br L (sdF cs V))) su mk) [16, 17, 18, 19, 4, 6] rfl rfl 16 rfl rfl rfl (Nat.le_of_ble_eq_true rfl) (by decide) (Nat.le_refl _) (Nat.le_refl _) (fun vv ww hp => ?_)
      obtain ⟨z4, rfl, rfl⟩ := hp
      refine ⟨(rfl : [aO, aOv, aOs, aOm, aL, aLp] = [aO, aOv, aOs, aOm, aL, aLp]), x_eq (lv' := [some (.ref aC), some (.int 495)]) (st' := []) (ws' := [(aC, .inr (0, [.ref aS, .ref aL, .ref aV, .ref aO, .ref aCs, .ref aCl, .ref aCh, .ref aCw, .ref aCc, .ref aCb, .int (nI (totF gr ki ma bp bt br L (sdF cs V))), .int (nI L), .int 1, .int 0])), (aCs, .inl (g.2.1 0, 495, .inl (nIf (sdF cs V)))), (aCl, .inl (g.2.1 0, 495, .inl (nIf z1))), (aCc, .inl (g.2.1 0, 495, .inl (nIf (crF gr ki ma bp bt br L (sdF cs V))))), (aL, .inr (5, [.ref aLb, .ref aLp])), (aLb, .inl (g.2.1 0, 495, .inl (nIf rowB))), (aLp, .inl (g.2.1 0, 495, .inl (nIf packB))), (aV, .inr (2, [.ref aS, .ref aVs])), (aVs, .inl (g.2.1 0, 60, .inl z2)), (aS, .inr (6, [.ref aSk, .ref aSm, .ref aSp, .ref aSt, .ref aSc, .ref aSr, .ref aSe, .int (nI gr), .int (nI br), .int (nI cs), .int (nI wk), .int z])), (aSk, .inl (g.2.1 0, 12, .inl (nIf ki))), (aSm, .inl (g.2.1 0, 12, .inl (nIf ma))), (aSp, .inl (g.2.1 0, 40, .inl (nIf bp))), (aSt, .inl (g.2.1 0, 40, .inl (nIf bt))), (aSc, .inl (g.2.1 0, 60, .inl co)), (aSe, .inl (g.2.1 0, 320, .inl ce)), (aO, .inr (3, [.ref aOv, .ref aOs, .ref aOm, .ref aL])), (aOv, .inl (g.2.1 2, 495, .inr (.inl (crL (crF gr ki ma bp bt br L (sdF cs V)))))), (aOs, .inl (g.2.1 2, 286, .inr (.inl (gsT (crL (crF gr ki ma bp bt br L (sdF cs V))) 495)))), (aOm, .inl (g.2.1 0, 10, .inl (nIf z4))), (aCh, .inl (g.2.1 0, 495, .inl (nIf th))), (aCw, .inl (g.2.1 0, 495, .inl (nIf tw)))]) ?_ rfl rfl rfl⟩
      refine x_iconst 0 dX0_settleWinners_50 (by decide) ?_
      refine x_istore_n (lv' := [some (.ref aC), some (.int 0)]) dX0_settleWinners_51 (xlt rfl) rfl ?_
      have L52_5 : ∀ (i : Nat), i ≤ 495 → ∀ (t3 : Nat → Nat), t3 = fillT i (thF (crF gr ki ma bp bt br L (sdF cs V))) th → ∀ (t2 : Nat → Nat), t2 = fillT i (twF (crF gr ki ma bp bt br L (sdF cs V))) tw → ∀ (mq : Nat → Nat), Xs κ g 7 0 0 cX0_settleWinners yX0_settleWinners none Q 0 0 52 [some (.ref aC), some (.int (nI i))] [] [(aC, .inr (0, [.ref aS, .ref aL, .ref aV, .ref aO, .ref aCs, .ref aCl, .ref aCh, .ref aCw, .ref aCc, .ref aCb, .int (nI (totF gr ki ma bp bt br L (sdF cs V))), .int (nI L), .int 1, .int 0])), (aCs, .inl (g.2.1 0, 495, .inl (nIf (sdF cs V)))), (aCl, .inl (g.2.1 0, 495, .inl (nIf z1))), (aCc, .inl (g.2.1 0, 495, .inl (nIf (crF gr ki ma bp bt br L (sdF cs V))))), (aL, .inr (5, [.ref aLb, .ref aLp])), (aLb, .inl (g.2.1 0, 495, .inl (nIf rowB))), (aLp, .inl (g.2.1 0, 495, .inl (nIf packB))), (aV, .inr (2, [.ref aS, .ref aVs])), (aVs, .inl (g.2.1 0, 60, .inl z2)), (aS, .inr (6, [.ref aSk, .ref aSm, .ref aSp, .ref aSt, .ref aSc, .ref aSr, .ref aSe, .int (nI gr), .int (nI br), .int (nI cs), .int (nI wk), .int z])), (aSk, .inl (g.2.1 0, 12, .inl (nIf ki))), (aSm, .inl (g.2.1 0, 12, .inl (nIf ma))), (aSp, .inl (g.2.1 0, 40, .inl (nIf bp))), (aSt, .inl (g.2.1 0, 40, .inl (nIf bt))), (aSc, .inl (g.2.1 0, 60, .inl co)), (aSe, .inl (g.2.1 0, 320, .inl ce)), (aO, .inr (3, [.ref aOv, .ref aOs, .ref aOm, .ref aL])), (aOv, .inl (g.2.1 2, 495, .inr (.inl (crL (crF gr ki ma bp bt br L (sdF cs V)))))), (aOs, .inl (g.2.1 2, 286, .inr (.inl (gsT (crL (crF gr ki ma bp bt br L (sdF cs V))) 495)))), (aOm, .inl (g.2.1 0, 10, .inl (nIf mq))), (aCh, .inl (g.2.1 0, 495, .inl (nIf t3))), (aCw, .inl (g.2.1 0, 495, .inl (nIf t2)))] := by
        refine upTo 495 (fun i hi52 ih52 => ?_)
        intro t3 et3
        subst et3
        intro t2 et2
        subst et2
        intro mq
        refine x_iload_n dX0_settleWinners_52 rfl ?_
        refine x_sipush 495 dX0_settleWinners_53 (by decide) ?_
        refine x_icmp_ge dX0_settleWinners_56 (fun c56 => ?_) (fun c56 => ?_)
        · have c56 : 495 ≤ (nI i) := c56
          have c56n := (nI_leI (a := 495) (b := i) (by omega) (by omega)).mp c56
          have hxc56 : i = 495 := by omega
          try rw [hxc56]
          refine x_funi (ws' := [(aC, .inr (0, [.ref aS, .ref aL, .ref aV, .ref aO, .ref aCs, .ref aCl, .ref aCh, .ref aCw, .ref aCc, .ref aCb, .int (nI (totF gr ki ma bp bt br L (sdF cs V))), .int (nI L), .int 1, .int 0])), (aCs, .inl (g.2.1 0, 495, .inl (nIf (sdF cs V)))), (aCl, .inl (g.2.1 0, 495, .inl (nIf z1))), (aCc, .inl (g.2.1 0, 495, .inl (nIf (crF gr ki ma bp bt br L (sdF cs V))))), (aL, .inr (5, [.ref aLb, .ref aLp])), (aLb, .inl (g.2.1 0, 495, .inl (nIf rowB))), (aLp, .inl (g.2.1 0, 495, .inl (nIf packB))), (aV, .inr (2, [.ref aS, .ref aVs])), (aVs, .inl (g.2.1 0, 60, .inl z2)), (aS, .inr (6, [.ref aSk, .ref aSm, .ref aSp, .ref aSt, .ref aSc, .ref aSr, .ref aSe, .int (nI gr), .int (nI br), .int (nI cs), .int (nI wk), .int z])), (aSk, .inl (g.2.1 0, 12, .inl (nIf ki))), (aSm, .inl (g.2.1 0, 12, .inl (nIf ma))), (aSp, .inl (g.2.1 0, 40, .inl (nIf bp))), (aSt, .inl (g.2.1 0, 40, .inl (nIf bt))), (aSc, .inl (g.2.1 0, 60, .inl co)), (aSe, .inl (g.2.1 0, 320, .inl ce)), (aO, .inr (3, [.ref aOv, .ref aOs, .ref aOm, .ref aL])), (aOv, .inl (g.2.1 2, 495, .inr (.inl (crL (crF gr ki ma bp bt br L (sdF cs V)))))), (aOs, .inl (g.2.1 2, 286, .inr (.inl (gsT (crL (crF gr ki ma bp bt br L (sdF cs V))) 495)))), (aOm, .inl (g.2.1 0, 10, .inl (nIf mq))), (aCh, .inl (g.2.1 0, 495, .inl (nIf (thF (crF gr ki ma bp bt br L (sdF cs V)))))), (aCw, .inl (g.2.1 0, 495, .inl (nIf (fillT 495 (twF (crF gr ki ma bp bt br L (sdF cs V))) tw))))]) (q0 := 20) rfl (fun j hj => congrArg nI (fillT_in _ _ hj)) rfl ?_
          refine x_funi (ws' := [(aC, .inr (0, [.ref aS, .ref aL, .ref aV, .ref aO, .ref aCs, .ref aCl, .ref aCh, .ref aCw, .ref aCc, .ref aCb, .int (nI (totF gr ki ma bp bt br L (sdF cs V))), .int (nI L), .int 1, .int 0])), (aCs, .inl (g.2.1 0, 495, .inl (nIf (sdF cs V)))), (aCl, .inl (g.2.1 0, 495, .inl (nIf z1))), (aCc, .inl (g.2.1 0, 495, .inl (nIf (crF gr ki ma bp bt br L (sdF cs V))))), (aL, .inr (5, [.ref aLb, .ref aLp])), (aLb, .inl (g.2.1 0, 495, .inl (nIf rowB))), (aLp, .inl (g.2.1 0, 495, .inl (nIf packB))), (aV, .inr (2, [.ref aS, .ref aVs])), (aVs, .inl (g.2.1 0, 60, .inl z2)), (aS, .inr (6, [.ref aSk, .ref aSm, .ref aSp, .ref aSt, .ref aSc, .ref aSr, .ref aSe, .int (nI gr), .int (nI br), .int (nI cs), .int (nI wk), .int z])), (aSk, .inl (g.2.1 0, 12, .inl (nIf ki))), (aSm, .inl (g.2.1 0, 12, .inl (nIf ma))), (aSp, .inl (g.2.1 0, 40, .inl (nIf bp))), (aSt, .inl (g.2.1 0, 40, .inl (nIf bt))), (aSc, .inl (g.2.1 0, 60, .inl co)), (aSe, .inl (g.2.1 0, 320, .inl ce)), (aO, .inr (3, [.ref aOv, .ref aOs, .ref aOm, .ref aL])), (aOv, .inl (g.2.1 2, 495, .inr (.inl (crL (crF gr ki ma bp bt br L (sdF cs V)))))), (aOs, .inl (g.2.1 2, 286, .inr (.inl (gsT (crL (crF gr ki ma bp bt br L (sdF cs V))) 495)))), (aOm, .inl (g.2.1 0, 10, .inl (nIf mq))), (aCh, .inl (g.2.1 0, 495, .inl (nIf (thF (crF gr ki ma bp bt br L (sdF cs V)))))), (aCw, .inl (g.2.1 0, 495, .inl (nIf (twF (crF gr ki ma bp bt br L (sdF cs V))))))]) (q0 := 21) rfl (fun j hj => congrArg nI (fillT_in _ _ hj)) rfl ?_
          refine x_aload_n dX0_settleWinners_97 rfl ?_
          refine x_iconst 1 dX0_settleWinners_98 (by decide) ?_
          refine x_put (ws' := [(aC, .inr (0, [.ref aS, .ref aL, .ref aV, .ref aO, .ref aCs, .ref aCl, .ref aCh, .ref aCw, .ref aCc, .ref aCb, .int (nI (totF gr ki ma bp bt br L (sdF cs V))), .int (nI L), .int 1, .int 1])), (aCs, .inl (g.2.1 0, 495, .inl (nIf (sdF cs V)))), (aCl, .inl (g.2.1 0, 495, .inl (nIf z1))), (aCc, .inl (g.2.1 0, 495, .inl (nIf (crF gr ki ma bp bt br L (sdF cs V))))), (aL, .inr (5, [.ref aLb, .ref aLp])), (aLb, .inl (g.2.1 0, 495, .inl (nIf rowB))), (aLp, .inl (g.2.1 0, 495, .inl (nIf packB))), (aV, .inr (2, [.ref aS, .ref aVs])), (aVs, .inl (g.2.1 0, 60, .inl z2)), (aS, .inr (6, [.ref aSk, .ref aSm, .ref aSp, .ref aSt, .ref aSc, .ref aSr, .ref aSe, .int (nI gr), .int (nI br), .int (nI cs), .int (nI wk), .int z])), (aSk, .inl (g.2.1 0, 12, .inl (nIf ki))), (aSm, .inl (g.2.1 0, 12, .inl (nIf ma))), (aSp, .inl (g.2.1 0, 40, .inl (nIf bp))), (aSt, .inl (g.2.1 0, 40, .inl (nIf bt))), (aSc, .inl (g.2.1 0, 60, .inl co)), (aSe, .inl (g.2.1 0, 320, .inl ce)), (aO, .inr (3, [.ref aOv, .ref aOs, .ref aOm, .ref aL])), (aOv, .inl (g.2.1 2, 495, .inr (.inl (crL (crF gr ki ma bp bt br L (sdF cs V)))))), (aOs, .inl (g.2.1 2, 286, .inr (.inl (gsT (crL (crF gr ki ma bp bt br L (sdF cs V))) 495)))), (aOm, .inl (g.2.1 0, 10, .inl (nIf mq))), (aCh, .inl (g.2.1 0, 495, .inl (nIf (thF (crF gr ki ma bp bt br L (sdF cs V)))))), (aCw, .inl (g.2.1 0, 495, .inl (nIf (twF (crF gr ki ma bp bt br L (sdF cs V))))))]) dX0_settleWinners_99 0 13 inX0 tyX0_ok nmX0 fl_X0_55 rfl rfl (by decide) rfl (rfl) rfl (xlt rfl) rfl ?_
          rw [← hQ]
          refine x_vret dX0_settleWinners_102 rfl (Nat.le_of_ble_eq_true rfl) (Nat.le_of_ble_eq_true rfl) ?_
          exact ⟨_, _, _, _, _, rfl, rfl⟩
        · have c56 : ¬ (495 ≤ (nI i)) := c56
          have c56n := mt (nI_leI (a := 495) (b := i) (by omega) (by omega)).mpr c56
          refine x_aload_n dX0_settleWinners_59 rfl ?_
          refine x_get dX0_settleWinners_60 0 6 inX0 fl_X0_18 rfl rfl (by decide) rfl ?_
          refine x_iload_n dX0_settleWinners_63 rfl ?_
          refine x_aload_n dX0_settleWinners_64 rfl ?_
          refine x_get dX0_settleWinners_65 0 3 inX0 fl_X0_38 rfl rfl (by decide) rfl ?_
          refine x_iconst 3 dX0_settleWinners_68 (by decide) ?_
          refine x_iload_n dX0_settleWinners_69 rfl ?_
          refine x_cVl (ws' := [(aC, .inr (0, [.ref aS, .ref aL, .ref aV, .ref aO, .ref aCs, .ref aCl, .ref aCh, .ref aCw, .ref aCc, .ref aCb, .int (nI (totF gr ki ma bp bt br L (sdF cs V))), .int (nI L), .int 1, .int 0])), (aCs, .inl (g.2.1 0, 495, .inl (nIf (sdF cs V)))), (aCl, .inl (g.2.1 0, 495, .inl (nIf z1))), (aCc, .inl (g.2.1 0, 495, .inl (nIf (crF gr ki ma bp bt br L (sdF cs V))))), (aL, .inr (5, [.ref aLb, .ref aLp])), (aLb, .inl (g.2.1 0, 495, .inl (nIf rowB))), (aLp, .inl (g.2.1 0, 495, .inl (nIf packB))), (aV, .inr (2, [.ref aS, .ref aVs])), (aVs, .inl (g.2.1 0, 60, .inl z2)), (aS, .inr (6, [.ref aSk, .ref aSm, .ref aSp, .ref aSt, .ref aSc, .ref aSr, .ref aSe, .int (nI gr), .int (nI br), .int (nI cs), .int (nI wk), .int z])), (aSk, .inl (g.2.1 0, 12, .inl (nIf ki))), (aSm, .inl (g.2.1 0, 12, .inl (nIf ma))), (aSp, .inl (g.2.1 0, 40, .inl (nIf bp))), (aSt, .inl (g.2.1 0, 40, .inl (nIf bt))), (aSc, .inl (g.2.1 0, 60, .inl co)), (aSe, .inl (g.2.1 0, 320, .inl ce)), (aO, .inr (3, [.ref aOv, .ref aOs, .ref aOm, .ref aL])), (aOv, .inl (g.2.1 2, 495, .inr (.inl (crL (crF gr ki ma bp bt br L (sdF cs V)))))), (aOs, .inl (g.2.1 2, 286, .inr (.inl (gsT (crL (crF gr ki ma bp bt br L (sdF cs V))) 495)))), (aOm, .inl (g.2.1 0, 10, .inl (nIf (mkR (rowB i))))), (aCh, .inl (g.2.1 0, 495, .inl (nIf (fillT i (thF (crF gr ki ma bp bt br L (sdF cs V))) th)))), (aCw, .inl (g.2.1 0, 495, .inl (nIf (fillT i (twF (crF gr ki ma bp bt br L (sdF cs V))) tw))))]) dX0_settleWinners_70 ml_X0_131 mX3_ofRank (ct_ofRank_3 κ.2.1 g aO aOv aOs aOm aL aLb aLp (crL (crF gr ki ma bp bt br L (sdF cs V))) (gsT (crL (crF gr ki ma bp bt br L (sdF cs V))) 495) mq i (by omega)) [16, 17, 18, 19, 4, 6] rfl rfl 16 rfl rfl rfl (Nat.le_of_ble_eq_true rfl) (by decide) (Nat.le_refl _) (Nat.le_refl _) (rfl : [aO, aOv, aOs, aOm, aL, aLp] = [aO, aOv, aOs, aOm, aL, aLp]) rfl ?_
          refine x_l2i dX0_settleWinners_73 ?_
          refine x_rei (nI (winN (crF gr ki ma bp bt br L (sdF cs V)) (rowB i) 3)) (by rw [ov3_id _ (by omega)]; exact ov_win _ (by decide)) ?_
          refine x_iast (ws' := [(aC, .inr (0, [.ref aS, .ref aL, .ref aV, .ref aO, .ref aCs, .ref aCl, .ref aCh, .ref aCw, .ref aCc, .ref aCb, .int (nI (totF gr ki ma bp bt br L (sdF cs V))), .int (nI L), .int 1, .int 0])), (aCs, .inl (g.2.1 0, 495, .inl (nIf (sdF cs V)))), (aCl, .inl (g.2.1 0, 495, .inl (nIf z1))), (aCc, .inl (g.2.1 0, 495, .inl (nIf (crF gr ki ma bp bt br L (sdF cs V))))), (aL, .inr (5, [.ref aLb, .ref aLp])), (aLb, .inl (g.2.1 0, 495, .inl (nIf rowB))), (aLp, .inl (g.2.1 0, 495, .inl (nIf packB))), (aV, .inr (2, [.ref aS, .ref aVs])), (aVs, .inl (g.2.1 0, 60, .inl z2)), (aS, .inr (6, [.ref aSk, .ref aSm, .ref aSp, .ref aSt, .ref aSc, .ref aSr, .ref aSe, .int (nI gr), .int (nI br), .int (nI cs), .int (nI wk), .int z])), (aSk, .inl (g.2.1 0, 12, .inl (nIf ki))), (aSm, .inl (g.2.1 0, 12, .inl (nIf ma))), (aSp, .inl (g.2.1 0, 40, .inl (nIf bp))), (aSt, .inl (g.2.1 0, 40, .inl (nIf bt))), (aSc, .inl (g.2.1 0, 60, .inl co)), (aSe, .inl (g.2.1 0, 320, .inl ce)), (aO, .inr (3, [.ref aOv, .ref aOs, .ref aOm, .ref aL])), (aOv, .inl (g.2.1 2, 495, .inr (.inl (crL (crF gr ki ma bp bt br L (sdF cs V)))))), (aOs, .inl (g.2.1 2, 286, .inr (.inl (gsT (crL (crF gr ki ma bp bt br L (sdF cs V))) 495)))), (aOm, .inl (g.2.1 0, 10, .inl (nIf (mkR (rowB i))))), (aCh, .inl (g.2.1 0, 495, .inl (nIf (updN (fillT i (thF (crF gr ki ma bp bt br L (sdF cs V))) th) i (winN (crF gr ki ma bp bt br L (sdF cs V)) (rowB i) 3))))), (aCw, .inl (g.2.1 0, 495, .inl (nIf (fillT i (twF (crF gr ki ma bp bt br L (sdF cs V))) tw))))]) dX0_settleWinners_74 20 i rfl (rfl) (by omega) (by decide) (by rw [upd_nIf]; rfl) ?_
          refine x_aload_n dX0_settleWinners_75 rfl ?_
          refine x_get dX0_settleWinners_76 0 7 inX0 fl_X0_21 rfl rfl (by decide) rfl ?_
          refine x_iload_n dX0_settleWinners_79 rfl ?_
          refine x_aload_n dX0_settleWinners_80 rfl ?_
          refine x_get dX0_settleWinners_81 0 3 inX0 fl_X0_38 rfl rfl (by decide) rfl ?_
          refine x_iconst 2 dX0_settleWinners_84 (by decide) ?_
          refine x_iload_n dX0_settleWinners_85 rfl ?_
          refine x_cVl (ws' := [(aC, .inr (0, [.ref aS, .ref aL, .ref aV, .ref aO, .ref aCs, .ref aCl, .ref aCh, .ref aCw, .ref aCc, .ref aCb, .int (nI (totF gr ki ma bp bt br L (sdF cs V))), .int (nI L), .int 1, .int 0])), (aCs, .inl (g.2.1 0, 495, .inl (nIf (sdF cs V)))), (aCl, .inl (g.2.1 0, 495, .inl (nIf z1))), (aCc, .inl (g.2.1 0, 495, .inl (nIf (crF gr ki ma bp bt br L (sdF cs V))))), (aL, .inr (5, [.ref aLb, .ref aLp])), (aLb, .inl (g.2.1 0, 495, .inl (nIf rowB))), (aLp, .inl (g.2.1 0, 495, .inl (nIf packB))), (aV, .inr (2, [.ref aS, .ref aVs])), (aVs, .inl (g.2.1 0, 60, .inl z2)), (aS, .inr (6, [.ref aSk, .ref aSm, .ref aSp, .ref aSt, .ref aSc, .ref aSr, .ref aSe, .int (nI gr), .int (nI br), .int (nI cs), .int (nI wk), .int z])), (aSk, .inl (g.2.1 0, 12, .inl (nIf ki))), (aSm, .inl (g.2.1 0, 12, .inl (nIf ma))), (aSp, .inl (g.2.1 0, 40, .inl (nIf bp))), (aSt, .inl (g.2.1 0, 40, .inl (nIf bt))), (aSc, .inl (g.2.1 0, 60, .inl co)), (aSe, .inl (g.2.1 0, 320, .inl ce)), (aO, .inr (3, [.ref aOv, .ref aOs, .ref aOm, .ref aL])), (aOv, .inl (g.2.1 2, 495, .inr (.inl (crL (crF gr ki ma bp bt br L (sdF cs V)))))), (aOs, .inl (g.2.1 2, 286, .inr (.inl (gsT (crL (crF gr ki ma bp bt br L (sdF cs V))) 495)))), (aOm, .inl (g.2.1 0, 10, .inl (nIf (mkR (rowB i))))), (aCh, .inl (g.2.1 0, 495, .inl (nIf (updN (fillT i (thF (crF gr ki ma bp bt br L (sdF cs V))) th) i (winN (crF gr ki ma bp bt br L (sdF cs V)) (rowB i) 3))))), (aCw, .inl (g.2.1 0, 495, .inl (nIf (fillT i (twF (crF gr ki ma bp bt br L (sdF cs V))) tw))))]) dX0_settleWinners_86 ml_X0_131 mX3_ofRank (ct_ofRank_2 κ.2.1 g aO aOv aOs aOm aL aLb aLp (crL (crF gr ki ma bp bt br L (sdF cs V))) (gsT (crL (crF gr ki ma bp bt br L (sdF cs V))) 495) (mkR (rowB i)) i (by omega)) [16, 17, 18, 19, 4, 6] rfl rfl 16 rfl rfl rfl (Nat.le_of_ble_eq_true rfl) (by decide) (Nat.le_refl _) (Nat.le_refl _) (rfl : [aO, aOv, aOs, aOm, aL, aLp] = [aO, aOv, aOs, aOm, aL, aLp]) rfl ?_
          refine x_l2i dX0_settleWinners_89 ?_
          refine x_rei (nI (winN (crF gr ki ma bp bt br L (sdF cs V)) (rowB i) 2)) (by rw [ov2_id _ (by omega)]; exact ov_win _ (by decide)) ?_
          refine x_iast (ws' := [(aC, .inr (0, [.ref aS, .ref aL, .ref aV, .ref aO, .ref aCs, .ref aCl, .ref aCh, .ref aCw, .ref aCc, .ref aCb, .int (nI (totF gr ki ma bp bt br L (sdF cs V))), .int (nI L), .int 1, .int 0])), (aCs, .inl (g.2.1 0, 495, .inl (nIf (sdF cs V)))), (aCl, .inl (g.2.1 0, 495, .inl (nIf z1))), (aCc, .inl (g.2.1 0, 495, .inl (nIf (crF gr ki ma bp bt br L (sdF cs V))))), (aL, .inr (5, [.ref aLb, .ref aLp])), (aLb, .inl (g.2.1 0, 495, .inl (nIf rowB))), (aLp, .inl (g.2.1 0, 495, .inl (nIf packB))), (aV, .inr (2, [.ref aS, .ref aVs])), (aVs, .inl (g.2.1 0, 60, .inl z2)), (aS, .inr (6, [.ref aSk, .ref aSm, .ref aSp, .ref aSt, .ref aSc, .ref aSr, .ref aSe, .int (nI gr), .int (nI br), .int (nI cs), .int (nI wk), .int z])), (aSk, .inl (g.2.1 0, 12, .inl (nIf ki))), (aSm, .inl (g.2.1 0, 12, .inl (nIf ma))), (aSp, .inl (g.2.1 0, 40, .inl (nIf bp))), (aSt, .inl (g.2.1 0, 40, .inl (nIf bt))), (aSc, .inl (g.2.1 0, 60, .inl co)), (aSe, .inl (g.2.1 0, 320, .inl ce)), (aO, .inr (3, [.ref aOv, .ref aOs, .ref aOm, .ref aL])), (aOv, .inl (g.2.1 2, 495, .inr (.inl (crL (crF gr ki ma bp bt br L (sdF cs V)))))), (aOs, .inl (g.2.1 2, 286, .inr (.inl (gsT (crL (crF gr ki ma bp bt br L (sdF cs V))) 495)))), (aOm, .inl (g.2.1 0, 10, .inl (nIf (mkR (rowB i))))), (aCh, .inl (g.2.1 0, 495, .inl (nIf (updN (fillT i (thF (crF gr ki ma bp bt br L (sdF cs V))) th) i (winN (crF gr ki ma bp bt br L (sdF cs V)) (rowB i) 3))))), (aCw, .inl (g.2.1 0, 495, .inl (nIf (updN (fillT i (twF (crF gr ki ma bp bt br L (sdF cs V))) tw) i (winN (crF gr ki ma bp bt br L (sdF cs V)) (rowB i) 2)))))]) dX0_settleWinners_90 21 i rfl (rfl) (by omega) (by decide) (by rw [upd_nIf]; rfl) ?_
          refine x_iinc (lv' := [some (.ref aC), some (.int (nI (i + 1)))]) (nI (i + 1)) dX0_settleWinners_91 rfl (nI_addc i 1 rfl) rfl ?_
          refine x_goto dX0_settleWinners_94 ?_
          exact ih52 (by omega) (updN (fillT i (thF (crF gr ki ma bp bt br L (sdF cs V))) th) i (winN (crF gr ki ma bp bt br L (sdF cs V)) (rowB i) 3)) (by exact fillT_updN i (thF (crF gr ki ma bp bt br L (sdF cs V))) th) (updN (fillT i (twF (crF gr ki ma bp bt br L (sdF cs V))) tw) i (winN (crF gr ki ma bp bt br L (sdF cs V)) (rowB i) 2)) (by exact fillT_updN i (twF (crF gr ki ma bp bt br L (sdF cs V))) tw) (mkR (rowB i))
      exact L52_5 0 (Nat.zero_le _) th (by exact (fillT_0 _ _).symm) tw (by exact (fillT_0 _ _).symm) z4
    · have c18 : ¬ (495 ≤ (nI i)) := c18
      have c18n := mt (nI_leI (a := 495) (b := i) (by omega) (by omega)).mpr c18
      refine x_aload_n dX0_settleWinners_21 rfl ?_
      refine x_get dX0_settleWinners_22 0 3 inX0 fl_X0_38 rfl rfl (by decide) rfl ?_
      refine x_get dX0_settleWinners_25 16 0 inX3 fl_X0_122 rfl rfl (by decide) rfl ?_
      refine x_iload_n dX0_settleWinners_28 rfl ?_
      refine x_aload_n dX0_settleWinners_29 rfl ?_
      refine x_get dX0_settleWinners_30 0 8 inX0 fl_X0_24 rfl rfl (by decide) rfl ?_
      refine x_iload_n dX0_settleWinners_33 rfl ?_
      refine x_iald dX0_settleWinners_34 3 i rfl (rfl) (by omega) (by decide) ?_
      refine x_i2l dX0_settleWinners_35 ?_
      refine x_last (ws' := [(aC, .inr (0, [.ref aS, .ref aL, .ref aV, .ref aO, .ref aCs, .ref aCl, .ref aCh, .ref aCw, .ref aCc, .ref aCb, .int (nI (totF gr ki ma bp bt br L (sdF cs V))), .int (nI L), .int 1, .int 0])), (aCs, .inl (g.2.1 0, 495, .inl (nIf (sdF cs V)))), (aCl, .inl (g.2.1 0, 495, .inl (nIf z1))), (aCc, .inl (g.2.1 0, 495, .inl (nIf (crF gr ki ma bp bt br L (sdF cs V))))), (aL, .inr (5, [.ref aLb, .ref aLp])), (aLb, .inl (g.2.1 0, 495, .inl (nIf rowB))), (aLp, .inl (g.2.1 0, 495, .inl (nIf packB))), (aV, .inr (2, [.ref aS, .ref aVs])), (aVs, .inl (g.2.1 0, 60, .inl z2)), (aS, .inr (6, [.ref aSk, .ref aSm, .ref aSp, .ref aSt, .ref aSc, .ref aSr, .ref aSe, .int (nI gr), .int (nI br), .int (nI cs), .int (nI wk), .int z])), (aSk, .inl (g.2.1 0, 12, .inl (nIf ki))), (aSm, .inl (g.2.1 0, 12, .inl (nIf ma))), (aSp, .inl (g.2.1 0, 40, .inl (nIf bp))), (aSt, .inl (g.2.1 0, 40, .inl (nIf bt))), (aSc, .inl (g.2.1 0, 60, .inl co)), (aSe, .inl (g.2.1 0, 320, .inl ce)), (aO, .inr (3, [.ref aOv, .ref aOs, .ref aOm, .ref aL])), (aOv, .inl (g.2.1 2, 495, .inr (.inl (vp_updL (fillT i (crL (crF gr ki ma bp bt br L (sdF cs V))) va) i ((nI ((crF gr ki ma bp bt br L (sdF cs V)) i)).toInt64))))), (aOs, .inl (g.2.1 2, 286, .inr (.inl su))), (aOm, .inl (g.2.1 0, 10, .inl (nIf mk))), (aCh, .inl (g.2.1 0, 495, .inl (nIf th))), (aCw, .inl (g.2.1 0, 495, .inl (nIf tw)))]) dX0_settleWinners_36 17 i rfl (rfl) (by omega) (by decide) rfl ?_
      refine x_iinc (lv' := [some (.ref aC), some (.int (nI (i + 1)))]) (nI (i + 1)) dX0_settleWinners_37 rfl (nI_addc i 1 rfl) rfl ?_
      refine x_goto dX0_settleWinners_40 ?_
      exact ih14 (by omega) _ (by exact fillT_updL i (crL (crF gr ki ma bp bt br L (sdF cs V))) va)
  exact L14_3 0 (Nat.zero_le _) _ (by exact (fillT_0 _ _).symm)

-- == settleW_1 ==
set_option maxRecDepth 100000 in
set_option maxHeartbeats 4000000 in
theorem ct_settleW_1 (l : Launch) (g : XG) (aC aS aL aV aO aCs aCl aCh aCw aCc aCb tot lat : Nat) (se sw : Int32) (aLb aLp aVs aSk aSm aSp aSt aSc aSr aSe gr br cs wk : Nat) (z : Int32) (sd li cr ki ma bp bt : Nat → Nat) (co ce sk : Nat → Int32) (aOv aOs aOm : Nat) (va su : Nat → Int64) (mk th tw : Nat → Nat) (V : Nat → Int32) (L : Nat) (hgr : gr ≤ 12) (hbr : br ≤ 40) (hcs : cs ≤ 60) (hwk : wk ≤ 40) (hki : ∀ j, ki j ≤ 7) (hma : ∀ j, ma j ≤ 99999) (hbp : ∀ j, bp j < 495) (hlat : latI ce wk = nI L) (hL : L < 4096) (hV : cs ≠ 0 → ∀ p, p < 495 → evR (nmI wk L p) (cdF co 0 cs) [] = some [V p]) (hse : se = 0 ∨ (se = 1 ∧ sd = sdF cs V ∧ cr = crF gr ki ma bp bt br L (sdF cs V) ∧ tot = totF gr ki ma bp bt br L (sdF cs V) ∧ lat = L)) : Ct l g 7 0 0 yX0_settleWinners cX0_settleWinners 2 none [.ref aC] [(aC, .inr (0, [.ref aS, .ref aL, .ref aV, .ref aO, .ref aCs, .ref aCl, .ref aCh, .ref aCw, .ref aCc, .ref aCb, .int (nI tot), .int (nI lat), .int se, .int 1])), (aCs, .inl (g.2.1 0, 495, .inl (nIf sd))), (aCl, .inl (g.2.1 0, 495, .inl (nIf li))), (aCc, .inl (g.2.1 0, 495, .inl (nIf cr))), (aL, .inr (5, [.ref aLb, .ref aLp])), (aLb, .inl (g.2.1 0, 495, .inl (nIf rowB))), (aLp, .inl (g.2.1 0, 495, .inl (nIf packB))), (aV, .inr (2, [.ref aS, .ref aVs])), (aVs, .inl (g.2.1 0, 60, .inl sk)), (aS, .inr (6, [.ref aSk, .ref aSm, .ref aSp, .ref aSt, .ref aSc, .ref aSr, .ref aSe, .int (nI gr), .int (nI br), .int (nI cs), .int (nI wk), .int z])), (aSk, .inl (g.2.1 0, 12, .inl (nIf ki))), (aSm, .inl (g.2.1 0, 12, .inl (nIf ma))), (aSp, .inl (g.2.1 0, 40, .inl (nIf bp))), (aSt, .inl (g.2.1 0, 40, .inl (nIf bt))), (aSc, .inl (g.2.1 0, 60, .inl co)), (aSe, .inl (g.2.1 0, 320, .inl ce)), (aO, .inr (3, [.ref aOv, .ref aOs, .ref aOm, .ref aL])), (aOv, .inl (g.2.1 2, 495, .inr (.inl va))), (aOs, .inl (g.2.1 2, 286, .inr (.inl su))), (aOm, .inl (g.2.1 0, 10, .inl (nIf mk))), (aCh, .inl (g.2.1 0, 495, .inl (nIf th))), (aCw, .inl (g.2.1 0, 495, .inl (nIf tw)))] (fun vv_ ww_ => ∃ (li2 : Nat → Nat) (sk2 : Nat → Int32), vv_ = none ∧ ww_ = [(aC, .inr (0, [.ref aS, .ref aL, .ref aV, .ref aO, .ref aCs, .ref aCl, .ref aCh, .ref aCw, .ref aCc, .ref aCb, .int (nI (totF gr ki ma bp bt br L (sdF cs V))), .int (nI L), .int 1, .int 1])), (aCs, .inl (g.2.1 0, 495, .inl (nIf (sdF cs V)))), (aCl, .inl (g.2.1 0, 495, .inl (nIf li2))), (aCc, .inl (g.2.1 0, 495, .inl (nIf (crF gr ki ma bp bt br L (sdF cs V))))), (aL, .inr (5, [.ref aLb, .ref aLp])), (aLb, .inl (g.2.1 0, 495, .inl (nIf rowB))), (aLp, .inl (g.2.1 0, 495, .inl (nIf packB))), (aV, .inr (2, [.ref aS, .ref aVs])), (aVs, .inl (g.2.1 0, 60, .inl sk2)), (aS, .inr (6, [.ref aSk, .ref aSm, .ref aSp, .ref aSt, .ref aSc, .ref aSr, .ref aSe, .int (nI gr), .int (nI br), .int (nI cs), .int (nI wk), .int z])), (aSk, .inl (g.2.1 0, 12, .inl (nIf ki))), (aSm, .inl (g.2.1 0, 12, .inl (nIf ma))), (aSp, .inl (g.2.1 0, 40, .inl (nIf bp))), (aSt, .inl (g.2.1 0, 40, .inl (nIf bt))), (aSc, .inl (g.2.1 0, 60, .inl co)), (aSe, .inl (g.2.1 0, 320, .inl ce)), (aO, .inr (3, [.ref aOv, .ref aOs, .ref aOm, .ref aL])), (aOv, .inl (g.2.1 2, 495, .inr (.inl va))), (aOs, .inl (g.2.1 2, 286, .inr (.inl su))), (aOm, .inl (g.2.1 0, 10, .inl (nIf mk))), (aCh, .inl (g.2.1 0, 495, .inl (nIf th))), (aCw, .inl (g.2.1 0, 495, .inl (nIf tw)))]) := by
  refine Ct.ofX (lv := [some (.ref aC), none]) (by decide) rfl (Nat.le_of_ble_eq_true rfl) (fun κ => ?_)
  generalize hQ : xQ κ g 0 0 _ = Q
  refine x_aload_n dX0_settleWinners_0 rfl ?_
  refine x_callV dX0_settleWinners_1 ml_X0_119 mX0_settle (ct_X0_settle κ.2.1 g aC aS aL aV aO aCs aCl aCh aCw aCc aCb tot lat se 1 aLb aLp aVs aSk aSm aSp aSt aSc aSr aSe gr br cs wk z sd li cr ki ma bp bt co ce sk V L (hgr) (hbr) (hcs) (hwk) (hki) (hma) (hbp) (hlat) (hL) (hV) (hse)) [0, 1, 2, 3, 4, 5, 6, 7, 8, 9, 10, 11, 12, 13, 14, 15] rfl rfl 0 rfl rfl rfl (Nat.le_of_ble_eq_true rfl) (by decide) (Nat.le_refl _) (Nat.le_refl _) (fun vv ww hp => ?_)
  obtain ⟨z1, z2, rfl, rfl⟩ := hp
  refine ⟨(rfl : [aC, aCs, aCl, aCc, aL, aLb, aLp, aV, aVs, aS, aSk, aSm, aSp, aSt, aSc, aSe] = [aC, aCs, aCl, aCc, aL, aLb, aLp, aV, aVs, aS, aSk, aSm, aSp, aSt, aSc, aSe]), x_eq (lv' := [some (.ref aC), none]) (st' := []) (ws' := [(aC, .inr (0, [.ref aS, .ref aL, .ref aV, .ref aO, .ref aCs, .ref aCl, .ref aCh, .ref aCw, .ref aCc, .ref aCb, .int (nI (totF gr ki ma bp bt br L (sdF cs V))), .int (nI L), .int 1, .int 1])), (aCs, .inl (g.2.1 0, 495, .inl (nIf (sdF cs V)))), (aCl, .inl (g.2.1 0, 495, .inl (nIf z1))), (aCc, .inl (g.2.1 0, 495, .inl (nIf (crF gr ki ma bp bt br L (sdF cs V))))), (aL, .inr (5, [.ref aLb, .ref aLp])), (aLb, .inl (g.2.1 0, 495, .inl (nIf rowB))), (aLp, .inl (g.2.1 0, 495, .inl (nIf packB))), (aV, .inr (2, [.ref aS, .ref aVs])), (aVs, .inl (g.2.1 0, 60, .inl z2)), (aS, .inr (6, [.ref aSk, .ref aSm, .ref aSp, .ref aSt, .ref aSc, .ref aSr, .ref aSe, .int (nI gr), .int (nI br), .int (nI cs), .int (nI wk), .int z])), (aSk, .inl (g.2.1 0, 12, .inl (nIf ki))), (aSm, .inl (g.2.1 0, 12, .inl (nIf ma))), (aSp, .inl (g.2.1 0, 40, .inl (nIf bp))), (aSt, .inl (g.2.1 0, 40, .inl (nIf bt))), (aSc, .inl (g.2.1 0, 60, .inl co)), (aSe, .inl (g.2.1 0, 320, .inl ce)), (aO, .inr (3, [.ref aOv, .ref aOs, .ref aOm, .ref aL])), (aOv, .inl (g.2.1 2, 495, .inr (.inl va))), (aOs, .inl (g.2.1 2, 286, .inr (.inl su))), (aOm, .inl (g.2.1 0, 10, .inl (nIf mk))), (aCh, .inl (g.2.1 0, 495, .inl (nIf th))), (aCw, .inl (g.2.1 0, 495, .inl (nIf tw)))]) ?_ rfl rfl rfl⟩
  refine x_aload_n dX0_settleWinners_4 rfl ?_
  refine x_get dX0_settleWinners_5 0 13 inX0 fl_X0_55 rfl rfl (by decide) rfl ?_
  refine x_if_eq dX0_settleWinners_8 (fun c8 => ?_) (fun c8 => ?_)
  · exact absurd c8 (by decide)
  rw [← hQ]
  refine x_vret dX0_settleWinners_11 rfl (Nat.le_of_ble_eq_true rfl) (Nat.le_of_ble_eq_true rfl) ?_
  exact ⟨_, _, rfl, rfl⟩

-- == X0_settleWinners ==
theorem ct_X0_settleWinners (l : Launch) (g : XG) (aC aS aL aV aO aCs aCl aCh aCw aCc aCb tot lat : Nat) (se sw : Int32) (aLb aLp aVs aSk aSm aSp aSt aSc aSr aSe gr br cs wk : Nat) (z : Int32) (sd li cr ki ma bp bt : Nat → Nat) (co ce sk : Nat → Int32) (aOv aOs aOm : Nat) (va su : Nat → Int64) (mk th tw : Nat → Nat) (V : Nat → Int32) (L : Nat) (hgr : gr ≤ 12) (hbr : br ≤ 40) (hcs : cs ≤ 60) (hwk : wk ≤ 40) (hki : ∀ j, ki j ≤ 7) (hma : ∀ j, ma j ≤ 99999) (hbp : ∀ j, bp j < 495) (hlat : latI ce wk = nI L) (hL : L < 4096) (hV : cs ≠ 0 → ∀ p, p < 495 → evR (nmI wk L p) (cdF co 0 cs) [] = some [V p]) (hse : se = 0 ∨ (se = 1 ∧ sd = sdF cs V ∧ cr = crF gr ki ma bp bt br L (sdF cs V) ∧ tot = totF gr ki ma bp bt br L (sdF cs V) ∧ lat = L)) (hsw : sw = 0 ∨ (sw = 1 ∧ th = thF (crF gr ki ma bp bt br L (sdF cs V)) ∧ tw = twF (crF gr ki ma bp bt br L (sdF cs V)))) : Ct l g 7 0 0 yX0_settleWinners cX0_settleWinners 2 none [.ref aC] [(aC, .inr (0, [.ref aS, .ref aL, .ref aV, .ref aO, .ref aCs, .ref aCl, .ref aCh, .ref aCw, .ref aCc, .ref aCb, .int (nI tot), .int (nI lat), .int se, .int sw])), (aCs, .inl (g.2.1 0, 495, .inl (nIf sd))), (aCl, .inl (g.2.1 0, 495, .inl (nIf li))), (aCc, .inl (g.2.1 0, 495, .inl (nIf cr))), (aL, .inr (5, [.ref aLb, .ref aLp])), (aLb, .inl (g.2.1 0, 495, .inl (nIf rowB))), (aLp, .inl (g.2.1 0, 495, .inl (nIf packB))), (aV, .inr (2, [.ref aS, .ref aVs])), (aVs, .inl (g.2.1 0, 60, .inl sk)), (aS, .inr (6, [.ref aSk, .ref aSm, .ref aSp, .ref aSt, .ref aSc, .ref aSr, .ref aSe, .int (nI gr), .int (nI br), .int (nI cs), .int (nI wk), .int z])), (aSk, .inl (g.2.1 0, 12, .inl (nIf ki))), (aSm, .inl (g.2.1 0, 12, .inl (nIf ma))), (aSp, .inl (g.2.1 0, 40, .inl (nIf bp))), (aSt, .inl (g.2.1 0, 40, .inl (nIf bt))), (aSc, .inl (g.2.1 0, 60, .inl co)), (aSe, .inl (g.2.1 0, 320, .inl ce)), (aO, .inr (3, [.ref aOv, .ref aOs, .ref aOm, .ref aL])), (aOv, .inl (g.2.1 2, 495, .inr (.inl va))), (aOs, .inl (g.2.1 2, 286, .inr (.inl su))), (aOm, .inl (g.2.1 0, 10, .inl (nIf mk))), (aCh, .inl (g.2.1 0, 495, .inl (nIf th))), (aCw, .inl (g.2.1 0, 495, .inl (nIf tw)))] (fun vv_ ww_ => ∃ (li2 : Nat → Nat) (sk2 : Nat → Int32) (va2 : Nat → Int64) (su2 : Nat → Int64) (mk2 : Nat → Nat), vv_ = none ∧ ww_ = [(aC, .inr (0, [.ref aS, .ref aL, .ref aV, .ref aO, .ref aCs, .ref aCl, .ref aCh, .ref aCw, .ref aCc, .ref aCb, .int (nI (totF gr ki ma bp bt br L (sdF cs V))), .int (nI L), .int 1, .int 1])), (aCs, .inl (g.2.1 0, 495, .inl (nIf (sdF cs V)))), (aCl, .inl (g.2.1 0, 495, .inl (nIf li2))), (aCc, .inl (g.2.1 0, 495, .inl (nIf (crF gr ki ma bp bt br L (sdF cs V))))), (aL, .inr (5, [.ref aLb, .ref aLp])), (aLb, .inl (g.2.1 0, 495, .inl (nIf rowB))), (aLp, .inl (g.2.1 0, 495, .inl (nIf packB))), (aV, .inr (2, [.ref aS, .ref aVs])), (aVs, .inl (g.2.1 0, 60, .inl sk2)), (aS, .inr (6, [.ref aSk, .ref aSm, .ref aSp, .ref aSt, .ref aSc, .ref aSr, .ref aSe, .int (nI gr), .int (nI br), .int (nI cs), .int (nI wk), .int z])), (aSk, .inl (g.2.1 0, 12, .inl (nIf ki))), (aSm, .inl (g.2.1 0, 12, .inl (nIf ma))), (aSp, .inl (g.2.1 0, 40, .inl (nIf bp))), (aSt, .inl (g.2.1 0, 40, .inl (nIf bt))), (aSc, .inl (g.2.1 0, 60, .inl co)), (aSe, .inl (g.2.1 0, 320, .inl ce)), (aO, .inr (3, [.ref aOv, .ref aOs, .ref aOm, .ref aL])), (aOv, .inl (g.2.1 2, 495, .inr (.inl va2))), (aOs, .inl (g.2.1 2, 286, .inr (.inl su2))), (aOm, .inl (g.2.1 0, 10, .inl (nIf mk2))), (aCh, .inl (g.2.1 0, 495, .inl (nIf (thF (crF gr ki ma bp bt br L (sdF cs V)))))), (aCw, .inl (g.2.1 0, 495, .inl (nIf (twF (crF gr ki ma bp bt br L (sdF cs V))))))]) := by
  rcases hsw with rfl | ⟨rfl, rfl, rfl⟩
  · exact ct_settleW_0 l g aC aS aL aV aO aCs aCl aCh aCw aCc aCb tot lat se 0 aLb aLp aVs aSk aSm aSp aSt aSc aSr aSe gr br cs wk z sd li cr ki ma bp bt co ce sk aOv aOs aOm va su mk th tw V L hgr hbr hcs hwk hki hma hbp hlat hL hV hse
  · exact (ct_settleW_1 l g aC aS aL aV aO aCs aCl aCh aCw aCc aCb tot lat se 1 aLb aLp aVs aSk aSm aSp aSt aSc aSr aSe gr br cs wk z sd li cr ki ma bp bt co ce sk aOv aOs aOm va su mk _ _ V L hgr hbr hcs hwk hki hma hbp hlat hL hV hse).mono (fun v w h => by obtain ⟨a, b, h1, h2⟩ := h; exact ⟨a, b, va, su, mk, h1, h2⟩)

-- == X7_bestPlace ==
theorem dX7_bestPlace_0 : xd cX7_bestPlace 0 (.aload_n 0) 1 1 := ⟨by decide +kernel, rfl⟩
theorem dX7_bestPlace_1 : xd cX7_bestPlace 1 (.getfield 9) 3 4 := ⟨by decide +kernel, rfl⟩
theorem dX7_bestPlace_4 : xd cX7_bestPlace 4 (.lconst 0) 1 5 := ⟨by decide +kernel, rfl⟩
theorem dX7_bestPlace_5 : xd cX7_bestPlace 5 (.invokestatic 76) 3 8 := ⟨by decide +kernel, rfl⟩
theorem dX7_bestPlace_8 : xd cX7_bestPlace 8 (.aload_n 0) 1 9 := ⟨by decide +kernel, rfl⟩
theorem dX7_bestPlace_9 : xd cX7_bestPlace 9 (.getfield 19) 3 12 := ⟨by decide +kernel, rfl⟩
theorem dX7_bestPlace_12 : xd cX7_bestPlace 12 (.aload_n 0) 1 13 := ⟨by decide +kernel, rfl⟩
theorem dX7_bestPlace_13 : xd cX7_bestPlace 13 (.getfield 19) 3 16 := ⟨by decide +kernel, rfl⟩
theorem dX7_bestPlace_16 : xd cX7_bestPlace 16 (.getfield 82) 3 19 := ⟨by decide +kernel, rfl⟩
theorem dX7_bestPlace_19 : xd cX7_bestPlace 19 (.bipush 7) 2 21 := ⟨by decide +kernel, rfl⟩
theorem dX7_bestPlace_21 : xd cX7_bestPlace 21 .iaload 1 22 := ⟨by decide +kernel, rfl⟩
theorem dX7_bestPlace_22 : xd cX7_bestPlace 22 .i2l 1 23 := ⟨by decide +kernel, rfl⟩
theorem dX7_bestPlace_23 : xd cX7_bestPlace 23 (.aload_n 0) 1 24 := ⟨by decide +kernel, rfl⟩
theorem dX7_bestPlace_24 : xd cX7_bestPlace 24 (.getfield 27) 3 27 := ⟨by decide +kernel, rfl⟩
theorem dX7_bestPlace_27 : xd cX7_bestPlace 27 (.getfield 40) 3 30 := ⟨by decide +kernel, rfl⟩
theorem dX7_bestPlace_30 : xd cX7_bestPlace 30 .i2l 1 31 := ⟨by decide +kernel, rfl⟩
theorem dX7_bestPlace_31 : xd cX7_bestPlace 31 (.invokevirtual 46) 3 34 := ⟨by decide +kernel, rfl⟩
theorem dX7_bestPlace_34 : xd cX7_bestPlace 34 (.lstore_n 1) 1 35 := ⟨by decide +kernel, rfl⟩
theorem dX7_bestPlace_35 : xd cX7_bestPlace 35 (.iconst 4) 1 36 := ⟨by decide +kernel, rfl⟩
theorem dX7_bestPlace_36 : xd cX7_bestPlace 36 (.istore_n 3) 1 37 := ⟨by decide +kernel, rfl⟩
theorem dX7_bestPlace_37 : xd cX7_bestPlace 37 (.iload_n 3) 1 38 := ⟨by decide +kernel, rfl⟩
theorem dX7_bestPlace_38 : xd cX7_bestPlace 38 (.iconst 2) 1 39 := ⟨by decide +kernel, rfl⟩
theorem dX7_bestPlace_39 : xj cX7_bestPlace 39 (.if_icmp .lt) 42 152 := ⟨113, by decide +kernel, rfl, by decide⟩
theorem dX7_bestPlace_42 : xd cX7_bestPlace 42 (.aload_n 0) 1 43 := ⟨by decide +kernel, rfl⟩
theorem dX7_bestPlace_43 : xd cX7_bestPlace 43 (.getfield 19) 3 46 := ⟨by decide +kernel, rfl⟩
theorem dX7_bestPlace_46 : xd cX7_bestPlace 46 (.iload_n 3) 1 47 := ⟨by decide +kernel, rfl⟩
theorem dX7_bestPlace_47 : xd cX7_bestPlace 47 (.lload_n 1) 1 48 := ⟨by decide +kernel, rfl⟩
theorem dX7_bestPlace_48 : xd cX7_bestPlace 48 (.invokevirtual 52) 3 51 := ⟨by decide +kernel, rfl⟩
theorem dX7_bestPlace_51 : xd cX7_bestPlace 51 (.lstore 4) 2 53 := ⟨by decide +kernel, rfl⟩
theorem dX7_bestPlace_53 : xd cX7_bestPlace 53 (.iconst 0) 1 54 := ⟨by decide +kernel, rfl⟩
theorem dX7_bestPlace_54 : xd cX7_bestPlace 54 (.istore 6) 2 56 := ⟨by decide +kernel, rfl⟩
theorem dX7_bestPlace_56 : xd cX7_bestPlace 56 (.iload 6) 2 58 := ⟨by decide +kernel, rfl⟩
theorem dX7_bestPlace_58 : xd cX7_bestPlace 58 (.sipush 495) 3 61 := ⟨by decide +kernel, rfl⟩
theorem dX7_bestPlace_61 : xj cX7_bestPlace 61 (.if_icmp .ge) 64 97 := ⟨36, by decide +kernel, rfl, by decide⟩
theorem dX7_bestPlace_64 : xd cX7_bestPlace 64 (.aload_n 0) 1 65 := ⟨by decide +kernel, rfl⟩
theorem dX7_bestPlace_65 : xd cX7_bestPlace 65 (.getfield 31) 3 68 := ⟨by decide +kernel, rfl⟩
theorem dX7_bestPlace_68 : xd cX7_bestPlace 68 (.getfield 85) 3 71 := ⟨by decide +kernel, rfl⟩
theorem dX7_bestPlace_71 : xd cX7_bestPlace 71 (.iload 6) 2 73 := ⟨by decide +kernel, rfl⟩
theorem dX7_bestPlace_73 : xd cX7_bestPlace 73 (.aload_n 0) 1 74 := ⟨by decide +kernel, rfl⟩
theorem dX7_bestPlace_74 : xd cX7_bestPlace 74 (.lload 4) 2 76 := ⟨by decide +kernel, rfl⟩
theorem dX7_bestPlace_76 : xd cX7_bestPlace 76 (.aload_n 0) 1 77 := ⟨by decide +kernel, rfl⟩
theorem dX7_bestPlace_77 : xd cX7_bestPlace 77 (.getfield 27) 3 80 := ⟨by decide +kernel, rfl⟩
theorem dX7_bestPlace_80 : xd cX7_bestPlace 80 (.iload_n 3) 1 81 := ⟨by decide +kernel, rfl⟩
theorem dX7_bestPlace_81 : xd cX7_bestPlace 81 (.iload 6) 2 83 := ⟨by decide +kernel, rfl⟩
theorem dX7_bestPlace_83 : xd cX7_bestPlace 83 (.invokevirtual 62) 3 86 := ⟨by decide +kernel, rfl⟩
theorem dX7_bestPlace_86 : xd cX7_bestPlace 86 (.lconst 1) 1 87 := ⟨by decide +kernel, rfl⟩
theorem dX7_bestPlace_87 : xd cX7_bestPlace 87 (.invokevirtual 66) 3 90 := ⟨by decide +kernel, rfl⟩
theorem dX7_bestPlace_90 : xd cX7_bestPlace 90 .lastore 1 91 := ⟨by decide +kernel, rfl⟩
theorem dX7_bestPlace_91 : xd cX7_bestPlace 91 (.iinc 6 1) 3 94 := ⟨by decide +kernel, rfl⟩
theorem dX7_bestPlace_94 : xj cX7_bestPlace 94 .goto 97 56 := ⟨(-38), by decide +kernel, rfl, by decide⟩
theorem dX7_bestPlace_97 : xd cX7_bestPlace 97 (.iload_n 3) 1 98 := ⟨by decide +kernel, rfl⟩
theorem dX7_bestPlace_98 : xd cX7_bestPlace 98 (.iconst 4) 1 99 := ⟨by decide +kernel, rfl⟩
theorem dX7_bestPlace_99 : xj cX7_bestPlace 99 (.if_icmp .ge) 102 109 := ⟨10, by decide +kernel, rfl, by decide⟩
theorem dX7_bestPlace_102 : xd cX7_bestPlace 102 (.aload_n 0) 1 103 := ⟨by decide +kernel, rfl⟩
theorem dX7_bestPlace_103 : xd cX7_bestPlace 103 (.getfield 31) 3 106 := ⟨by decide +kernel, rfl⟩
theorem dX7_bestPlace_106 : xd cX7_bestPlace 106 (.invokevirtual 90) 3 109 := ⟨by decide +kernel, rfl⟩
theorem dX7_bestPlace_109 : xd cX7_bestPlace 109 (.iconst 0) 1 110 := ⟨by decide +kernel, rfl⟩
theorem dX7_bestPlace_110 : xd cX7_bestPlace 110 (.istore 6) 2 112 := ⟨by decide +kernel, rfl⟩
theorem dX7_bestPlace_112 : xd cX7_bestPlace 112 (.iload 6) 2 114 := ⟨by decide +kernel, rfl⟩
theorem dX7_bestPlace_114 : xd cX7_bestPlace 114 (.sipush 495) 3 117 := ⟨by decide +kernel, rfl⟩
theorem dX7_bestPlace_117 : xj cX7_bestPlace 117 (.if_icmp .ge) 120 146 := ⟨29, by decide +kernel, rfl, by decide⟩
theorem dX7_bestPlace_120 : xd cX7_bestPlace 120 (.aload_n 0) 1 121 := ⟨by decide +kernel, rfl⟩
theorem dX7_bestPlace_121 : xd cX7_bestPlace 121 (.getfield 9) 3 124 := ⟨by decide +kernel, rfl⟩
theorem dX7_bestPlace_124 : xd cX7_bestPlace 124 (.iload 6) 2 126 := ⟨by decide +kernel, rfl⟩
theorem dX7_bestPlace_126 : xd cX7_bestPlace 126 .dup2 1 127 := ⟨by decide +kernel, rfl⟩
theorem dX7_bestPlace_127 : xd cX7_bestPlace 127 .laload 1 128 := ⟨by decide +kernel, rfl⟩
theorem dX7_bestPlace_128 : xd cX7_bestPlace 128 (.aload_n 0) 1 129 := ⟨by decide +kernel, rfl⟩
theorem dX7_bestPlace_129 : xd cX7_bestPlace 129 (.getfield 31) 3 132 := ⟨by decide +kernel, rfl⟩
theorem dX7_bestPlace_132 : xd cX7_bestPlace 132 (.iload_n 3) 1 133 := ⟨by decide +kernel, rfl⟩
theorem dX7_bestPlace_133 : xd cX7_bestPlace 133 (.iload 6) 2 135 := ⟨by decide +kernel, rfl⟩
theorem dX7_bestPlace_135 : xd cX7_bestPlace 135 (.invokevirtual 93) 3 138 := ⟨by decide +kernel, rfl⟩
theorem dX7_bestPlace_138 : xd cX7_bestPlace 138 .ladd 1 139 := ⟨by decide +kernel, rfl⟩
theorem dX7_bestPlace_139 : xd cX7_bestPlace 139 .lastore 1 140 := ⟨by decide +kernel, rfl⟩
theorem dX7_bestPlace_140 : xd cX7_bestPlace 140 (.iinc 6 1) 3 143 := ⟨by decide +kernel, rfl⟩
theorem dX7_bestPlace_143 : xj cX7_bestPlace 143 .goto 146 112 := ⟨(-31), by decide +kernel, rfl, by decide⟩
theorem dX7_bestPlace_146 : xd cX7_bestPlace 146 (.iinc 3 (-1)) 3 149 := ⟨by decide +kernel, rfl⟩
theorem dX7_bestPlace_149 : xj cX7_bestPlace 149 .goto 152 37 := ⟨(-112), by decide +kernel, rfl, by decide⟩
theorem dX7_bestPlace_152 : xd cX7_bestPlace 152 (.iconst 0) 1 153 := ⟨by decide +kernel, rfl⟩
theorem dX7_bestPlace_153 : xd cX7_bestPlace 153 (.istore_n 3) 1 154 := ⟨by decide +kernel, rfl⟩
theorem dX7_bestPlace_154 : xd cX7_bestPlace 154 (.iconst 1) 1 155 := ⟨by decide +kernel, rfl⟩
theorem dX7_bestPlace_155 : xd cX7_bestPlace 155 (.istore 4) 2 157 := ⟨by decide +kernel, rfl⟩
theorem dX7_bestPlace_157 : xd cX7_bestPlace 157 (.iload 4) 2 159 := ⟨by decide +kernel, rfl⟩
theorem dX7_bestPlace_159 : xd cX7_bestPlace 159 (.sipush 495) 3 162 := ⟨by decide +kernel, rfl⟩
theorem dX7_bestPlace_162 : xj cX7_bestPlace 162 (.if_icmp .ge) 165 199 := ⟨37, by decide +kernel, rfl, by decide⟩
theorem dX7_bestPlace_165 : xd cX7_bestPlace 165 (.aload_n 0) 1 166 := ⟨by decide +kernel, rfl⟩
theorem dX7_bestPlace_166 : xd cX7_bestPlace 166 (.getfield 9) 3 169 := ⟨by decide +kernel, rfl⟩
theorem dX7_bestPlace_169 : xd cX7_bestPlace 169 (.iload 4) 2 171 := ⟨by decide +kernel, rfl⟩
theorem dX7_bestPlace_171 : xd cX7_bestPlace 171 .laload 1 172 := ⟨by decide +kernel, rfl⟩
theorem dX7_bestPlace_172 : xd cX7_bestPlace 172 (.ldc2_w 70) 3 175 := ⟨by decide +kernel, rfl⟩
theorem dX7_bestPlace_175 : xd cX7_bestPlace 175 .ldiv 1 176 := ⟨by decide +kernel, rfl⟩
theorem dX7_bestPlace_176 : xd cX7_bestPlace 176 (.aload_n 0) 1 177 := ⟨by decide +kernel, rfl⟩
theorem dX7_bestPlace_177 : xd cX7_bestPlace 177 (.getfield 9) 3 180 := ⟨by decide +kernel, rfl⟩
theorem dX7_bestPlace_180 : xd cX7_bestPlace 180 (.iload_n 3) 1 181 := ⟨by decide +kernel, rfl⟩
theorem dX7_bestPlace_181 : xd cX7_bestPlace 181 .laload 1 182 := ⟨by decide +kernel, rfl⟩
theorem dX7_bestPlace_182 : xd cX7_bestPlace 182 (.ldc2_w 70) 3 185 := ⟨by decide +kernel, rfl⟩
theorem dX7_bestPlace_185 : xd cX7_bestPlace 185 .ldiv 1 186 := ⟨by decide +kernel, rfl⟩
theorem dX7_bestPlace_186 : xd cX7_bestPlace 186 .lcmp 1 187 := ⟨by decide +kernel, rfl⟩
theorem dX7_bestPlace_187 : xj cX7_bestPlace 187 (.ifCond .le) 190 193 := ⟨6, by decide +kernel, rfl, by decide⟩
theorem dX7_bestPlace_190 : xd cX7_bestPlace 190 (.iload 4) 2 192 := ⟨by decide +kernel, rfl⟩
theorem dX7_bestPlace_192 : xd cX7_bestPlace 192 (.istore_n 3) 1 193 := ⟨by decide +kernel, rfl⟩
theorem dX7_bestPlace_193 : xd cX7_bestPlace 193 (.iinc 4 1) 3 196 := ⟨by decide +kernel, rfl⟩
theorem dX7_bestPlace_196 : xj cX7_bestPlace 196 .goto 199 157 := ⟨(-39), by decide +kernel, rfl, by decide⟩
theorem dX7_bestPlace_199 : xd cX7_bestPlace 199 (.iload_n 3) 1 200 := ⟨by decide +kernel, rfl⟩
theorem dX7_bestPlace_200 : xd cX7_bestPlace 200 .ireturn 1 201 := ⟨by decide +kernel, rfl⟩

set_option maxRecDepth 100000 in
set_option maxHeartbeats 4000000 in
theorem ct_X7_bestPlace (l : Launch) (g : XG) (aW aS aL aC aO aWs aWt : Nat) (aSk aSm aSp aSt aSc aSr aSe gr br cs wk : Nat) (z : Int32) (ru : Nat → Nat) (aV aCs aCl aCh aCw aCc aCb tot lat : Nat) (se sw : Int32) (cr th tw : Nat → Nat) (aLb aLp : Nat) (aOv aOs aOm : Nat) (va su wsm : Nat → Int64) (mk : Nat → Nat) : Ct l g 4 0 0 yX7_bestPlace cX7_bestPlace 7 (some .int) [.ref aW] [(aW, .inr (7, [.ref aS, .ref aL, .ref aC, .ref aO, .ref aWs, .ref aWt])), (aS, .inr (6, [.ref aSk, .ref aSm, .ref aSp, .ref aSt, .ref aSc, .ref aSr, .ref aSe, .int (nI gr), .int (nI br), .int (nI cs), .int (nI wk), .int z])), (aSr, .inl (g.2.1 0, 8, .inl (nIf ru))), (aC, .inr (0, [.ref aS, .ref aL, .ref aV, .ref aO, .ref aCs, .ref aCl, .ref aCh, .ref aCw, .ref aCc, .ref aCb, .int (nI tot), .int (nI lat), .int se, .int sw])), (aCc, .inl (g.2.1 0, 495, .inl (nIf cr))), (aCh, .inl (g.2.1 0, 495, .inl (nIf th))), (aCw, .inl (g.2.1 0, 495, .inl (nIf tw))), (aL, .inr (5, [.ref aLb, .ref aLp])), (aLp, .inl (g.2.1 0, 495, .inl (nIf packB))), (aO, .inr (3, [.ref aOv, .ref aOs, .ref aOm, .ref aL])), (aOv, .inl (g.2.1 2, 495, .inr (.inl va))), (aOs, .inl (g.2.1 2, 286, .inr (.inl su))), (aOm, .inl (g.2.1 0, 10, .inl (nIf mk))), (aWs, .inl (g.2.1 2, 495, .inr (.inl wsm)))] (fun vv_ ww_ => ∃ (va2 : Nat → Int64) (su2 : Nat → Int64) (mk2 : Nat → Nat) (ws2 : Nat → Int64), vv_ = some (.int (nI (bsT (bsS ru (wkPot ru tot) cr th tw) 495))) ∧ ww_ = [(aW, .inr (7, [.ref aS, .ref aL, .ref aC, .ref aO, .ref aWs, .ref aWt])), (aS, .inr (6, [.ref aSk, .ref aSm, .ref aSp, .ref aSt, .ref aSc, .ref aSr, .ref aSe, .int (nI gr), .int (nI br), .int (nI cs), .int (nI wk), .int z])), (aSr, .inl (g.2.1 0, 8, .inl (nIf ru))), (aC, .inr (0, [.ref aS, .ref aL, .ref aV, .ref aO, .ref aCs, .ref aCl, .ref aCh, .ref aCw, .ref aCc, .ref aCb, .int (nI tot), .int (nI lat), .int se, .int sw])), (aCc, .inl (g.2.1 0, 495, .inl (nIf cr))), (aCh, .inl (g.2.1 0, 495, .inl (nIf th))), (aCw, .inl (g.2.1 0, 495, .inl (nIf tw))), (aL, .inr (5, [.ref aLb, .ref aLp])), (aLp, .inl (g.2.1 0, 495, .inl (nIf packB))), (aO, .inr (3, [.ref aOv, .ref aOs, .ref aOm, .ref aL])), (aOv, .inl (g.2.1 2, 495, .inr (.inl va2))), (aOs, .inl (g.2.1 2, 286, .inr (.inl su2))), (aOm, .inl (g.2.1 0, 10, .inl (nIf mk2))), (aWs, .inl (g.2.1 2, 495, .inr (.inl ws2)))]) := by
  refine Ct.ofX (lv := [some (.ref aW), none, none, none, none, none, none]) (by decide) rfl (Nat.le_of_ble_eq_true rfl) (fun κ => ?_)
  generalize hQ : xQ κ g 0 0 _ = Q
  refine x_aload_n dX7_bestPlace_0 rfl ?_
  refine x_get dX7_bestPlace_1 0 4 inX7 fl_X7_9 rfl rfl (by decide) rfl ?_
  refine x_lconst 0 dX7_bestPlace_4 (by decide) ?_
  refine x_cSw (ws' := [(aW, .inr (7, [.ref aS, .ref aL, .ref aC, .ref aO, .ref aWs, .ref aWt])), (aS, .inr (6, [.ref aSk, .ref aSm, .ref aSp, .ref aSt, .ref aSc, .ref aSr, .ref aSe, .int (nI gr), .int (nI br), .int (nI cs), .int (nI wk), .int z])), (aSr, .inl (g.2.1 0, 8, .inl (nIf ru))), (aC, .inr (0, [.ref aS, .ref aL, .ref aV, .ref aO, .ref aCs, .ref aCl, .ref aCh, .ref aCw, .ref aCc, .ref aCb, .int (nI tot), .int (nI lat), .int se, .int sw])), (aCc, .inl (g.2.1 0, 495, .inl (nIf cr))), (aCh, .inl (g.2.1 0, 495, .inl (nIf th))), (aCw, .inl (g.2.1 0, 495, .inl (nIf tw))), (aL, .inr (5, [.ref aLb, .ref aLp])), (aLp, .inl (g.2.1 0, 495, .inl (nIf packB))), (aO, .inr (3, [.ref aOv, .ref aOs, .ref aOm, .ref aL])), (aOv, .inl (g.2.1 2, 495, .inr (.inl va))), (aOs, .inl (g.2.1 2, 286, .inr (.inl su))), (aOm, .inl (g.2.1 0, 10, .inl (nIf mk))), (aWs, .inl (g.2.1 2, 495, .inr (.inl (fun _ => 0))))]) dX7_bestPlace_5 ml_X7_76 mJ7_fill_d0a16 (ct_J7_fill_d0a16 κ.2.1 g aWs 495 0 wsm (by decide)) [13] rfl rfl rfl (Nat.le_of_ble_eq_true rfl) (by decide) (Nat.le_refl _) (Nat.le_refl _) (rfl : [aWs] = [aWs]) rfl ?_
  refine x_aload_n dX7_bestPlace_8 rfl ?_
  refine x_get dX7_bestPlace_9 0 0 inX7 fl_X7_19 rfl rfl (by decide) rfl ?_
  refine x_aload_n dX7_bestPlace_12 rfl ?_
  refine x_get dX7_bestPlace_13 0 0 inX7 fl_X7_19 rfl rfl (by decide) rfl ?_
  refine x_get dX7_bestPlace_16 1 5 inX6 fl_X7_82 rfl rfl (by decide) rfl ?_
  refine x_bipush 7 dX7_bestPlace_19 (by decide) ?_
  refine x_iald dX7_bestPlace_21 2 7 rfl (rfl) (by decide) (by decide) ?_
  refine x_i2l dX7_bestPlace_22 ?_
  refine x_aload_n dX7_bestPlace_23 rfl ?_
  refine x_get dX7_bestPlace_24 0 2 inX7 fl_X7_27 rfl rfl (by decide) rfl ?_
  refine x_get dX7_bestPlace_27 3 10 inX0 fl_X7_40 rfl rfl (by decide) rfl ?_
  refine x_i2l dX7_bestPlace_30 ?_
  refine x_cVl0 dX7_bestPlace_31 ml_X7_46 mX6_potWithIn (ct_X6_potWithIn κ.2.1 g aS aSk aSm aSp aSt aSc aSr aSe gr br cs wk z ru ((nI (ru 7)).toInt64) ((nI tot).toInt64)) [1, 2] rfl rfl 1 rfl rfl rfl (Nat.le_of_ble_eq_true rfl) (by decide) (Nat.le_refl _) (Nat.le_refl _) ?_
  refine x_lstore_n (lv' := [some (.ref aW), some (.long (potL ru ((nI (ru 7)).toInt64) ((nI tot).toInt64))), none, none, none, none, none]) dX7_bestPlace_34 (xlt rfl) rfl ?_
  refine x_iconst 4 dX7_bestPlace_35 (by decide) ?_
  refine x_istore_n (lv' := [some (.ref aW), some (.long (potL ru ((nI (ru 7)).toInt64) ((nI tot).toInt64))), none, some (.int 4), none, none, none]) dX7_bestPlace_36 (xlt rfl) rfl ?_
  refine x_iload_n dX7_bestPlace_37 rfl ?_
  refine x_iconst 2 dX7_bestPlace_38 (by decide) ?_
  refine x_icmp_lt dX7_bestPlace_39 (fun c39 => ?_) (fun c39 => ?_)
  · exact absurd c39 (by decide)
  refine x_aload_n dX7_bestPlace_42 rfl ?_
  refine x_get dX7_bestPlace_43 0 0 inX7 fl_X7_19 rfl rfl (by decide) rfl ?_
  refine x_iload_n dX7_bestPlace_46 rfl ?_
  refine x_lload_n dX7_bestPlace_47 rfl ?_
  refine x_cVl0 dX7_bestPlace_48 ml_X7_52 mX6_rankPart (ct_X6_rankPart κ.2.1 g aS aSk aSm aSp aSt aSc aSr aSe gr br cs wk z ru 4 (potL ru ((nI (ru 7)).toInt64) ((nI tot).toInt64)) (by decide)) [1, 2] rfl rfl 1 rfl rfl rfl (Nat.le_of_ble_eq_true rfl) (by decide) (Nat.le_refl _) (Nat.le_refl _) ?_
  refine x_lstore (lv' := [some (.ref aW), some (.long (potL ru ((nI (ru 7)).toInt64) ((nI tot).toInt64))), none, some (.int 4), some (.long (partL ru 4 (potL ru ((nI (ru 7)).toInt64) ((nI tot).toInt64)))), none, none]) dX7_bestPlace_51 (xlt rfl) rfl ?_
  refine x_iconst 0 dX7_bestPlace_53 (by decide) ?_
  refine x_istore (lv' := [some (.ref aW), some (.long (potL ru ((nI (ru 7)).toInt64) ((nI tot).toInt64))), none, some (.int 4), some (.long (partL ru 4 (potL ru ((nI (ru 7)).toInt64) ((nI tot).toInt64)))), none, some (.int 0)]) dX7_bestPlace_54 (xlt rfl) rfl ?_
  have L56_1 : ∀ (i : Nat), i ≤ 495 → ∀ (vf : Nat → Int64), vf = fillT i (bvF ru (wkPot ru tot) cr th tw 4) va → Xs κ g 4 0 0 cX7_bestPlace yX7_bestPlace (some .int) Q 0 0 56 [some (.ref aW), some (.long (potL ru ((nI (ru 7)).toInt64) ((nI tot).toInt64))), none, some (.int 4), some (.long (partL ru 4 (potL ru ((nI (ru 7)).toInt64) ((nI tot).toInt64)))), none, some (.int (nI i))] [] [(aW, .inr (7, [.ref aS, .ref aL, .ref aC, .ref aO, .ref aWs, .ref aWt])), (aS, .inr (6, [.ref aSk, .ref aSm, .ref aSp, .ref aSt, .ref aSc, .ref aSr, .ref aSe, .int (nI gr), .int (nI br), .int (nI cs), .int (nI wk), .int z])), (aSr, .inl (g.2.1 0, 8, .inl (nIf ru))), (aC, .inr (0, [.ref aS, .ref aL, .ref aV, .ref aO, .ref aCs, .ref aCl, .ref aCh, .ref aCw, .ref aCc, .ref aCb, .int (nI tot), .int (nI lat), .int se, .int sw])), (aCc, .inl (g.2.1 0, 495, .inl (nIf cr))), (aCh, .inl (g.2.1 0, 495, .inl (nIf th))), (aCw, .inl (g.2.1 0, 495, .inl (nIf tw))), (aL, .inr (5, [.ref aLb, .ref aLp])), (aLp, .inl (g.2.1 0, 495, .inl (nIf packB))), (aO, .inr (3, [.ref aOv, .ref aOs, .ref aOm, .ref aL])), (aOv, .inl (g.2.1 2, 495, .inr (.inl vf))), (aOs, .inl (g.2.1 2, 286, .inr (.inl su))), (aOm, .inl (g.2.1 0, 10, .inl (nIf mk))), (aWs, .inl (g.2.1 2, 495, .inr (.inl (fun _ => 0))))] := by
    refine upTo 495 (fun i hi56 ih56 => ?_)
    intro vf evf
    subst evf
    refine x_iload dX7_bestPlace_56 rfl ?_
    refine x_sipush 495 dX7_bestPlace_58 (by decide) ?_
    refine x_icmp_ge dX7_bestPlace_61 (fun c61 => ?_) (fun c61 => ?_)
    · have c61 : 495 ≤ (nI i) := c61
      have c61n := (nI_leI (a := 495) (b := i) (by omega) (by omega)).mp c61
      have hxc61 : i = 495 := by omega
      try rw [hxc61]
      refine x_funl (ws' := [(aW, .inr (7, [.ref aS, .ref aL, .ref aC, .ref aO, .ref aWs, .ref aWt])), (aS, .inr (6, [.ref aSk, .ref aSm, .ref aSp, .ref aSt, .ref aSc, .ref aSr, .ref aSe, .int (nI gr), .int (nI br), .int (nI cs), .int (nI wk), .int z])), (aSr, .inl (g.2.1 0, 8, .inl (nIf ru))), (aC, .inr (0, [.ref aS, .ref aL, .ref aV, .ref aO, .ref aCs, .ref aCl, .ref aCh, .ref aCw, .ref aCc, .ref aCb, .int (nI tot), .int (nI lat), .int se, .int sw])), (aCc, .inl (g.2.1 0, 495, .inl (nIf cr))), (aCh, .inl (g.2.1 0, 495, .inl (nIf th))), (aCw, .inl (g.2.1 0, 495, .inl (nIf tw))), (aL, .inr (5, [.ref aLb, .ref aLp])), (aLp, .inl (g.2.1 0, 495, .inl (nIf packB))), (aO, .inr (3, [.ref aOv, .ref aOs, .ref aOm, .ref aL])), (aOv, .inl (g.2.1 2, 495, .inr (.inl (bvF ru (wkPot ru tot) cr th tw 4)))), (aOs, .inl (g.2.1 2, 286, .inr (.inl su))), (aOm, .inl (g.2.1 0, 10, .inl (nIf mk))), (aWs, .inl (g.2.1 2, 495, .inr (.inl (fun _ => 0))))]) (q0 := 10) rfl (fun j hj => fillT_in _ _ hj) rfl ?_
      refine x_iload_n dX7_bestPlace_97 rfl ?_
      refine x_iconst 4 dX7_bestPlace_98 (by decide) ?_
      refine x_icmp_ge dX7_bestPlace_99 (fun c99 => ?_) (fun c99 => ?_)
      rotate_left
      · exact absurd c99 (by decide)
      refine x_iconst 0 dX7_bestPlace_109 (by decide) ?_
      refine x_istore (lv' := [some (.ref aW), some (.long (potL ru ((nI (ru 7)).toInt64) ((nI tot).toInt64))), none, some (.int 4), some (.long (partL ru 4 (potL ru ((nI (ru 7)).toInt64) ((nI tot).toInt64)))), none, some (.int 0)]) dX7_bestPlace_110 (xlt rfl) rfl ?_
      have L112_2 : ∀ (i : Nat), i ≤ 495 → ∀ (wf : Nat → Int64), wf = fillT i (fun p => 0 + ovS 4 (bvF ru (wkPot ru tot) cr th tw 4) p) (fun _ => 0) → Xs κ g 4 0 0 cX7_bestPlace yX7_bestPlace (some .int) Q 0 0 112 [some (.ref aW), some (.long (potL ru ((nI (ru 7)).toInt64) ((nI tot).toInt64))), none, some (.int 4), some (.long (partL ru 4 (potL ru ((nI (ru 7)).toInt64) ((nI tot).toInt64)))), none, some (.int (nI i))] [] [(aW, .inr (7, [.ref aS, .ref aL, .ref aC, .ref aO, .ref aWs, .ref aWt])), (aS, .inr (6, [.ref aSk, .ref aSm, .ref aSp, .ref aSt, .ref aSc, .ref aSr, .ref aSe, .int (nI gr), .int (nI br), .int (nI cs), .int (nI wk), .int z])), (aSr, .inl (g.2.1 0, 8, .inl (nIf ru))), (aC, .inr (0, [.ref aS, .ref aL, .ref aV, .ref aO, .ref aCs, .ref aCl, .ref aCh, .ref aCw, .ref aCc, .ref aCb, .int (nI tot), .int (nI lat), .int se, .int sw])), (aCc, .inl (g.2.1 0, 495, .inl (nIf cr))), (aCh, .inl (g.2.1 0, 495, .inl (nIf th))), (aCw, .inl (g.2.1 0, 495, .inl (nIf tw))), (aL, .inr (5, [.ref aLb, .ref aLp])), (aLp, .inl (g.2.1 0, 495, .inl (nIf packB))), (aO, .inr (3, [.ref aOv, .ref aOs, .ref aOm, .ref aL])), (aOv, .inl (g.2.1 2, 495, .inr (.inl (bvF ru (wkPot ru tot) cr th tw 4)))), (aOs, .inl (g.2.1 2, 286, .inr (.inl su))), (aOm, .inl (g.2.1 0, 10, .inl (nIf mk))), (aWs, .inl (g.2.1 2, 495, .inr (.inl wf)))] := by
        refine upTo 495 (fun i hi112 ih112 => ?_)
        intro wf ewf
        subst ewf
        refine x_iload dX7_bestPlace_112 rfl ?_
        refine x_sipush 495 dX7_bestPlace_114 (by decide) ?_
        refine x_icmp_ge dX7_bestPlace_117 (fun c117 => ?_) (fun c117 => ?_)
        · have c117 : 495 ≤ (nI i) := c117
          have c117n := (nI_leI (a := 495) (b := i) (by omega) (by omega)).mp c117
          have hxc117 : i = 495 := by omega
          try rw [hxc117]
          refine x_funl (ws' := [(aW, .inr (7, [.ref aS, .ref aL, .ref aC, .ref aO, .ref aWs, .ref aWt])), (aS, .inr (6, [.ref aSk, .ref aSm, .ref aSp, .ref aSt, .ref aSc, .ref aSr, .ref aSe, .int (nI gr), .int (nI br), .int (nI cs), .int (nI wk), .int z])), (aSr, .inl (g.2.1 0, 8, .inl (nIf ru))), (aC, .inr (0, [.ref aS, .ref aL, .ref aV, .ref aO, .ref aCs, .ref aCl, .ref aCh, .ref aCw, .ref aCc, .ref aCb, .int (nI tot), .int (nI lat), .int se, .int sw])), (aCc, .inl (g.2.1 0, 495, .inl (nIf cr))), (aCh, .inl (g.2.1 0, 495, .inl (nIf th))), (aCw, .inl (g.2.1 0, 495, .inl (nIf tw))), (aL, .inr (5, [.ref aLb, .ref aLp])), (aLp, .inl (g.2.1 0, 495, .inl (nIf packB))), (aO, .inr (3, [.ref aOv, .ref aOs, .ref aOm, .ref aL])), (aOv, .inl (g.2.1 2, 495, .inr (.inl (bvF ru (wkPot ru tot) cr th tw 4)))), (aOs, .inl (g.2.1 2, 286, .inr (.inl su))), (aOm, .inl (g.2.1 0, 10, .inl (nIf mk))), (aWs, .inl (g.2.1 2, 495, .inr (.inl (fun p => 0 + ovS 4 (bvF ru (wkPot ru tot) cr th tw 4) p))))]) (q0 := 13) rfl (fun j hj => fillT_in _ _ hj) rfl ?_
          refine x_iinc (lv' := [some (.ref aW), some (.long (potL ru ((nI (ru 7)).toInt64) ((nI tot).toInt64))), none, some (.int 3), some (.long (partL ru 4 (potL ru ((nI (ru 7)).toInt64) ((nI tot).toInt64)))), none, some (.int 495)]) (3) dX7_bestPlace_146 rfl (by decide) rfl ?_
          refine x_goto dX7_bestPlace_149 ?_
          refine x_iload_n dX7_bestPlace_37 rfl ?_
          refine x_iconst 2 dX7_bestPlace_38 (by decide) ?_
          refine x_icmp_lt dX7_bestPlace_39 (fun c39 => ?_) (fun c39 => ?_)
          · exact absurd c39 (by decide)
          refine x_aload_n dX7_bestPlace_42 rfl ?_
          refine x_get dX7_bestPlace_43 0 0 inX7 fl_X7_19 rfl rfl (by decide) rfl ?_
          refine x_iload_n dX7_bestPlace_46 rfl ?_
          refine x_lload_n dX7_bestPlace_47 rfl ?_
          refine x_cVl0 dX7_bestPlace_48 ml_X7_52 mX6_rankPart (ct_X6_rankPart κ.2.1 g aS aSk aSm aSp aSt aSc aSr aSe gr br cs wk z ru 3 (potL ru ((nI (ru 7)).toInt64) ((nI tot).toInt64)) (by decide)) [1, 2] rfl rfl 1 rfl rfl rfl (Nat.le_of_ble_eq_true rfl) (by decide) (Nat.le_refl _) (Nat.le_refl _) ?_
          refine x_lstore (lv' := [some (.ref aW), some (.long (potL ru ((nI (ru 7)).toInt64) ((nI tot).toInt64))), none, some (.int 3), some (.long (partL ru 3 (potL ru ((nI (ru 7)).toInt64) ((nI tot).toInt64)))), none, some (.int 495)]) dX7_bestPlace_51 (xlt rfl) rfl ?_
          refine x_iconst 0 dX7_bestPlace_53 (by decide) ?_
          refine x_istore (lv' := [some (.ref aW), some (.long (potL ru ((nI (ru 7)).toInt64) ((nI tot).toInt64))), none, some (.int 3), some (.long (partL ru 3 (potL ru ((nI (ru 7)).toInt64) ((nI tot).toInt64)))), none, some (.int 0)]) dX7_bestPlace_54 (xlt rfl) rfl ?_
          have L56_3 : ∀ (i : Nat), i ≤ 495 → ∀ (vf : Nat → Int64), vf = fillT i (bvF ru (wkPot ru tot) cr th tw 3) (bvF ru (wkPot ru tot) cr th tw 4) → Xs κ g 4 0 0 cX7_bestPlace yX7_bestPlace (some .int) Q 0 0 56 [some (.ref aW), some (.long (potL ru ((nI (ru 7)).toInt64) ((nI tot).toInt64))), none, some (.int 3), some (.long (partL ru 3 (potL ru ((nI (ru 7)).toInt64) ((nI tot).toInt64)))), none, some (.int (nI i))] [] [(aW, .inr (7, [.ref aS, .ref aL, .ref aC, .ref aO, .ref aWs, .ref aWt])), (aS, .inr (6, [.ref aSk, .ref aSm, .ref aSp, .ref aSt, .ref aSc, .ref aSr, .ref aSe, .int (nI gr), .int (nI br), .int (nI cs), .int (nI wk), .int z])), (aSr, .inl (g.2.1 0, 8, .inl (nIf ru))), (aC, .inr (0, [.ref aS, .ref aL, .ref aV, .ref aO, .ref aCs, .ref aCl, .ref aCh, .ref aCw, .ref aCc, .ref aCb, .int (nI tot), .int (nI lat), .int se, .int sw])), (aCc, .inl (g.2.1 0, 495, .inl (nIf cr))), (aCh, .inl (g.2.1 0, 495, .inl (nIf th))), (aCw, .inl (g.2.1 0, 495, .inl (nIf tw))), (aL, .inr (5, [.ref aLb, .ref aLp])), (aLp, .inl (g.2.1 0, 495, .inl (nIf packB))), (aO, .inr (3, [.ref aOv, .ref aOs, .ref aOm, .ref aL])), (aOv, .inl (g.2.1 2, 495, .inr (.inl vf))), (aOs, .inl (g.2.1 2, 286, .inr (.inl su))), (aOm, .inl (g.2.1 0, 10, .inl (nIf mk))), (aWs, .inl (g.2.1 2, 495, .inr (.inl (fun p => 0 + ovS 4 (bvF ru (wkPot ru tot) cr th tw 4) p))))] := by
            refine upTo 495 (fun i hi56 ih56 => ?_)
            intro vf evf
            subst evf
            refine x_iload dX7_bestPlace_56 rfl ?_
            refine x_sipush 495 dX7_bestPlace_58 (by decide) ?_
            refine x_icmp_ge dX7_bestPlace_61 (fun c61 => ?_) (fun c61 => ?_)
            · have c61 : 495 ≤ (nI i) := c61
              have c61n := (nI_leI (a := 495) (b := i) (by omega) (by omega)).mp c61
              have hxc61 : i = 495 := by omega
              try rw [hxc61]
              refine x_funl (ws' := [(aW, .inr (7, [.ref aS, .ref aL, .ref aC, .ref aO, .ref aWs, .ref aWt])), (aS, .inr (6, [.ref aSk, .ref aSm, .ref aSp, .ref aSt, .ref aSc, .ref aSr, .ref aSe, .int (nI gr), .int (nI br), .int (nI cs), .int (nI wk), .int z])), (aSr, .inl (g.2.1 0, 8, .inl (nIf ru))), (aC, .inr (0, [.ref aS, .ref aL, .ref aV, .ref aO, .ref aCs, .ref aCl, .ref aCh, .ref aCw, .ref aCc, .ref aCb, .int (nI tot), .int (nI lat), .int se, .int sw])), (aCc, .inl (g.2.1 0, 495, .inl (nIf cr))), (aCh, .inl (g.2.1 0, 495, .inl (nIf th))), (aCw, .inl (g.2.1 0, 495, .inl (nIf tw))), (aL, .inr (5, [.ref aLb, .ref aLp])), (aLp, .inl (g.2.1 0, 495, .inl (nIf packB))), (aO, .inr (3, [.ref aOv, .ref aOs, .ref aOm, .ref aL])), (aOv, .inl (g.2.1 2, 495, .inr (.inl (bvF ru (wkPot ru tot) cr th tw 3)))), (aOs, .inl (g.2.1 2, 286, .inr (.inl su))), (aOm, .inl (g.2.1 0, 10, .inl (nIf mk))), (aWs, .inl (g.2.1 2, 495, .inr (.inl (fun p => 0 + ovS 4 (bvF ru (wkPot ru tot) cr th tw 4) p))))]) (q0 := 10) rfl (fun j hj => fillT_in _ _ hj) rfl ?_
              refine x_iload_n dX7_bestPlace_97 rfl ?_
              refine x_iconst 4 dX7_bestPlace_98 (by decide) ?_
              refine x_icmp_ge dX7_bestPlace_99 (fun c99 => ?_) (fun c99 => ?_)
              · exact absurd c99 (by decide)
              refine x_aload_n dX7_bestPlace_102 rfl ?_
              refine x_get dX7_bestPlace_103 0 3 inX7 fl_X7_31 rfl rfl (by decide) rfl ?_
              refine x_callV dX7_bestPlace_106 ml_X7_90 mX3_gather (ct_X3_gather κ.2.1 g aO aOv aOs aOm aL aLb aLp (bvF ru (wkPot ru tot) cr th tw 3) su mk) [9, 10, 11, 12, 7, 8] rfl rfl 9 rfl rfl rfl (Nat.le_of_ble_eq_true rfl) (by decide) (Nat.le_refl _) (Nat.le_refl _) (fun vv ww hp => ?_)
              obtain ⟨z4, rfl, rfl⟩ := hp
              refine ⟨(rfl : [aO, aOv, aOs, aOm, aL, aLp] = [aO, aOv, aOs, aOm, aL, aLp]), x_eq (lv' := [some (.ref aW), some (.long (potL ru ((nI (ru 7)).toInt64) ((nI tot).toInt64))), none, some (.int 3), some (.long (partL ru 3 (potL ru ((nI (ru 7)).toInt64) ((nI tot).toInt64)))), none, some (.int 495)]) (st' := []) (ws' := [(aW, .inr (7, [.ref aS, .ref aL, .ref aC, .ref aO, .ref aWs, .ref aWt])), (aS, .inr (6, [.ref aSk, .ref aSm, .ref aSp, .ref aSt, .ref aSc, .ref aSr, .ref aSe, .int (nI gr), .int (nI br), .int (nI cs), .int (nI wk), .int z])), (aSr, .inl (g.2.1 0, 8, .inl (nIf ru))), (aC, .inr (0, [.ref aS, .ref aL, .ref aV, .ref aO, .ref aCs, .ref aCl, .ref aCh, .ref aCw, .ref aCc, .ref aCb, .int (nI tot), .int (nI lat), .int se, .int sw])), (aCc, .inl (g.2.1 0, 495, .inl (nIf cr))), (aCh, .inl (g.2.1 0, 495, .inl (nIf th))), (aCw, .inl (g.2.1 0, 495, .inl (nIf tw))), (aL, .inr (5, [.ref aLb, .ref aLp])), (aLp, .inl (g.2.1 0, 495, .inl (nIf packB))), (aO, .inr (3, [.ref aOv, .ref aOs, .ref aOm, .ref aL])), (aOv, .inl (g.2.1 2, 495, .inr (.inl (bvF ru (wkPot ru tot) cr th tw 3)))), (aOs, .inl (g.2.1 2, 286, .inr (.inl (gsT (bvF ru (wkPot ru tot) cr th tw 3) 495)))), (aOm, .inl (g.2.1 0, 10, .inl (nIf z4))), (aWs, .inl (g.2.1 2, 495, .inr (.inl (fun p => 0 + ovS 4 (bvF ru (wkPot ru tot) cr th tw 4) p))))]) ?_ rfl rfl rfl⟩
              refine x_iconst 0 dX7_bestPlace_109 (by decide) ?_
              refine x_istore (lv' := [some (.ref aW), some (.long (potL ru ((nI (ru 7)).toInt64) ((nI tot).toInt64))), none, some (.int 3), some (.long (partL ru 3 (potL ru ((nI (ru 7)).toInt64) ((nI tot).toInt64)))), none, some (.int 0)]) dX7_bestPlace_110 (xlt rfl) rfl ?_
              have L112_5 : ∀ (i : Nat), i ≤ 495 → ∀ (wf : Nat → Int64), wf = fillT i (fun p => 0 + ovS 4 (bvF ru (wkPot ru tot) cr th tw 4) p + ovS 3 (bvF ru (wkPot ru tot) cr th tw 3) p) (fun p => 0 + ovS 4 (bvF ru (wkPot ru tot) cr th tw 4) p) → ∀ (mq : Nat → Nat), Xs κ g 4 0 0 cX7_bestPlace yX7_bestPlace (some .int) Q 0 0 112 [some (.ref aW), some (.long (potL ru ((nI (ru 7)).toInt64) ((nI tot).toInt64))), none, some (.int 3), some (.long (partL ru 3 (potL ru ((nI (ru 7)).toInt64) ((nI tot).toInt64)))), none, some (.int (nI i))] [] [(aW, .inr (7, [.ref aS, .ref aL, .ref aC, .ref aO, .ref aWs, .ref aWt])), (aS, .inr (6, [.ref aSk, .ref aSm, .ref aSp, .ref aSt, .ref aSc, .ref aSr, .ref aSe, .int (nI gr), .int (nI br), .int (nI cs), .int (nI wk), .int z])), (aSr, .inl (g.2.1 0, 8, .inl (nIf ru))), (aC, .inr (0, [.ref aS, .ref aL, .ref aV, .ref aO, .ref aCs, .ref aCl, .ref aCh, .ref aCw, .ref aCc, .ref aCb, .int (nI tot), .int (nI lat), .int se, .int sw])), (aCc, .inl (g.2.1 0, 495, .inl (nIf cr))), (aCh, .inl (g.2.1 0, 495, .inl (nIf th))), (aCw, .inl (g.2.1 0, 495, .inl (nIf tw))), (aL, .inr (5, [.ref aLb, .ref aLp])), (aLp, .inl (g.2.1 0, 495, .inl (nIf packB))), (aO, .inr (3, [.ref aOv, .ref aOs, .ref aOm, .ref aL])), (aOv, .inl (g.2.1 2, 495, .inr (.inl (bvF ru (wkPot ru tot) cr th tw 3)))), (aOs, .inl (g.2.1 2, 286, .inr (.inl (gsT (bvF ru (wkPot ru tot) cr th tw 3) 495)))), (aOm, .inl (g.2.1 0, 10, .inl (nIf mq))), (aWs, .inl (g.2.1 2, 495, .inr (.inl wf)))] := by
                refine upTo 495 (fun i hi112 ih112 => ?_)
                intro wf ewf
                subst ewf
                intro mq
                refine x_iload dX7_bestPlace_112 rfl ?_
                refine x_sipush 495 dX7_bestPlace_114 (by decide) ?_
                refine x_icmp_ge dX7_bestPlace_117 (fun c117 => ?_) (fun c117 => ?_)
                · have c117 : 495 ≤ (nI i) := c117
                  have c117n := (nI_leI (a := 495) (b := i) (by omega) (by omega)).mp c117
                  have hxc117 : i = 495 := by omega
                  try rw [hxc117]
                  refine x_funl (ws' := [(aW, .inr (7, [.ref aS, .ref aL, .ref aC, .ref aO, .ref aWs, .ref aWt])), (aS, .inr (6, [.ref aSk, .ref aSm, .ref aSp, .ref aSt, .ref aSc, .ref aSr, .ref aSe, .int (nI gr), .int (nI br), .int (nI cs), .int (nI wk), .int z])), (aSr, .inl (g.2.1 0, 8, .inl (nIf ru))), (aC, .inr (0, [.ref aS, .ref aL, .ref aV, .ref aO, .ref aCs, .ref aCl, .ref aCh, .ref aCw, .ref aCc, .ref aCb, .int (nI tot), .int (nI lat), .int se, .int sw])), (aCc, .inl (g.2.1 0, 495, .inl (nIf cr))), (aCh, .inl (g.2.1 0, 495, .inl (nIf th))), (aCw, .inl (g.2.1 0, 495, .inl (nIf tw))), (aL, .inr (5, [.ref aLb, .ref aLp])), (aLp, .inl (g.2.1 0, 495, .inl (nIf packB))), (aO, .inr (3, [.ref aOv, .ref aOs, .ref aOm, .ref aL])), (aOv, .inl (g.2.1 2, 495, .inr (.inl (bvF ru (wkPot ru tot) cr th tw 3)))), (aOs, .inl (g.2.1 2, 286, .inr (.inl (gsT (bvF ru (wkPot ru tot) cr th tw 3) 495)))), (aOm, .inl (g.2.1 0, 10, .inl (nIf mq))), (aWs, .inl (g.2.1 2, 495, .inr (.inl (fun p => 0 + ovS 4 (bvF ru (wkPot ru tot) cr th tw 4) p + ovS 3 (bvF ru (wkPot ru tot) cr th tw 3) p))))]) (q0 := 13) rfl (fun j hj => fillT_in _ _ hj) rfl ?_
                  refine x_iinc (lv' := [some (.ref aW), some (.long (potL ru ((nI (ru 7)).toInt64) ((nI tot).toInt64))), none, some (.int 2), some (.long (partL ru 3 (potL ru ((nI (ru 7)).toInt64) ((nI tot).toInt64)))), none, some (.int 495)]) (2) dX7_bestPlace_146 rfl (by decide) rfl ?_
                  refine x_goto dX7_bestPlace_149 ?_
                  refine x_iload_n dX7_bestPlace_37 rfl ?_
                  refine x_iconst 2 dX7_bestPlace_38 (by decide) ?_
                  refine x_icmp_lt dX7_bestPlace_39 (fun c39 => ?_) (fun c39 => ?_)
                  · exact absurd c39 (by decide)
                  refine x_aload_n dX7_bestPlace_42 rfl ?_
                  refine x_get dX7_bestPlace_43 0 0 inX7 fl_X7_19 rfl rfl (by decide) rfl ?_
                  refine x_iload_n dX7_bestPlace_46 rfl ?_
                  refine x_lload_n dX7_bestPlace_47 rfl ?_
                  refine x_cVl0 dX7_bestPlace_48 ml_X7_52 mX6_rankPart (ct_X6_rankPart κ.2.1 g aS aSk aSm aSp aSt aSc aSr aSe gr br cs wk z ru 2 (potL ru ((nI (ru 7)).toInt64) ((nI tot).toInt64)) (by decide)) [1, 2] rfl rfl 1 rfl rfl rfl (Nat.le_of_ble_eq_true rfl) (by decide) (Nat.le_refl _) (Nat.le_refl _) ?_
                  refine x_lstore (lv' := [some (.ref aW), some (.long (potL ru ((nI (ru 7)).toInt64) ((nI tot).toInt64))), none, some (.int 2), some (.long (partL ru 2 (potL ru ((nI (ru 7)).toInt64) ((nI tot).toInt64)))), none, some (.int 495)]) dX7_bestPlace_51 (xlt rfl) rfl ?_
                  refine x_iconst 0 dX7_bestPlace_53 (by decide) ?_
                  refine x_istore (lv' := [some (.ref aW), some (.long (potL ru ((nI (ru 7)).toInt64) ((nI tot).toInt64))), none, some (.int 2), some (.long (partL ru 2 (potL ru ((nI (ru 7)).toInt64) ((nI tot).toInt64)))), none, some (.int 0)]) dX7_bestPlace_54 (xlt rfl) rfl ?_
                  have L56_6 : ∀ (i : Nat), i ≤ 495 → ∀ (vf : Nat → Int64), vf = fillT i (bvF ru (wkPot ru tot) cr th tw 2) (bvF ru (wkPot ru tot) cr th tw 3) → Xs κ g 4 0 0 cX7_bestPlace yX7_bestPlace (some .int) Q 0 0 56 [some (.ref aW), some (.long (potL ru ((nI (ru 7)).toInt64) ((nI tot).toInt64))), none, some (.int 2), some (.long (partL ru 2 (potL ru ((nI (ru 7)).toInt64) ((nI tot).toInt64)))), none, some (.int (nI i))] [] [(aW, .inr (7, [.ref aS, .ref aL, .ref aC, .ref aO, .ref aWs, .ref aWt])), (aS, .inr (6, [.ref aSk, .ref aSm, .ref aSp, .ref aSt, .ref aSc, .ref aSr, .ref aSe, .int (nI gr), .int (nI br), .int (nI cs), .int (nI wk), .int z])), (aSr, .inl (g.2.1 0, 8, .inl (nIf ru))), (aC, .inr (0, [.ref aS, .ref aL, .ref aV, .ref aO, .ref aCs, .ref aCl, .ref aCh, .ref aCw, .ref aCc, .ref aCb, .int (nI tot), .int (nI lat), .int se, .int sw])), (aCc, .inl (g.2.1 0, 495, .inl (nIf cr))), (aCh, .inl (g.2.1 0, 495, .inl (nIf th))), (aCw, .inl (g.2.1 0, 495, .inl (nIf tw))), (aL, .inr (5, [.ref aLb, .ref aLp])), (aLp, .inl (g.2.1 0, 495, .inl (nIf packB))), (aO, .inr (3, [.ref aOv, .ref aOs, .ref aOm, .ref aL])), (aOv, .inl (g.2.1 2, 495, .inr (.inl vf))), (aOs, .inl (g.2.1 2, 286, .inr (.inl (gsT (bvF ru (wkPot ru tot) cr th tw 3) 495)))), (aOm, .inl (g.2.1 0, 10, .inl (nIf mq))), (aWs, .inl (g.2.1 2, 495, .inr (.inl (fun p => 0 + ovS 4 (bvF ru (wkPot ru tot) cr th tw 4) p + ovS 3 (bvF ru (wkPot ru tot) cr th tw 3) p))))] := by
                    refine upTo 495 (fun i hi56 ih56 => ?_)
                    intro vf evf
                    subst evf
                    refine x_iload dX7_bestPlace_56 rfl ?_
                    refine x_sipush 495 dX7_bestPlace_58 (by decide) ?_
                    refine x_icmp_ge dX7_bestPlace_61 (fun c61 => ?_) (fun c61 => ?_)
                    · have c61 : 495 ≤ (nI i) := c61
                      have c61n := (nI_leI (a := 495) (b := i) (by omega) (by omega)).mp c61
                      have hxc61 : i = 495 := by omega
                      try rw [hxc61]
                      refine x_funl (ws' := [(aW, .inr (7, [.ref aS, .ref aL, .ref aC, .ref aO, .ref aWs, .ref aWt])), (aS, .inr (6, [.ref aSk, .ref aSm, .ref aSp, .ref aSt, .ref aSc, .ref aSr, .ref aSe, .int (nI gr), .int (nI br), .int (nI cs), .int (nI wk), .int z])), (aSr, .inl (g.2.1 0, 8, .inl (nIf ru))), (aC, .inr (0, [.ref aS, .ref aL, .ref aV, .ref aO, .ref aCs, .ref aCl, .ref aCh, .ref aCw, .ref aCc, .ref aCb, .int (nI tot), .int (nI lat), .int se, .int sw])), (aCc, .inl (g.2.1 0, 495, .inl (nIf cr))), (aCh, .inl (g.2.1 0, 495, .inl (nIf th))), (aCw, .inl (g.2.1 0, 495, .inl (nIf tw))), (aL, .inr (5, [.ref aLb, .ref aLp])), (aLp, .inl (g.2.1 0, 495, .inl (nIf packB))), (aO, .inr (3, [.ref aOv, .ref aOs, .ref aOm, .ref aL])), (aOv, .inl (g.2.1 2, 495, .inr (.inl (bvF ru (wkPot ru tot) cr th tw 2)))), (aOs, .inl (g.2.1 2, 286, .inr (.inl (gsT (bvF ru (wkPot ru tot) cr th tw 3) 495)))), (aOm, .inl (g.2.1 0, 10, .inl (nIf mq))), (aWs, .inl (g.2.1 2, 495, .inr (.inl (fun p => 0 + ovS 4 (bvF ru (wkPot ru tot) cr th tw 4) p + ovS 3 (bvF ru (wkPot ru tot) cr th tw 3) p))))]) (q0 := 10) rfl (fun j hj => fillT_in _ _ hj) rfl ?_
                      refine x_iload_n dX7_bestPlace_97 rfl ?_
                      refine x_iconst 4 dX7_bestPlace_98 (by decide) ?_
                      refine x_icmp_ge dX7_bestPlace_99 (fun c99 => ?_) (fun c99 => ?_)
                      · exact absurd c99 (by decide)
                      refine x_aload_n dX7_bestPlace_102 rfl ?_
                      refine x_get dX7_bestPlace_103 0 3 inX7 fl_X7_31 rfl rfl (by decide) rfl ?_
                      refine x_callV dX7_bestPlace_106 ml_X7_90 mX3_gather (ct_X3_gather κ.2.1 g aO aOv aOs aOm aL aLb aLp (bvF ru (wkPot ru tot) cr th tw 2) (gsT (bvF ru (wkPot ru tot) cr th tw 3) 495) mq) [9, 10, 11, 12, 7, 8] rfl rfl 9 rfl rfl rfl (Nat.le_of_ble_eq_true rfl) (by decide) (Nat.le_refl _) (Nat.le_refl _) (fun vv ww hp => ?_)
                      obtain ⟨z7, rfl, rfl⟩ := hp
                      refine ⟨(rfl : [aO, aOv, aOs, aOm, aL, aLp] = [aO, aOv, aOs, aOm, aL, aLp]), x_eq (lv' := [some (.ref aW), some (.long (potL ru ((nI (ru 7)).toInt64) ((nI tot).toInt64))), none, some (.int 2), some (.long (partL ru 2 (potL ru ((nI (ru 7)).toInt64) ((nI tot).toInt64)))), none, some (.int 495)]) (st' := []) (ws' := [(aW, .inr (7, [.ref aS, .ref aL, .ref aC, .ref aO, .ref aWs, .ref aWt])), (aS, .inr (6, [.ref aSk, .ref aSm, .ref aSp, .ref aSt, .ref aSc, .ref aSr, .ref aSe, .int (nI gr), .int (nI br), .int (nI cs), .int (nI wk), .int z])), (aSr, .inl (g.2.1 0, 8, .inl (nIf ru))), (aC, .inr (0, [.ref aS, .ref aL, .ref aV, .ref aO, .ref aCs, .ref aCl, .ref aCh, .ref aCw, .ref aCc, .ref aCb, .int (nI tot), .int (nI lat), .int se, .int sw])), (aCc, .inl (g.2.1 0, 495, .inl (nIf cr))), (aCh, .inl (g.2.1 0, 495, .inl (nIf th))), (aCw, .inl (g.2.1 0, 495, .inl (nIf tw))), (aL, .inr (5, [.ref aLb, .ref aLp])), (aLp, .inl (g.2.1 0, 495, .inl (nIf packB))), (aO, .inr (3, [.ref aOv, .ref aOs, .ref aOm, .ref aL])), (aOv, .inl (g.2.1 2, 495, .inr (.inl (bvF ru (wkPot ru tot) cr th tw 2)))), (aOs, .inl (g.2.1 2, 286, .inr (.inl (gsT (bvF ru (wkPot ru tot) cr th tw 2) 495)))), (aOm, .inl (g.2.1 0, 10, .inl (nIf z7))), (aWs, .inl (g.2.1 2, 495, .inr (.inl (fun p => 0 + ovS 4 (bvF ru (wkPot ru tot) cr th tw 4) p + ovS 3 (bvF ru (wkPot ru tot) cr th tw 3) p))))]) ?_ rfl rfl rfl⟩
                      refine x_iconst 0 dX7_bestPlace_109 (by decide) ?_
                      refine x_istore (lv' := [some (.ref aW), some (.long (potL ru ((nI (ru 7)).toInt64) ((nI tot).toInt64))), none, some (.int 2), some (.long (partL ru 2 (potL ru ((nI (ru 7)).toInt64) ((nI tot).toInt64)))), none, some (.int 0)]) dX7_bestPlace_110 (xlt rfl) rfl ?_
                      have L112_8 : ∀ (i : Nat), i ≤ 495 → ∀ (wf : Nat → Int64), wf = fillT i (bsS ru (wkPot ru tot) cr th tw) (fun p => 0 + ovS 4 (bvF ru (wkPot ru tot) cr th tw 4) p + ovS 3 (bvF ru (wkPot ru tot) cr th tw 3) p) → ∀ (mq : Nat → Nat), Xs κ g 4 0 0 cX7_bestPlace yX7_bestPlace (some .int) Q 0 0 112 [some (.ref aW), some (.long (potL ru ((nI (ru 7)).toInt64) ((nI tot).toInt64))), none, some (.int 2), some (.long (partL ru 2 (potL ru ((nI (ru 7)).toInt64) ((nI tot).toInt64)))), none, some (.int (nI i))] [] [(aW, .inr (7, [.ref aS, .ref aL, .ref aC, .ref aO, .ref aWs, .ref aWt])), (aS, .inr (6, [.ref aSk, .ref aSm, .ref aSp, .ref aSt, .ref aSc, .ref aSr, .ref aSe, .int (nI gr), .int (nI br), .int (nI cs), .int (nI wk), .int z])), (aSr, .inl (g.2.1 0, 8, .inl (nIf ru))), (aC, .inr (0, [.ref aS, .ref aL, .ref aV, .ref aO, .ref aCs, .ref aCl, .ref aCh, .ref aCw, .ref aCc, .ref aCb, .int (nI tot), .int (nI lat), .int se, .int sw])), (aCc, .inl (g.2.1 0, 495, .inl (nIf cr))), (aCh, .inl (g.2.1 0, 495, .inl (nIf th))), (aCw, .inl (g.2.1 0, 495, .inl (nIf tw))), (aL, .inr (5, [.ref aLb, .ref aLp])), (aLp, .inl (g.2.1 0, 495, .inl (nIf packB))), (aO, .inr (3, [.ref aOv, .ref aOs, .ref aOm, .ref aL])), (aOv, .inl (g.2.1 2, 495, .inr (.inl (bvF ru (wkPot ru tot) cr th tw 2)))), (aOs, .inl (g.2.1 2, 286, .inr (.inl (gsT (bvF ru (wkPot ru tot) cr th tw 2) 495)))), (aOm, .inl (g.2.1 0, 10, .inl (nIf mq))), (aWs, .inl (g.2.1 2, 495, .inr (.inl wf)))] := by
                        refine upTo 495 (fun i hi112 ih112 => ?_)
                        intro wf ewf
                        subst ewf
                        intro mq
                        refine x_iload dX7_bestPlace_112 rfl ?_
                        refine x_sipush 495 dX7_bestPlace_114 (by decide) ?_
                        refine x_icmp_ge dX7_bestPlace_117 (fun c117 => ?_) (fun c117 => ?_)
                        · have c117 : 495 ≤ (nI i) := c117
                          have c117n := (nI_leI (a := 495) (b := i) (by omega) (by omega)).mp c117
                          have hxc117 : i = 495 := by omega
                          try rw [hxc117]
                          refine x_funl (ws' := [(aW, .inr (7, [.ref aS, .ref aL, .ref aC, .ref aO, .ref aWs, .ref aWt])), (aS, .inr (6, [.ref aSk, .ref aSm, .ref aSp, .ref aSt, .ref aSc, .ref aSr, .ref aSe, .int (nI gr), .int (nI br), .int (nI cs), .int (nI wk), .int z])), (aSr, .inl (g.2.1 0, 8, .inl (nIf ru))), (aC, .inr (0, [.ref aS, .ref aL, .ref aV, .ref aO, .ref aCs, .ref aCl, .ref aCh, .ref aCw, .ref aCc, .ref aCb, .int (nI tot), .int (nI lat), .int se, .int sw])), (aCc, .inl (g.2.1 0, 495, .inl (nIf cr))), (aCh, .inl (g.2.1 0, 495, .inl (nIf th))), (aCw, .inl (g.2.1 0, 495, .inl (nIf tw))), (aL, .inr (5, [.ref aLb, .ref aLp])), (aLp, .inl (g.2.1 0, 495, .inl (nIf packB))), (aO, .inr (3, [.ref aOv, .ref aOs, .ref aOm, .ref aL])), (aOv, .inl (g.2.1 2, 495, .inr (.inl (bvF ru (wkPot ru tot) cr th tw 2)))), (aOs, .inl (g.2.1 2, 286, .inr (.inl (gsT (bvF ru (wkPot ru tot) cr th tw 2) 495)))), (aOm, .inl (g.2.1 0, 10, .inl (nIf mq))), (aWs, .inl (g.2.1 2, 495, .inr (.inl (bsS ru (wkPot ru tot) cr th tw))))]) (q0 := 13) rfl (fun j hj => fillT_in _ _ hj) rfl ?_
                          refine x_iinc (lv' := [some (.ref aW), some (.long (potL ru ((nI (ru 7)).toInt64) ((nI tot).toInt64))), none, some (.int 1), some (.long (partL ru 2 (potL ru ((nI (ru 7)).toInt64) ((nI tot).toInt64)))), none, some (.int 495)]) (1) dX7_bestPlace_146 rfl (by decide) rfl ?_
                          refine x_goto dX7_bestPlace_149 ?_
                          refine x_iload_n dX7_bestPlace_37 rfl ?_
                          refine x_iconst 2 dX7_bestPlace_38 (by decide) ?_
                          refine x_icmp_lt dX7_bestPlace_39 (fun c39 => ?_) (fun c39 => ?_)
                          rotate_left
                          · exact absurd c39 (by decide)
                          refine x_iconst 0 dX7_bestPlace_152 (by decide) ?_
                          refine x_istore_n (lv' := [some (.ref aW), some (.long (potL ru ((nI (ru 7)).toInt64) ((nI tot).toInt64))), none, some (.int 0), some (.long (partL ru 2 (potL ru ((nI (ru 7)).toInt64) ((nI tot).toInt64)))), none, some (.int 495)]) dX7_bestPlace_153 (xlt rfl) rfl ?_
                          refine x_iconst 1 dX7_bestPlace_154 (by decide) ?_
                          refine x_istore (lv' := [some (.ref aW), some (.long (potL ru ((nI (ru 7)).toInt64) ((nI tot).toInt64))), none, some (.int 0), some (.int 1), none, some (.int 495)]) dX7_bestPlace_155 (xlt rfl) rfl ?_
                          have L157_9 : ∀ (i : Nat), i ≤ 495 → ∀ (fs : Nat), fs = bsT (bsS ru (wkPot ru tot) cr th tw) i → Xs κ g 4 0 0 cX7_bestPlace yX7_bestPlace (some .int) Q 0 0 157 [some (.ref aW), some (.long (potL ru ((nI (ru 7)).toInt64) ((nI tot).toInt64))), none, some (.int (nI fs)), some (.int (nI i)), none, some (.int 495)] [] [(aW, .inr (7, [.ref aS, .ref aL, .ref aC, .ref aO, .ref aWs, .ref aWt])), (aS, .inr (6, [.ref aSk, .ref aSm, .ref aSp, .ref aSt, .ref aSc, .ref aSr, .ref aSe, .int (nI gr), .int (nI br), .int (nI cs), .int (nI wk), .int z])), (aSr, .inl (g.2.1 0, 8, .inl (nIf ru))), (aC, .inr (0, [.ref aS, .ref aL, .ref aV, .ref aO, .ref aCs, .ref aCl, .ref aCh, .ref aCw, .ref aCc, .ref aCb, .int (nI tot), .int (nI lat), .int se, .int sw])), (aCc, .inl (g.2.1 0, 495, .inl (nIf cr))), (aCh, .inl (g.2.1 0, 495, .inl (nIf th))), (aCw, .inl (g.2.1 0, 495, .inl (nIf tw))), (aL, .inr (5, [.ref aLb, .ref aLp])), (aLp, .inl (g.2.1 0, 495, .inl (nIf packB))), (aO, .inr (3, [.ref aOv, .ref aOs, .ref aOm, .ref aL])), (aOv, .inl (g.2.1 2, 495, .inr (.inl (bvF ru (wkPot ru tot) cr th tw 2)))), (aOs, .inl (g.2.1 2, 286, .inr (.inl (gsT (bvF ru (wkPot ru tot) cr th tw 2) 495)))), (aOm, .inl (g.2.1 0, 10, .inl (nIf mq))), (aWs, .inl (g.2.1 2, 495, .inr (.inl (bsS ru (wkPot ru tot) cr th tw))))] := by
                            refine upTo 495 (fun i hi157 ih157 => ?_)
                            intro fs efs
                            subst efs
                            have hbs := bsT_lt (bsS ru (wkPot ru tot) cr th tw) (N := 495) (i := i) (by decide) (by omega)
                            refine x_iload dX7_bestPlace_157 rfl ?_
                            refine x_sipush 495 dX7_bestPlace_159 (by decide) ?_
                            refine x_icmp_ge dX7_bestPlace_162 (fun c162 => ?_) (fun c162 => ?_)
                            · have c162 : 495 ≤ (nI i) := c162
                              have c162n := (nI_leI (a := 495) (b := i) (by omega) (by omega)).mp c162
                              have hxc162 : i = 495 := by omega
                              try rw [hxc162]
                              refine x_iload_n dX7_bestPlace_199 rfl ?_
                              rw [← hQ]
                              refine x_iret dX7_bestPlace_200 rfl (Nat.le_of_ble_eq_true rfl) (Nat.le_of_ble_eq_true rfl) ?_
                              exact ⟨_, _, _, _, rfl, rfl⟩
                            · have c162 : ¬ (495 ≤ (nI i)) := c162
                              have c162n := mt (nI_leI (a := 495) (b := i) (by omega) (by omega)).mpr c162
                              refine x_aload_n dX7_bestPlace_165 rfl ?_
                              refine x_get dX7_bestPlace_166 0 4 inX7 fl_X7_9 rfl rfl (by decide) rfl ?_
                              refine x_iload dX7_bestPlace_169 rfl ?_
                              refine x_lald dX7_bestPlace_171 13 i rfl (rfl) (by omega) (by decide) ?_
                              refine x_ldc2 dX7_bestPlace_172 kl_X7_70 ?_
                              refine x_ldiv dX7_bestPlace_175 (by decide) ?_
                              refine x_aload_n dX7_bestPlace_176 rfl ?_
                              refine x_get dX7_bestPlace_177 0 4 inX7 fl_X7_9 rfl rfl (by decide) rfl ?_
                              refine x_iload_n dX7_bestPlace_180 rfl ?_
                              refine x_lald dX7_bestPlace_181 13 (bsT (bsS ru (wkPot ru tot) cr th tw) i) rfl (rfl) (by omega) (by decide) ?_
                              refine x_ldc2 dX7_bestPlace_182 kl_X7_70 ?_
                              refine x_ldiv dX7_bestPlace_185 (by decide) ?_
                              refine x_lcmp dX7_bestPlace_186 ?_
                              have J187_11 : ∀ (v10 : Nat), v10 = (if (lg_cmp (((bsS ru (wkPot ru tot) cr th tw) i) / 495) (((bsS ru (wkPot ru tot) cr th tw) (bsT (bsS ru (wkPot ru tot) cr th tw) i)) / 495)) ≤ 0 then (bsT (bsS ru (wkPot ru tot) cr th tw) i) else i) → Xs κ g 4 0 0 cX7_bestPlace yX7_bestPlace (some .int) Q 0 0 193 [some (.ref aW), some (.long (potL ru ((nI (ru 7)).toInt64) ((nI tot).toInt64))), none, some (.int (nI v10)), some (.int (nI i)), none, some (.int 495)] [] [(aW, .inr (7, [.ref aS, .ref aL, .ref aC, .ref aO, .ref aWs, .ref aWt])), (aS, .inr (6, [.ref aSk, .ref aSm, .ref aSp, .ref aSt, .ref aSc, .ref aSr, .ref aSe, .int (nI gr), .int (nI br), .int (nI cs), .int (nI wk), .int z])), (aSr, .inl (g.2.1 0, 8, .inl (nIf ru))), (aC, .inr (0, [.ref aS, .ref aL, .ref aV, .ref aO, .ref aCs, .ref aCl, .ref aCh, .ref aCw, .ref aCc, .ref aCb, .int (nI tot), .int (nI lat), .int se, .int sw])), (aCc, .inl (g.2.1 0, 495, .inl (nIf cr))), (aCh, .inl (g.2.1 0, 495, .inl (nIf th))), (aCw, .inl (g.2.1 0, 495, .inl (nIf tw))), (aL, .inr (5, [.ref aLb, .ref aLp])), (aLp, .inl (g.2.1 0, 495, .inl (nIf packB))), (aO, .inr (3, [.ref aOv, .ref aOs, .ref aOm, .ref aL])), (aOv, .inl (g.2.1 2, 495, .inr (.inl (bvF ru (wkPot ru tot) cr th tw 2)))), (aOs, .inl (g.2.1 2, 286, .inr (.inl (gsT (bvF ru (wkPot ru tot) cr th tw 2) 495)))), (aOm, .inl (g.2.1 0, 10, .inl (nIf mq))), (aWs, .inl (g.2.1 2, 495, .inr (.inl (bsS ru (wkPot ru tot) cr th tw))))] := by
                                intro v10 ev10
                                refine x_iinc (lv' := [some (.ref aW), some (.long (potL ru ((nI (ru 7)).toInt64) ((nI tot).toInt64))), none, some (.int (nI v10)), some (.int (nI (i + 1))), none, some (.int 495)]) (nI (i + 1)) dX7_bestPlace_193 rfl (nI_addc i 1 rfl) rfl ?_
                                refine x_goto dX7_bestPlace_196 ?_
                                exact ih157 (by omega) v10 (by simp only [ev10]; rfl)
                              refine x_if_le dX7_bestPlace_187 (fun c187 => ?_) (fun c187 => ?_)
                              · have c187 : (lg_cmp (((bsS ru (wkPot ru tot) cr th tw) i) / 495) (((bsS ru (wkPot ru tot) cr th tw) (bsT (bsS ru (wkPot ru tot) cr th tw) i)) / 495)) ≤ 0 := c187
                                exact J187_11 (bsT (bsS ru (wkPot ru tot) cr th tw) i) (if_pos c187).symm
                              · have c187 : ¬ ((lg_cmp (((bsS ru (wkPot ru tot) cr th tw) i) / 495) (((bsS ru (wkPot ru tot) cr th tw) (bsT (bsS ru (wkPot ru tot) cr th tw) i)) / 495)) ≤ 0) := c187
                                refine x_iload dX7_bestPlace_190 rfl ?_
                                refine x_istore_n (lv' := [some (.ref aW), some (.long (potL ru ((nI (ru 7)).toInt64) ((nI tot).toInt64))), none, some (.int (nI i)), some (.int (nI i)), none, some (.int 495)]) dX7_bestPlace_192 (xlt rfl) rfl ?_
                                exact J187_11 i (if_neg c187).symm
                          exact L157_9 1 (by omega) 0 (by show 0 = if _ then _ else _; split <;> rfl)
                        · have c117 : ¬ (495 ≤ (nI i)) := c117
                          have c117n := mt (nI_leI (a := 495) (b := i) (by omega) (by omega)).mpr c117
                          refine x_aload_n dX7_bestPlace_120 rfl ?_
                          refine x_get dX7_bestPlace_121 0 4 inX7 fl_X7_9 rfl rfl (by decide) rfl ?_
                          refine x_iload dX7_bestPlace_124 rfl ?_
                          refine x_dup2 dX7_bestPlace_126 rfl rfl ?_
                          refine x_lald dX7_bestPlace_127 13 i rfl (rfl) (by omega) (by decide) ?_
                          refine x_aload_n dX7_bestPlace_128 rfl ?_
                          refine x_get dX7_bestPlace_129 0 3 inX7 fl_X7_31 rfl rfl (by decide) rfl ?_
                          refine x_iload_n dX7_bestPlace_132 rfl ?_
                          refine x_iload dX7_bestPlace_133 rfl ?_
                          refine x_cVl (ws' := [(aW, .inr (7, [.ref aS, .ref aL, .ref aC, .ref aO, .ref aWs, .ref aWt])), (aS, .inr (6, [.ref aSk, .ref aSm, .ref aSp, .ref aSt, .ref aSc, .ref aSr, .ref aSe, .int (nI gr), .int (nI br), .int (nI cs), .int (nI wk), .int z])), (aSr, .inl (g.2.1 0, 8, .inl (nIf ru))), (aC, .inr (0, [.ref aS, .ref aL, .ref aV, .ref aO, .ref aCs, .ref aCl, .ref aCh, .ref aCw, .ref aCc, .ref aCb, .int (nI tot), .int (nI lat), .int se, .int sw])), (aCc, .inl (g.2.1 0, 495, .inl (nIf cr))), (aCh, .inl (g.2.1 0, 495, .inl (nIf th))), (aCw, .inl (g.2.1 0, 495, .inl (nIf tw))), (aL, .inr (5, [.ref aLb, .ref aLp])), (aLp, .inl (g.2.1 0, 495, .inl (nIf packB))), (aO, .inr (3, [.ref aOv, .ref aOs, .ref aOm, .ref aL])), (aOv, .inl (g.2.1 2, 495, .inr (.inl (bvF ru (wkPot ru tot) cr th tw 2)))), (aOs, .inl (g.2.1 2, 286, .inr (.inl (gsT (bvF ru (wkPot ru tot) cr th tw 2) 495)))), (aOm, .inl (g.2.1 0, 10, .inl (nIf (mkR (rowB i))))), (aWs, .inl (g.2.1 2, 495, .inr (.inl (fillT i (bsS ru (wkPot ru tot) cr th tw) (fun p => 0 + ovS 4 (bvF ru (wkPot ru tot) cr th tw 4) p + ovS 3 (bvF ru (wkPot ru tot) cr th tw 3) p)))))]) dX7_bestPlace_135 ml_X7_93 mX3_ofRank (ct_ofRank_2 κ.2.1 g aO aOv aOs aOm aL aLb aLp (bvF ru (wkPot ru tot) cr th tw 2) (gsT (bvF ru (wkPot ru tot) cr th tw 2) 495) mq i (by omega)) [9, 10, 11, 12, 7, 8] rfl rfl 9 rfl rfl rfl (Nat.le_of_ble_eq_true rfl) (by decide) (Nat.le_refl _) (Nat.le_refl _) (rfl : [aO, aOv, aOs, aOm, aL, aLp] = [aO, aOv, aOs, aOm, aL, aLp]) rfl ?_
                          refine x_rel (ovS 2 (bvF ru (wkPot ru tot) cr th tw 2) i) (ov2_id _ (by omega)) ?_
                          refine x_ladd dX7_bestPlace_138 ?_
                          refine x_last (ws' := [(aW, .inr (7, [.ref aS, .ref aL, .ref aC, .ref aO, .ref aWs, .ref aWt])), (aS, .inr (6, [.ref aSk, .ref aSm, .ref aSp, .ref aSt, .ref aSc, .ref aSr, .ref aSe, .int (nI gr), .int (nI br), .int (nI cs), .int (nI wk), .int z])), (aSr, .inl (g.2.1 0, 8, .inl (nIf ru))), (aC, .inr (0, [.ref aS, .ref aL, .ref aV, .ref aO, .ref aCs, .ref aCl, .ref aCh, .ref aCw, .ref aCc, .ref aCb, .int (nI tot), .int (nI lat), .int se, .int sw])), (aCc, .inl (g.2.1 0, 495, .inl (nIf cr))), (aCh, .inl (g.2.1 0, 495, .inl (nIf th))), (aCw, .inl (g.2.1 0, 495, .inl (nIf tw))), (aL, .inr (5, [.ref aLb, .ref aLp])), (aLp, .inl (g.2.1 0, 495, .inl (nIf packB))), (aO, .inr (3, [.ref aOv, .ref aOs, .ref aOm, .ref aL])), (aOv, .inl (g.2.1 2, 495, .inr (.inl (bvF ru (wkPot ru tot) cr th tw 2)))), (aOs, .inl (g.2.1 2, 286, .inr (.inl (gsT (bvF ru (wkPot ru tot) cr th tw 2) 495)))), (aOm, .inl (g.2.1 0, 10, .inl (nIf (mkR (rowB i))))), (aWs, .inl (g.2.1 2, 495, .inr (.inl (vp_updL (fillT i (bsS ru (wkPot ru tot) cr th tw) (fun p => 0 + ovS 4 (bvF ru (wkPot ru tot) cr th tw 4) p + ovS 3 (bvF ru (wkPot ru tot) cr th tw 3) p)) i (((fillT i (bsS ru (wkPot ru tot) cr th tw) (fun p => 0 + ovS 4 (bvF ru (wkPot ru tot) cr th tw 4) p + ovS 3 (bvF ru (wkPot ru tot) cr th tw 3) p)) i) + (ovS 2 (bvF ru (wkPot ru tot) cr th tw 2) i))))))]) dX7_bestPlace_139 13 i rfl (rfl) (by omega) (by decide) rfl ?_
                          refine x_iinc (lv' := [some (.ref aW), some (.long (potL ru ((nI (ru 7)).toInt64) ((nI tot).toInt64))), none, some (.int 2), some (.long (partL ru 2 (potL ru ((nI (ru 7)).toInt64) ((nI tot).toInt64)))), none, some (.int (nI (i + 1)))]) (nI (i + 1)) dX7_bestPlace_140 rfl (nI_addc i 1 rfl) rfl ?_
                          refine x_goto dX7_bestPlace_143 ?_
                          exact ih112 (by omega) _ (by rw [fillT_out _ _ (Nat.lt_irrefl i)]; exact fillT_updL i (bsS ru (wkPot ru tot) cr th tw) (fun p => 0 + ovS 4 (bvF ru (wkPot ru tot) cr th tw 4) p + ovS 3 (bvF ru (wkPot ru tot) cr th tw 3) p)) (mkR (rowB i))
                      exact L112_8 0 (Nat.zero_le _) _ (by exact (fillT_0 _ _).symm) z7
                    · have c61 : ¬ (495 ≤ (nI i)) := c61
                      have c61n := mt (nI_leI (a := 495) (b := i) (by omega) (by omega)).mpr c61
                      refine x_aload_n dX7_bestPlace_64 rfl ?_
                      refine x_get dX7_bestPlace_65 0 3 inX7 fl_X7_31 rfl rfl (by decide) rfl ?_
                      refine x_get dX7_bestPlace_68 9 0 inX3 fl_X7_85 rfl rfl (by decide) rfl ?_
                      refine x_iload dX7_bestPlace_71 rfl ?_
                      refine x_aload_n dX7_bestPlace_73 rfl ?_
                      refine x_lload dX7_bestPlace_74 rfl ?_
                      refine x_aload_n dX7_bestPlace_76 rfl ?_
                      refine x_get dX7_bestPlace_77 0 2 inX7 fl_X7_27 rfl rfl (by decide) rfl ?_
                      refine x_iload_n dX7_bestPlace_80 rfl ?_
                      refine x_iload dX7_bestPlace_81 rfl ?_
                      refine x_cVi0 dX7_bestPlace_83 ml_X7_62 mX0_winnersAt (ct_X0_winnersAt κ.2.1 g aC aS aL aO aV aCs aCl aCh aCw aCc aCb tot lat se sw cr th tw 2 i (by omega) (by decide)) [3, 4, 5, 6] rfl rfl 3 rfl rfl rfl (Nat.le_of_ble_eq_true rfl) (by decide) (Nat.le_refl _) (Nat.le_refl _) ?_
                      refine x_lconst 1 dX7_bestPlace_86 (by decide) ?_
                      refine x_cVl0 dX7_bestPlace_87 ml_X7_66 mX7_oneGets (ct_X7_oneGets κ.2.1 g aW aS aL aC aO aWs aWt aSk aSm aSp aSt aSc aSr aSe gr br cs wk z ru (partL ru 2 (potL ru ((nI (ru 7)).toInt64) ((nI tot).toInt64))) 1 (wnA cr th tw 2 i)) [0, 1, 2] rfl rfl 0 rfl rfl rfl (Nat.le_of_ble_eq_true rfl) (by decide) (Nat.le_refl _) (Nat.le_refl _) ?_
                      refine x_last (ws' := [(aW, .inr (7, [.ref aS, .ref aL, .ref aC, .ref aO, .ref aWs, .ref aWt])), (aS, .inr (6, [.ref aSk, .ref aSm, .ref aSp, .ref aSt, .ref aSc, .ref aSr, .ref aSe, .int (nI gr), .int (nI br), .int (nI cs), .int (nI wk), .int z])), (aSr, .inl (g.2.1 0, 8, .inl (nIf ru))), (aC, .inr (0, [.ref aS, .ref aL, .ref aV, .ref aO, .ref aCs, .ref aCl, .ref aCh, .ref aCw, .ref aCc, .ref aCb, .int (nI tot), .int (nI lat), .int se, .int sw])), (aCc, .inl (g.2.1 0, 495, .inl (nIf cr))), (aCh, .inl (g.2.1 0, 495, .inl (nIf th))), (aCw, .inl (g.2.1 0, 495, .inl (nIf tw))), (aL, .inr (5, [.ref aLb, .ref aLp])), (aLp, .inl (g.2.1 0, 495, .inl (nIf packB))), (aO, .inr (3, [.ref aOv, .ref aOs, .ref aOm, .ref aL])), (aOv, .inl (g.2.1 2, 495, .inr (.inl (vp_updL (fillT i (bvF ru (wkPot ru tot) cr th tw 2) (bvF ru (wkPot ru tot) cr th tw 3)) i (oneG ru (partL ru 2 (potL ru ((nI (ru 7)).toInt64) ((nI tot).toInt64))) (wnA cr th tw 2 i) 1))))), (aOs, .inl (g.2.1 2, 286, .inr (.inl (gsT (bvF ru (wkPot ru tot) cr th tw 3) 495)))), (aOm, .inl (g.2.1 0, 10, .inl (nIf mq))), (aWs, .inl (g.2.1 2, 495, .inr (.inl (fun p => 0 + ovS 4 (bvF ru (wkPot ru tot) cr th tw 4) p + ovS 3 (bvF ru (wkPot ru tot) cr th tw 3) p))))]) dX7_bestPlace_90 10 i rfl (rfl) (by omega) (by decide) rfl ?_
                      refine x_iinc (lv' := [some (.ref aW), some (.long (potL ru ((nI (ru 7)).toInt64) ((nI tot).toInt64))), none, some (.int 2), some (.long (partL ru 2 (potL ru ((nI (ru 7)).toInt64) ((nI tot).toInt64)))), none, some (.int (nI (i + 1)))]) (nI (i + 1)) dX7_bestPlace_91 rfl (nI_addc i 1 rfl) rfl ?_
                      refine x_goto dX7_bestPlace_94 ?_
                      exact ih56 (by omega) _ (by exact fillT_updL i (bvF ru (wkPot ru tot) cr th tw 2) (bvF ru (wkPot ru tot) cr th tw 3))
                  exact L56_6 0 (Nat.zero_le _) _ (by exact (fillT_0 _ _).symm)
                · have c117 : ¬ (495 ≤ (nI i)) := c117
                  have c117n := mt (nI_leI (a := 495) (b := i) (by omega) (by omega)).mpr c117
                  refine x_aload_n dX7_bestPlace_120 rfl ?_
                  refine x_get dX7_bestPlace_121 0 4 inX7 fl_X7_9 rfl rfl (by decide) rfl ?_
                  refine x_iload dX7_bestPlace_124 rfl ?_
                  refine x_dup2 dX7_bestPlace_126 rfl rfl ?_
                  refine x_lald dX7_bestPlace_127 13 i rfl (rfl) (by omega) (by decide) ?_
                  refine x_aload_n dX7_bestPlace_128 rfl ?_
                  refine x_get dX7_bestPlace_129 0 3 inX7 fl_X7_31 rfl rfl (by decide) rfl ?_
                  refine x_iload_n dX7_bestPlace_132 rfl ?_
                  refine x_iload dX7_bestPlace_133 rfl ?_
                  refine x_cVl (ws' := [(aW, .inr (7, [.ref aS, .ref aL, .ref aC, .ref aO, .ref aWs, .ref aWt])), (aS, .inr (6, [.ref aSk, .ref aSm, .ref aSp, .ref aSt, .ref aSc, .ref aSr, .ref aSe, .int (nI gr), .int (nI br), .int (nI cs), .int (nI wk), .int z])), (aSr, .inl (g.2.1 0, 8, .inl (nIf ru))), (aC, .inr (0, [.ref aS, .ref aL, .ref aV, .ref aO, .ref aCs, .ref aCl, .ref aCh, .ref aCw, .ref aCc, .ref aCb, .int (nI tot), .int (nI lat), .int se, .int sw])), (aCc, .inl (g.2.1 0, 495, .inl (nIf cr))), (aCh, .inl (g.2.1 0, 495, .inl (nIf th))), (aCw, .inl (g.2.1 0, 495, .inl (nIf tw))), (aL, .inr (5, [.ref aLb, .ref aLp])), (aLp, .inl (g.2.1 0, 495, .inl (nIf packB))), (aO, .inr (3, [.ref aOv, .ref aOs, .ref aOm, .ref aL])), (aOv, .inl (g.2.1 2, 495, .inr (.inl (bvF ru (wkPot ru tot) cr th tw 3)))), (aOs, .inl (g.2.1 2, 286, .inr (.inl (gsT (bvF ru (wkPot ru tot) cr th tw 3) 495)))), (aOm, .inl (g.2.1 0, 10, .inl (nIf (mkR (rowB i))))), (aWs, .inl (g.2.1 2, 495, .inr (.inl (fillT i (fun p => 0 + ovS 4 (bvF ru (wkPot ru tot) cr th tw 4) p + ovS 3 (bvF ru (wkPot ru tot) cr th tw 3) p) (fun p => 0 + ovS 4 (bvF ru (wkPot ru tot) cr th tw 4) p)))))]) dX7_bestPlace_135 ml_X7_93 mX3_ofRank (ct_ofRank_3 κ.2.1 g aO aOv aOs aOm aL aLb aLp (bvF ru (wkPot ru tot) cr th tw 3) (gsT (bvF ru (wkPot ru tot) cr th tw 3) 495) mq i (by omega)) [9, 10, 11, 12, 7, 8] rfl rfl 9 rfl rfl rfl (Nat.le_of_ble_eq_true rfl) (by decide) (Nat.le_refl _) (Nat.le_refl _) (rfl : [aO, aOv, aOs, aOm, aL, aLp] = [aO, aOv, aOs, aOm, aL, aLp]) rfl ?_
                  refine x_rel (ovS 3 (bvF ru (wkPot ru tot) cr th tw 3) i) (ov3_id _ (by omega)) ?_
                  refine x_ladd dX7_bestPlace_138 ?_
                  refine x_last (ws' := [(aW, .inr (7, [.ref aS, .ref aL, .ref aC, .ref aO, .ref aWs, .ref aWt])), (aS, .inr (6, [.ref aSk, .ref aSm, .ref aSp, .ref aSt, .ref aSc, .ref aSr, .ref aSe, .int (nI gr), .int (nI br), .int (nI cs), .int (nI wk), .int z])), (aSr, .inl (g.2.1 0, 8, .inl (nIf ru))), (aC, .inr (0, [.ref aS, .ref aL, .ref aV, .ref aO, .ref aCs, .ref aCl, .ref aCh, .ref aCw, .ref aCc, .ref aCb, .int (nI tot), .int (nI lat), .int se, .int sw])), (aCc, .inl (g.2.1 0, 495, .inl (nIf cr))), (aCh, .inl (g.2.1 0, 495, .inl (nIf th))), (aCw, .inl (g.2.1 0, 495, .inl (nIf tw))), (aL, .inr (5, [.ref aLb, .ref aLp])), (aLp, .inl (g.2.1 0, 495, .inl (nIf packB))), (aO, .inr (3, [.ref aOv, .ref aOs, .ref aOm, .ref aL])), (aOv, .inl (g.2.1 2, 495, .inr (.inl (bvF ru (wkPot ru tot) cr th tw 3)))), (aOs, .inl (g.2.1 2, 286, .inr (.inl (gsT (bvF ru (wkPot ru tot) cr th tw 3) 495)))), (aOm, .inl (g.2.1 0, 10, .inl (nIf (mkR (rowB i))))), (aWs, .inl (g.2.1 2, 495, .inr (.inl (vp_updL (fillT i (fun p => 0 + ovS 4 (bvF ru (wkPot ru tot) cr th tw 4) p + ovS 3 (bvF ru (wkPot ru tot) cr th tw 3) p) (fun p => 0 + ovS 4 (bvF ru (wkPot ru tot) cr th tw 4) p)) i (((fillT i (fun p => 0 + ovS 4 (bvF ru (wkPot ru tot) cr th tw 4) p + ovS 3 (bvF ru (wkPot ru tot) cr th tw 3) p) (fun p => 0 + ovS 4 (bvF ru (wkPot ru tot) cr th tw 4) p)) i) + (ovS 3 (bvF ru (wkPot ru tot) cr th tw 3) i))))))]) dX7_bestPlace_139 13 i rfl (rfl) (by omega) (by decide) rfl ?_
                  refine x_iinc (lv' := [some (.ref aW), some (.long (potL ru ((nI (ru 7)).toInt64) ((nI tot).toInt64))), none, some (.int 3), some (.long (partL ru 3 (potL ru ((nI (ru 7)).toInt64) ((nI tot).toInt64)))), none, some (.int (nI (i + 1)))]) (nI (i + 1)) dX7_bestPlace_140 rfl (nI_addc i 1 rfl) rfl ?_
                  refine x_goto dX7_bestPlace_143 ?_
                  exact ih112 (by omega) _ (by rw [fillT_out _ _ (Nat.lt_irrefl i)]; exact fillT_updL i (fun p => 0 + ovS 4 (bvF ru (wkPot ru tot) cr th tw 4) p + ovS 3 (bvF ru (wkPot ru tot) cr th tw 3) p) (fun p => 0 + ovS 4 (bvF ru (wkPot ru tot) cr th tw 4) p)) (mkR (rowB i))
              exact L112_5 0 (Nat.zero_le _) _ (by exact (fillT_0 _ _).symm) z4
            · have c61 : ¬ (495 ≤ (nI i)) := c61
              have c61n := mt (nI_leI (a := 495) (b := i) (by omega) (by omega)).mpr c61
              refine x_aload_n dX7_bestPlace_64 rfl ?_
              refine x_get dX7_bestPlace_65 0 3 inX7 fl_X7_31 rfl rfl (by decide) rfl ?_
              refine x_get dX7_bestPlace_68 9 0 inX3 fl_X7_85 rfl rfl (by decide) rfl ?_
              refine x_iload dX7_bestPlace_71 rfl ?_
              refine x_aload_n dX7_bestPlace_73 rfl ?_
              refine x_lload dX7_bestPlace_74 rfl ?_
              refine x_aload_n dX7_bestPlace_76 rfl ?_
              refine x_get dX7_bestPlace_77 0 2 inX7 fl_X7_27 rfl rfl (by decide) rfl ?_
              refine x_iload_n dX7_bestPlace_80 rfl ?_
              refine x_iload dX7_bestPlace_81 rfl ?_
              refine x_cVi0 dX7_bestPlace_83 ml_X7_62 mX0_winnersAt (ct_X0_winnersAt κ.2.1 g aC aS aL aO aV aCs aCl aCh aCw aCc aCb tot lat se sw cr th tw 3 i (by omega) (by decide)) [3, 4, 5, 6] rfl rfl 3 rfl rfl rfl (Nat.le_of_ble_eq_true rfl) (by decide) (Nat.le_refl _) (Nat.le_refl _) ?_
              refine x_lconst 1 dX7_bestPlace_86 (by decide) ?_
              refine x_cVl0 dX7_bestPlace_87 ml_X7_66 mX7_oneGets (ct_X7_oneGets κ.2.1 g aW aS aL aC aO aWs aWt aSk aSm aSp aSt aSc aSr aSe gr br cs wk z ru (partL ru 3 (potL ru ((nI (ru 7)).toInt64) ((nI tot).toInt64))) 1 (wnA cr th tw 3 i)) [0, 1, 2] rfl rfl 0 rfl rfl rfl (Nat.le_of_ble_eq_true rfl) (by decide) (Nat.le_refl _) (Nat.le_refl _) ?_
              refine x_last (ws' := [(aW, .inr (7, [.ref aS, .ref aL, .ref aC, .ref aO, .ref aWs, .ref aWt])), (aS, .inr (6, [.ref aSk, .ref aSm, .ref aSp, .ref aSt, .ref aSc, .ref aSr, .ref aSe, .int (nI gr), .int (nI br), .int (nI cs), .int (nI wk), .int z])), (aSr, .inl (g.2.1 0, 8, .inl (nIf ru))), (aC, .inr (0, [.ref aS, .ref aL, .ref aV, .ref aO, .ref aCs, .ref aCl, .ref aCh, .ref aCw, .ref aCc, .ref aCb, .int (nI tot), .int (nI lat), .int se, .int sw])), (aCc, .inl (g.2.1 0, 495, .inl (nIf cr))), (aCh, .inl (g.2.1 0, 495, .inl (nIf th))), (aCw, .inl (g.2.1 0, 495, .inl (nIf tw))), (aL, .inr (5, [.ref aLb, .ref aLp])), (aLp, .inl (g.2.1 0, 495, .inl (nIf packB))), (aO, .inr (3, [.ref aOv, .ref aOs, .ref aOm, .ref aL])), (aOv, .inl (g.2.1 2, 495, .inr (.inl (vp_updL (fillT i (bvF ru (wkPot ru tot) cr th tw 3) (bvF ru (wkPot ru tot) cr th tw 4)) i (oneG ru (partL ru 3 (potL ru ((nI (ru 7)).toInt64) ((nI tot).toInt64))) (wnA cr th tw 3 i) 1))))), (aOs, .inl (g.2.1 2, 286, .inr (.inl su))), (aOm, .inl (g.2.1 0, 10, .inl (nIf mk))), (aWs, .inl (g.2.1 2, 495, .inr (.inl (fun p => 0 + ovS 4 (bvF ru (wkPot ru tot) cr th tw 4) p))))]) dX7_bestPlace_90 10 i rfl (rfl) (by omega) (by decide) rfl ?_
              refine x_iinc (lv' := [some (.ref aW), some (.long (potL ru ((nI (ru 7)).toInt64) ((nI tot).toInt64))), none, some (.int 3), some (.long (partL ru 3 (potL ru ((nI (ru 7)).toInt64) ((nI tot).toInt64)))), none, some (.int (nI (i + 1)))]) (nI (i + 1)) dX7_bestPlace_91 rfl (nI_addc i 1 rfl) rfl ?_
              refine x_goto dX7_bestPlace_94 ?_
              exact ih56 (by omega) _ (by exact fillT_updL i (bvF ru (wkPot ru tot) cr th tw 3) (bvF ru (wkPot ru tot) cr th tw 4))
          exact L56_3 0 (Nat.zero_le _) _ (by exact (fillT_0 _ _).symm)
        · have c117 : ¬ (495 ≤ (nI i)) := c117
          have c117n := mt (nI_leI (a := 495) (b := i) (by omega) (by omega)).mpr c117
          refine x_aload_n dX7_bestPlace_120 rfl ?_
          refine x_get dX7_bestPlace_121 0 4 inX7 fl_X7_9 rfl rfl (by decide) rfl ?_
          refine x_iload dX7_bestPlace_124 rfl ?_
          refine x_dup2 dX7_bestPlace_126 rfl rfl ?_
          refine x_lald dX7_bestPlace_127 13 i rfl (rfl) (by omega) (by decide) ?_
          refine x_aload_n dX7_bestPlace_128 rfl ?_
          refine x_get dX7_bestPlace_129 0 3 inX7 fl_X7_31 rfl rfl (by decide) rfl ?_
          refine x_iload_n dX7_bestPlace_132 rfl ?_
          refine x_iload dX7_bestPlace_133 rfl ?_
          refine x_cVl0 dX7_bestPlace_135 ml_X7_93 mX3_ofRank (ct_ofRank_4 κ.2.1 g aO aOv aOs aOm aL aLb aLp (bvF ru (wkPot ru tot) cr th tw 4) su mk i (by omega)) [9, 10, 11, 12, 7, 8] rfl rfl 9 rfl rfl rfl (Nat.le_of_ble_eq_true rfl) (by decide) (Nat.le_refl _) (Nat.le_refl _) ?_
          refine x_rel (ovS 4 (bvF ru (wkPot ru tot) cr th tw 4) i) (ov4_id _ (by omega)) ?_
          refine x_ladd dX7_bestPlace_138 ?_
          refine x_last (ws' := [(aW, .inr (7, [.ref aS, .ref aL, .ref aC, .ref aO, .ref aWs, .ref aWt])), (aS, .inr (6, [.ref aSk, .ref aSm, .ref aSp, .ref aSt, .ref aSc, .ref aSr, .ref aSe, .int (nI gr), .int (nI br), .int (nI cs), .int (nI wk), .int z])), (aSr, .inl (g.2.1 0, 8, .inl (nIf ru))), (aC, .inr (0, [.ref aS, .ref aL, .ref aV, .ref aO, .ref aCs, .ref aCl, .ref aCh, .ref aCw, .ref aCc, .ref aCb, .int (nI tot), .int (nI lat), .int se, .int sw])), (aCc, .inl (g.2.1 0, 495, .inl (nIf cr))), (aCh, .inl (g.2.1 0, 495, .inl (nIf th))), (aCw, .inl (g.2.1 0, 495, .inl (nIf tw))), (aL, .inr (5, [.ref aLb, .ref aLp])), (aLp, .inl (g.2.1 0, 495, .inl (nIf packB))), (aO, .inr (3, [.ref aOv, .ref aOs, .ref aOm, .ref aL])), (aOv, .inl (g.2.1 2, 495, .inr (.inl (bvF ru (wkPot ru tot) cr th tw 4)))), (aOs, .inl (g.2.1 2, 286, .inr (.inl su))), (aOm, .inl (g.2.1 0, 10, .inl (nIf mk))), (aWs, .inl (g.2.1 2, 495, .inr (.inl (vp_updL (fillT i (fun p => 0 + ovS 4 (bvF ru (wkPot ru tot) cr th tw 4) p) (fun _ => 0)) i (((fillT i (fun p => 0 + ovS 4 (bvF ru (wkPot ru tot) cr th tw 4) p) (fun _ => 0)) i) + (ovS 4 (bvF ru (wkPot ru tot) cr th tw 4) i))))))]) dX7_bestPlace_139 13 i rfl (rfl) (by omega) (by decide) rfl ?_
          refine x_iinc (lv' := [some (.ref aW), some (.long (potL ru ((nI (ru 7)).toInt64) ((nI tot).toInt64))), none, some (.int 4), some (.long (partL ru 4 (potL ru ((nI (ru 7)).toInt64) ((nI tot).toInt64)))), none, some (.int (nI (i + 1)))]) (nI (i + 1)) dX7_bestPlace_140 rfl (nI_addc i 1 rfl) rfl ?_
          refine x_goto dX7_bestPlace_143 ?_
          exact ih112 (by omega) _ (by rw [fillT_out _ _ (Nat.lt_irrefl i)]; exact fillT_updL i (fun p => 0 + ovS 4 (bvF ru (wkPot ru tot) cr th tw 4) p) (fun _ => 0))
      exact L112_2 0 (Nat.zero_le _) _ (by exact (fillT_0 _ _).symm)
    · have c61 : ¬ (495 ≤ (nI i)) := c61
      have c61n := mt (nI_leI (a := 495) (b := i) (by omega) (by omega)).mpr c61
      refine x_aload_n dX7_bestPlace_64 rfl ?_
      refine x_get dX7_bestPlace_65 0 3 inX7 fl_X7_31 rfl rfl (by decide) rfl ?_
      refine x_get dX7_bestPlace_68 9 0 inX3 fl_X7_85 rfl rfl (by decide) rfl ?_
      refine x_iload dX7_bestPlace_71 rfl ?_
      refine x_aload_n dX7_bestPlace_73 rfl ?_
      refine x_lload dX7_bestPlace_74 rfl ?_
      refine x_aload_n dX7_bestPlace_76 rfl ?_
      refine x_get dX7_bestPlace_77 0 2 inX7 fl_X7_27 rfl rfl (by decide) rfl ?_
      refine x_iload_n dX7_bestPlace_80 rfl ?_
      refine x_iload dX7_bestPlace_81 rfl ?_
      refine x_cVi0 dX7_bestPlace_83 ml_X7_62 mX0_winnersAt (ct_X0_winnersAt κ.2.1 g aC aS aL aO aV aCs aCl aCh aCw aCc aCb tot lat se sw cr th tw 4 i (by omega) (by decide)) [3, 4, 5, 6] rfl rfl 3 rfl rfl rfl (Nat.le_of_ble_eq_true rfl) (by decide) (Nat.le_refl _) (Nat.le_refl _) ?_
      refine x_lconst 1 dX7_bestPlace_86 (by decide) ?_
      refine x_cVl0 dX7_bestPlace_87 ml_X7_66 mX7_oneGets (ct_X7_oneGets κ.2.1 g aW aS aL aC aO aWs aWt aSk aSm aSp aSt aSc aSr aSe gr br cs wk z ru (partL ru 4 (potL ru ((nI (ru 7)).toInt64) ((nI tot).toInt64))) 1 (wnA cr th tw 4 i)) [0, 1, 2] rfl rfl 0 rfl rfl rfl (Nat.le_of_ble_eq_true rfl) (by decide) (Nat.le_refl _) (Nat.le_refl _) ?_
      refine x_last (ws' := [(aW, .inr (7, [.ref aS, .ref aL, .ref aC, .ref aO, .ref aWs, .ref aWt])), (aS, .inr (6, [.ref aSk, .ref aSm, .ref aSp, .ref aSt, .ref aSc, .ref aSr, .ref aSe, .int (nI gr), .int (nI br), .int (nI cs), .int (nI wk), .int z])), (aSr, .inl (g.2.1 0, 8, .inl (nIf ru))), (aC, .inr (0, [.ref aS, .ref aL, .ref aV, .ref aO, .ref aCs, .ref aCl, .ref aCh, .ref aCw, .ref aCc, .ref aCb, .int (nI tot), .int (nI lat), .int se, .int sw])), (aCc, .inl (g.2.1 0, 495, .inl (nIf cr))), (aCh, .inl (g.2.1 0, 495, .inl (nIf th))), (aCw, .inl (g.2.1 0, 495, .inl (nIf tw))), (aL, .inr (5, [.ref aLb, .ref aLp])), (aLp, .inl (g.2.1 0, 495, .inl (nIf packB))), (aO, .inr (3, [.ref aOv, .ref aOs, .ref aOm, .ref aL])), (aOv, .inl (g.2.1 2, 495, .inr (.inl (vp_updL (fillT i (bvF ru (wkPot ru tot) cr th tw 4) va) i (oneG ru (partL ru 4 (potL ru ((nI (ru 7)).toInt64) ((nI tot).toInt64))) (wnA cr th tw 4 i) 1))))), (aOs, .inl (g.2.1 2, 286, .inr (.inl su))), (aOm, .inl (g.2.1 0, 10, .inl (nIf mk))), (aWs, .inl (g.2.1 2, 495, .inr (.inl (fun _ => 0))))]) dX7_bestPlace_90 10 i rfl (rfl) (by omega) (by decide) rfl ?_
      refine x_iinc (lv' := [some (.ref aW), some (.long (potL ru ((nI (ru 7)).toInt64) ((nI tot).toInt64))), none, some (.int 4), some (.long (partL ru 4 (potL ru ((nI (ru 7)).toInt64) ((nI tot).toInt64)))), none, some (.int (nI (i + 1)))]) (nI (i + 1)) dX7_bestPlace_91 rfl (nI_addc i 1 rfl) rfl ?_
      refine x_goto dX7_bestPlace_94 ?_
      exact ih56 (by omega) _ (by exact fillT_updL i (bvF ru (wkPot ru tot) cr th tw 4) va)
  exact L56_1 0 (Nat.zero_le _) _ (by exact (fillT_0 _ _).symm)

-- == X7_houseOf ==
theorem dX7_houseOf_0 : xd cX7_houseOf 0 (.aload_n 0) 1 1 := ⟨by decide +kernel, rfl⟩
theorem dX7_houseOf_1 : xd cX7_houseOf 1 (.iload_n 1) 1 2 := ⟨by decide +kernel, rfl⟩
theorem dX7_houseOf_2 : xd cX7_houseOf 2 (.invokevirtual 101) 3 5 := ⟨by decide +kernel, rfl⟩
theorem dX7_houseOf_5 : xd cX7_houseOf 5 (.iconst 0) 1 6 := ⟨by decide +kernel, rfl⟩
theorem dX7_houseOf_6 : xd cX7_houseOf 6 (.istore_n 2) 1 7 := ⟨by decide +kernel, rfl⟩
theorem dX7_houseOf_7 : xd cX7_houseOf 7 (.iload_n 2) 1 8 := ⟨by decide +kernel, rfl⟩
theorem dX7_houseOf_8 : xd cX7_houseOf 8 (.sipush 495) 3 11 := ⟨by decide +kernel, rfl⟩
theorem dX7_houseOf_11 : xj cX7_houseOf 11 (.if_icmp .ge) 14 36 := ⟨25, by decide +kernel, rfl, by decide⟩
theorem dX7_houseOf_14 : xd cX7_houseOf 14 (.aload_n 0) 1 15 := ⟨by decide +kernel, rfl⟩
theorem dX7_houseOf_15 : xd cX7_houseOf 15 (.getfield 31) 3 18 := ⟨by decide +kernel, rfl⟩
theorem dX7_houseOf_18 : xd cX7_houseOf 18 (.getfield 85) 3 21 := ⟨by decide +kernel, rfl⟩
theorem dX7_houseOf_21 : xd cX7_houseOf 21 (.iload_n 2) 1 22 := ⟨by decide +kernel, rfl⟩
theorem dX7_houseOf_22 : xd cX7_houseOf 22 (.aload_n 0) 1 23 := ⟨by decide +kernel, rfl⟩
theorem dX7_houseOf_23 : xd cX7_houseOf 23 (.getfield 15) 3 26 := ⟨by decide +kernel, rfl⟩
theorem dX7_houseOf_26 : xd cX7_houseOf 26 (.iload_n 2) 1 27 := ⟨by decide +kernel, rfl⟩
theorem dX7_houseOf_27 : xd cX7_houseOf 27 .iaload 1 28 := ⟨by decide +kernel, rfl⟩
theorem dX7_houseOf_28 : xd cX7_houseOf 28 .i2l 1 29 := ⟨by decide +kernel, rfl⟩
theorem dX7_houseOf_29 : xd cX7_houseOf 29 .lastore 1 30 := ⟨by decide +kernel, rfl⟩
theorem dX7_houseOf_30 : xd cX7_houseOf 30 (.iinc 2 1) 3 33 := ⟨by decide +kernel, rfl⟩
theorem dX7_houseOf_33 : xj cX7_houseOf 33 .goto 36 7 := ⟨(-26), by decide +kernel, rfl, by decide⟩
theorem dX7_houseOf_36 : xd cX7_houseOf 36 (.aload_n 0) 1 37 := ⟨by decide +kernel, rfl⟩
theorem dX7_houseOf_37 : xd cX7_houseOf 37 (.getfield 31) 3 40 := ⟨by decide +kernel, rfl⟩
theorem dX7_houseOf_40 : xd cX7_houseOf 40 (.invokevirtual 90) 3 43 := ⟨by decide +kernel, rfl⟩
theorem dX7_houseOf_43 : xd cX7_houseOf 43 (.aload_n 0) 1 44 := ⟨by decide +kernel, rfl⟩
theorem dX7_houseOf_44 : xd cX7_houseOf 44 (.getfield 19) 3 47 := ⟨by decide +kernel, rfl⟩
theorem dX7_houseOf_47 : xd cX7_houseOf 47 (.aload_n 0) 1 48 := ⟨by decide +kernel, rfl⟩
theorem dX7_houseOf_48 : xd cX7_houseOf 48 (.getfield 19) 3 51 := ⟨by decide +kernel, rfl⟩
theorem dX7_houseOf_51 : xd cX7_houseOf 51 (.getfield 82) 3 54 := ⟨by decide +kernel, rfl⟩
theorem dX7_houseOf_54 : xd cX7_houseOf 54 (.bipush 7) 2 56 := ⟨by decide +kernel, rfl⟩
theorem dX7_houseOf_56 : xd cX7_houseOf 56 .iaload 1 57 := ⟨by decide +kernel, rfl⟩
theorem dX7_houseOf_57 : xd cX7_houseOf 57 .i2l 1 58 := ⟨by decide +kernel, rfl⟩
theorem dX7_houseOf_58 : xd cX7_houseOf 58 (.aload_n 0) 1 59 := ⟨by decide +kernel, rfl⟩
theorem dX7_houseOf_59 : xd cX7_houseOf 59 (.getfield 27) 3 62 := ⟨by decide +kernel, rfl⟩
theorem dX7_houseOf_62 : xd cX7_houseOf 62 (.getfield 40) 3 65 := ⟨by decide +kernel, rfl⟩
theorem dX7_houseOf_65 : xd cX7_houseOf 65 .i2l 1 66 := ⟨by decide +kernel, rfl⟩
theorem dX7_houseOf_66 : xd cX7_houseOf 66 (.invokevirtual 46) 3 69 := ⟨by decide +kernel, rfl⟩
theorem dX7_houseOf_69 : xd cX7_houseOf 69 (.lstore_n 2) 1 70 := ⟨by decide +kernel, rfl⟩
theorem dX7_houseOf_70 : xd cX7_houseOf 70 (.lconst 0) 1 71 := ⟨by decide +kernel, rfl⟩
theorem dX7_houseOf_71 : xd cX7_houseOf 71 (.lstore 4) 2 73 := ⟨by decide +kernel, rfl⟩
theorem dX7_houseOf_73 : xd cX7_houseOf 73 (.iconst 4) 1 74 := ⟨by decide +kernel, rfl⟩
theorem dX7_houseOf_74 : xd cX7_houseOf 74 (.istore 6) 2 76 := ⟨by decide +kernel, rfl⟩
theorem dX7_houseOf_76 : xd cX7_houseOf 76 (.iload 6) 2 78 := ⟨by decide +kernel, rfl⟩
theorem dX7_houseOf_78 : xd cX7_houseOf 78 (.iconst 2) 1 79 := ⟨by decide +kernel, rfl⟩
theorem dX7_houseOf_79 : xj cX7_houseOf 79 (.if_icmp .lt) 82 157 := ⟨78, by decide +kernel, rfl, by decide⟩
theorem dX7_houseOf_82 : xd cX7_houseOf 82 (.aload_n 0) 1 83 := ⟨by decide +kernel, rfl⟩
theorem dX7_houseOf_83 : xd cX7_houseOf 83 (.getfield 19) 3 86 := ⟨by decide +kernel, rfl⟩
theorem dX7_houseOf_86 : xd cX7_houseOf 86 (.iload 6) 2 88 := ⟨by decide +kernel, rfl⟩
theorem dX7_houseOf_88 : xd cX7_houseOf 88 (.lload_n 2) 1 89 := ⟨by decide +kernel, rfl⟩
theorem dX7_houseOf_89 : xd cX7_houseOf 89 (.invokevirtual 52) 3 92 := ⟨by decide +kernel, rfl⟩
theorem dX7_houseOf_92 : xd cX7_houseOf 92 (.lstore 7) 2 94 := ⟨by decide +kernel, rfl⟩
theorem dX7_houseOf_94 : xd cX7_houseOf 94 (.iconst 0) 1 95 := ⟨by decide +kernel, rfl⟩
theorem dX7_houseOf_95 : xd cX7_houseOf 95 (.istore 9) 2 97 := ⟨by decide +kernel, rfl⟩
theorem dX7_houseOf_97 : xd cX7_houseOf 97 (.iload 9) 2 99 := ⟨by decide +kernel, rfl⟩
theorem dX7_houseOf_99 : xd cX7_houseOf 99 (.sipush 495) 3 102 := ⟨by decide +kernel, rfl⟩
theorem dX7_houseOf_102 : xj cX7_houseOf 102 (.if_icmp .ge) 105 151 := ⟨49, by decide +kernel, rfl, by decide⟩
theorem dX7_houseOf_105 : xd cX7_houseOf 105 (.aload_n 0) 1 106 := ⟨by decide +kernel, rfl⟩
theorem dX7_houseOf_106 : xd cX7_houseOf 106 (.getfield 31) 3 109 := ⟨by decide +kernel, rfl⟩
theorem dX7_houseOf_109 : xd cX7_houseOf 109 (.iload 6) 2 111 := ⟨by decide +kernel, rfl⟩
theorem dX7_houseOf_111 : xd cX7_houseOf 111 (.iload 9) 2 113 := ⟨by decide +kernel, rfl⟩
theorem dX7_houseOf_113 : xd cX7_houseOf 113 (.invokevirtual 93) 3 116 := ⟨by decide +kernel, rfl⟩
theorem dX7_houseOf_116 : xd cX7_houseOf 116 (.lstore 10) 2 118 := ⟨by decide +kernel, rfl⟩
theorem dX7_houseOf_118 : xd cX7_houseOf 118 (.lload 4) 2 120 := ⟨by decide +kernel, rfl⟩
theorem dX7_houseOf_120 : xd cX7_houseOf 120 (.lload 10) 2 122 := ⟨by decide +kernel, rfl⟩
theorem dX7_houseOf_122 : xd cX7_houseOf 122 (.aload_n 0) 1 123 := ⟨by decide +kernel, rfl⟩
theorem dX7_houseOf_123 : xd cX7_houseOf 123 (.lload 7) 2 125 := ⟨by decide +kernel, rfl⟩
theorem dX7_houseOf_125 : xd cX7_houseOf 125 (.aload_n 0) 1 126 := ⟨by decide +kernel, rfl⟩
theorem dX7_houseOf_126 : xd cX7_houseOf 126 (.getfield 27) 3 129 := ⟨by decide +kernel, rfl⟩
theorem dX7_houseOf_129 : xd cX7_houseOf 129 (.iload 6) 2 131 := ⟨by decide +kernel, rfl⟩
theorem dX7_houseOf_131 : xd cX7_houseOf 131 (.iload 9) 2 133 := ⟨by decide +kernel, rfl⟩
theorem dX7_houseOf_133 : xd cX7_houseOf 133 (.invokevirtual 62) 3 136 := ⟨by decide +kernel, rfl⟩
theorem dX7_houseOf_136 : xd cX7_houseOf 136 (.lload 10) 2 138 := ⟨by decide +kernel, rfl⟩
theorem dX7_houseOf_138 : xd cX7_houseOf 138 (.invokevirtual 66) 3 141 := ⟨by decide +kernel, rfl⟩
theorem dX7_houseOf_141 : xd cX7_houseOf 141 .lmul 1 142 := ⟨by decide +kernel, rfl⟩
theorem dX7_houseOf_142 : xd cX7_houseOf 142 .ladd 1 143 := ⟨by decide +kernel, rfl⟩
theorem dX7_houseOf_143 : xd cX7_houseOf 143 (.lstore 4) 2 145 := ⟨by decide +kernel, rfl⟩
theorem dX7_houseOf_145 : xd cX7_houseOf 145 (.iinc 9 1) 3 148 := ⟨by decide +kernel, rfl⟩
theorem dX7_houseOf_148 : xj cX7_houseOf 148 .goto 151 97 := ⟨(-51), by decide +kernel, rfl, by decide⟩
theorem dX7_houseOf_151 : xd cX7_houseOf 151 (.iinc 6 (-1)) 3 154 := ⟨by decide +kernel, rfl⟩
theorem dX7_houseOf_154 : xj cX7_houseOf 154 .goto 157 76 := ⟨(-78), by decide +kernel, rfl, by decide⟩
theorem dX7_houseOf_157 : xd cX7_houseOf 157 (.lload 4) 2 159 := ⟨by decide +kernel, rfl⟩
theorem dX7_houseOf_159 : xd cX7_houseOf 159 (.ldc2_w 70) 3 162 := ⟨by decide +kernel, rfl⟩
theorem dX7_houseOf_162 : xd cX7_houseOf 162 .ldiv 1 163 := ⟨by decide +kernel, rfl⟩
theorem dX7_houseOf_163 : xd cX7_houseOf 163 (.iload_n 1) 1 164 := ⟨by decide +kernel, rfl⟩
theorem dX7_houseOf_164 : xd cX7_houseOf 164 .i2l 1 165 := ⟨by decide +kernel, rfl⟩
theorem dX7_houseOf_165 : xd cX7_houseOf 165 (.aload_n 0) 1 166 := ⟨by decide +kernel, rfl⟩
theorem dX7_houseOf_166 : xd cX7_houseOf 166 (.getfield 19) 3 169 := ⟨by decide +kernel, rfl⟩
theorem dX7_houseOf_169 : xd cX7_houseOf 169 (.getfield 82) 3 172 := ⟨by decide +kernel, rfl⟩
theorem dX7_houseOf_172 : xd cX7_houseOf 172 (.iconst 0) 1 173 := ⟨by decide +kernel, rfl⟩
theorem dX7_houseOf_173 : xd cX7_houseOf 173 .iaload 1 174 := ⟨by decide +kernel, rfl⟩
theorem dX7_houseOf_174 : xd cX7_houseOf 174 .i2l 1 175 := ⟨by decide +kernel, rfl⟩
theorem dX7_houseOf_175 : xd cX7_houseOf 175 .lmul 1 176 := ⟨by decide +kernel, rfl⟩
theorem dX7_houseOf_176 : xd cX7_houseOf 176 .lsub 1 177 := ⟨by decide +kernel, rfl⟩
theorem dX7_houseOf_177 : xd cX7_houseOf 177 .lreturn 1 178 := ⟨by decide +kernel, rfl⟩

set_option maxRecDepth 100000 in
set_option maxHeartbeats 4000000 in
theorem ct_X7_houseOf (l : Launch) (g : XG) (aW aS aL aC aO aWs aWt : Nat) (aSk aSm aSp aSt aSc aSr aSe gr br cs wk : Nat) (z : Int32) (ru : Nat → Nat) (aV aCs aCl aCh aCw aCc aCb tot lat : Nat) (se sw : Int32) (cr th tw : Nat → Nat) (aLb aLp : Nat) (aOv aOs aOm : Nat) (va su : Nat → Int64) (mk : Nat → Nat) (tk : Nat → Nat) (n : Nat) (htot : tot < 2 ^ 30) (hn : n ≤ 495) : Ct l g 4 0 0 yX7_houseOf cX7_houseOf 12 (some .long) [.ref aW, .int (nI n)] [(aW, .inr (7, [.ref aS, .ref aL, .ref aC, .ref aO, .ref aWs, .ref aWt])), (aS, .inr (6, [.ref aSk, .ref aSm, .ref aSp, .ref aSt, .ref aSc, .ref aSr, .ref aSe, .int (nI gr), .int (nI br), .int (nI cs), .int (nI wk), .int z])), (aSr, .inl (g.2.1 0, 8, .inl (nIf ru))), (aC, .inr (0, [.ref aS, .ref aL, .ref aV, .ref aO, .ref aCs, .ref aCl, .ref aCh, .ref aCw, .ref aCc, .ref aCb, .int (nI tot), .int (nI lat), .int se, .int sw])), (aCc, .inl (g.2.1 0, 495, .inl (nIf cr))), (aCh, .inl (g.2.1 0, 495, .inl (nIf th))), (aCw, .inl (g.2.1 0, 495, .inl (nIf tw))), (aL, .inr (5, [.ref aLb, .ref aLp])), (aLp, .inl (g.2.1 0, 495, .inl (nIf packB))), (aO, .inr (3, [.ref aOv, .ref aOs, .ref aOm, .ref aL])), (aOv, .inl (g.2.1 2, 495, .inr (.inl va))), (aOs, .inl (g.2.1 2, 286, .inr (.inl su))), (aOm, .inl (g.2.1 0, 10, .inl (nIf mk))), (aWt, .inl (g.2.1 0, 495, .inl (nIf tk)))] (fun vv_ ww_ => ∃ (va2 : Nat → Int64) (su2 : Nat → Int64) (mk2 : Nat → Nat) (tk2 : Nat → Nat), vv_ = some (.long (hsL ru (wkPot ru tot) cr th tw (crL (tkF cr n tot)) n)) ∧ ww_ = [(aW, .inr (7, [.ref aS, .ref aL, .ref aC, .ref aO, .ref aWs, .ref aWt])), (aS, .inr (6, [.ref aSk, .ref aSm, .ref aSp, .ref aSt, .ref aSc, .ref aSr, .ref aSe, .int (nI gr), .int (nI br), .int (nI cs), .int (nI wk), .int z])), (aSr, .inl (g.2.1 0, 8, .inl (nIf ru))), (aC, .inr (0, [.ref aS, .ref aL, .ref aV, .ref aO, .ref aCs, .ref aCl, .ref aCh, .ref aCw, .ref aCc, .ref aCb, .int (nI tot), .int (nI lat), .int se, .int sw])), (aCc, .inl (g.2.1 0, 495, .inl (nIf cr))), (aCh, .inl (g.2.1 0, 495, .inl (nIf th))), (aCw, .inl (g.2.1 0, 495, .inl (nIf tw))), (aL, .inr (5, [.ref aLb, .ref aLp])), (aLp, .inl (g.2.1 0, 495, .inl (nIf packB))), (aO, .inr (3, [.ref aOv, .ref aOs, .ref aOm, .ref aL])), (aOv, .inl (g.2.1 2, 495, .inr (.inl va2))), (aOs, .inl (g.2.1 2, 286, .inr (.inl su2))), (aOm, .inl (g.2.1 0, 10, .inl (nIf mk2))), (aWt, .inl (g.2.1 0, 495, .inl (nIf tk2)))]) := by
  refine Ct.ofX (lv := [some (.ref aW), some (.int (nI n)), none, none, none, none, none, none, none, none, none, none]) (by decide) rfl (Nat.le_of_ble_eq_true rfl) (fun κ => ?_)
  generalize hQ : xQ κ g 0 0 _ = Q
  refine x_aload_n dX7_houseOf_0 rfl ?_
  refine x_iload_n dX7_houseOf_1 rfl ?_
  refine x_cVv (ws' := [(aW, .inr (7, [.ref aS, .ref aL, .ref aC, .ref aO, .ref aWs, .ref aWt])), (aS, .inr (6, [.ref aSk, .ref aSm, .ref aSp, .ref aSt, .ref aSc, .ref aSr, .ref aSe, .int (nI gr), .int (nI br), .int (nI cs), .int (nI wk), .int z])), (aSr, .inl (g.2.1 0, 8, .inl (nIf ru))), (aC, .inr (0, [.ref aS, .ref aL, .ref aV, .ref aO, .ref aCs, .ref aCl, .ref aCh, .ref aCw, .ref aCc, .ref aCb, .int (nI tot), .int (nI lat), .int se, .int sw])), (aCc, .inl (g.2.1 0, 495, .inl (nIf cr))), (aCh, .inl (g.2.1 0, 495, .inl (nIf th))), (aCw, .inl (g.2.1 0, 495, .inl (nIf tw))), (aL, .inr (5, [.ref aLb, .ref aLp])), (aLp, .inl (g.2.1 0, 495, .inl (nIf packB))), (aO, .inr (3, [.ref aOv, .ref aOs, .ref aOm, .ref aL])), (aOv, .inl (g.2.1 2, 495, .inr (.inl va))), (aOs, .inl (g.2.1 2, 286, .inr (.inl su))), (aOm, .inl (g.2.1 0, 10, .inl (nIf mk))), (aWt, .inl (g.2.1 0, 495, .inl (nIf (tkF cr n tot))))]) dX7_houseOf_2 ml_X7_101 mX7_takeLeastCrossed (ct_X7_takeLeastCrossed κ.2.1 g aW aS aL aC aO aWs aWt aV aCs aCl aCh aCw aCc aCb tot lat se sw cr tk n (htot) (hn)) [0, 3, 4, 13] rfl rfl 0 rfl rfl rfl (Nat.le_of_ble_eq_true rfl) (by decide) (Nat.le_refl _) (Nat.le_refl _) (rfl : [aW, aC, aCc, aWt] = [aW, aC, aCc, aWt]) rfl ?_
  refine x_iconst 0 dX7_houseOf_5 (by decide) ?_
  refine x_istore_n (lv' := [some (.ref aW), some (.int (nI n)), some (.int 0), none, none, none, none, none, none, none, none, none]) dX7_houseOf_6 (xlt rfl) rfl ?_
  have L7_1 : ∀ (i : Nat), i ≤ 495 → ∀ (vf : Nat → Int64), vf = fillT i (crL (tkF cr n tot)) va → Xs κ g 4 0 0 cX7_houseOf yX7_houseOf (some .long) Q 0 0 7 [some (.ref aW), some (.int (nI n)), some (.int (nI i)), none, none, none, none, none, none, none, none, none] [] [(aW, .inr (7, [.ref aS, .ref aL, .ref aC, .ref aO, .ref aWs, .ref aWt])), (aS, .inr (6, [.ref aSk, .ref aSm, .ref aSp, .ref aSt, .ref aSc, .ref aSr, .ref aSe, .int (nI gr), .int (nI br), .int (nI cs), .int (nI wk), .int z])), (aSr, .inl (g.2.1 0, 8, .inl (nIf ru))), (aC, .inr (0, [.ref aS, .ref aL, .ref aV, .ref aO, .ref aCs, .ref aCl, .ref aCh, .ref aCw, .ref aCc, .ref aCb, .int (nI tot), .int (nI lat), .int se, .int sw])), (aCc, .inl (g.2.1 0, 495, .inl (nIf cr))), (aCh, .inl (g.2.1 0, 495, .inl (nIf th))), (aCw, .inl (g.2.1 0, 495, .inl (nIf tw))), (aL, .inr (5, [.ref aLb, .ref aLp])), (aLp, .inl (g.2.1 0, 495, .inl (nIf packB))), (aO, .inr (3, [.ref aOv, .ref aOs, .ref aOm, .ref aL])), (aOv, .inl (g.2.1 2, 495, .inr (.inl vf))), (aOs, .inl (g.2.1 2, 286, .inr (.inl su))), (aOm, .inl (g.2.1 0, 10, .inl (nIf mk))), (aWt, .inl (g.2.1 0, 495, .inl (nIf (tkF cr n tot))))] := by
    refine upTo 495 (fun i hi7 ih7 => ?_)
    intro vf evf
    subst evf
    refine x_iload_n dX7_houseOf_7 rfl ?_
    refine x_sipush 495 dX7_houseOf_8 (by decide) ?_
    refine x_icmp_ge dX7_houseOf_11 (fun c11 => ?_) (fun c11 => ?_)
    · have c11 : 495 ≤ (nI i) := c11
      have c11n := (nI_leI (a := 495) (b := i) (by omega) (by omega)).mp c11
      have hxc11 : i = 495 := by omega
      try rw [hxc11]
      refine x_funl (ws' := [(aW, .inr (7, [.ref aS, .ref aL, .ref aC, .ref aO, .ref aWs, .ref aWt])), (aS, .inr (6, [.ref aSk, .ref aSm, .ref aSp, .ref aSt, .ref aSc, .ref aSr, .ref aSe, .int (nI gr), .int (nI br), .int (nI cs), .int (nI wk), .int z])), (aSr, .inl (g.2.1 0, 8, .inl (nIf ru))), (aC, .inr (0, [.ref aS, .ref aL, .ref aV, .ref aO, .ref aCs, .ref aCl, .ref aCh, .ref aCw, .ref aCc, .ref aCb, .int (nI tot), .int (nI lat), .int se, .int sw])), (aCc, .inl (g.2.1 0, 495, .inl (nIf cr))), (aCh, .inl (g.2.1 0, 495, .inl (nIf th))), (aCw, .inl (g.2.1 0, 495, .inl (nIf tw))), (aL, .inr (5, [.ref aLb, .ref aLp])), (aLp, .inl (g.2.1 0, 495, .inl (nIf packB))), (aO, .inr (3, [.ref aOv, .ref aOs, .ref aOm, .ref aL])), (aOv, .inl (g.2.1 2, 495, .inr (.inl (crL (tkF cr n tot))))), (aOs, .inl (g.2.1 2, 286, .inr (.inl su))), (aOm, .inl (g.2.1 0, 10, .inl (nIf mk))), (aWt, .inl (g.2.1 0, 495, .inl (nIf (tkF cr n tot))))]) (q0 := 10) rfl (fun j hj => fillT_in _ _ hj) rfl ?_
      refine x_aload_n dX7_houseOf_36 rfl ?_
      refine x_get dX7_houseOf_37 0 3 inX7 fl_X7_31 rfl rfl (by decide) rfl ?_
      refine x_callV dX7_houseOf_40 ml_X7_90 mX3_gather (ct_X3_gather κ.2.1 g aO aOv aOs aOm aL aLb aLp (crL (tkF cr n tot)) su mk) [9, 10, 11, 12, 7, 8] rfl rfl 9 rfl rfl rfl (Nat.le_of_ble_eq_true rfl) (by decide) (Nat.le_refl _) (Nat.le_refl _) (fun vv ww hp => ?_)
      obtain ⟨z2, rfl, rfl⟩ := hp
      refine ⟨(rfl : [aO, aOv, aOs, aOm, aL, aLp] = [aO, aOv, aOs, aOm, aL, aLp]), x_eq (lv' := [some (.ref aW), some (.int (nI n)), some (.int 495), none, none, none, none, none, none, none, none, none]) (st' := []) (ws' := [(aW, .inr (7, [.ref aS, .ref aL, .ref aC, .ref aO, .ref aWs, .ref aWt])), (aS, .inr (6, [.ref aSk, .ref aSm, .ref aSp, .ref aSt, .ref aSc, .ref aSr, .ref aSe, .int (nI gr), .int (nI br), .int (nI cs), .int (nI wk), .int z])), (aSr, .inl (g.2.1 0, 8, .inl (nIf ru))), (aC, .inr (0, [.ref aS, .ref aL, .ref aV, .ref aO, .ref aCs, .ref aCl, .ref aCh, .ref aCw, .ref aCc, .ref aCb, .int (nI tot), .int (nI lat), .int se, .int sw])), (aCc, .inl (g.2.1 0, 495, .inl (nIf cr))), (aCh, .inl (g.2.1 0, 495, .inl (nIf th))), (aCw, .inl (g.2.1 0, 495, .inl (nIf tw))), (aL, .inr (5, [.ref aLb, .ref aLp])), (aLp, .inl (g.2.1 0, 495, .inl (nIf packB))), (aO, .inr (3, [.ref aOv, .ref aOs, .ref aOm, .ref aL])), (aOv, .inl (g.2.1 2, 495, .inr (.inl (crL (tkF cr n tot))))), (aOs, .inl (g.2.1 2, 286, .inr (.inl (gsT (crL (tkF cr n tot)) 495)))), (aOm, .inl (g.2.1 0, 10, .inl (nIf z2))), (aWt, .inl (g.2.1 0, 495, .inl (nIf (tkF cr n tot))))]) ?_ rfl rfl rfl⟩
      refine x_aload_n dX7_houseOf_43 rfl ?_
      refine x_get dX7_houseOf_44 0 0 inX7 fl_X7_19 rfl rfl (by decide) rfl ?_
      refine x_aload_n dX7_houseOf_47 rfl ?_
      refine x_get dX7_houseOf_48 0 0 inX7 fl_X7_19 rfl rfl (by decide) rfl ?_
      refine x_get dX7_houseOf_51 1 5 inX6 fl_X7_82 rfl rfl (by decide) rfl ?_
      refine x_bipush 7 dX7_houseOf_54 (by decide) ?_
      refine x_iald dX7_houseOf_56 2 7 rfl (rfl) (by decide) (by decide) ?_
      refine x_i2l dX7_houseOf_57 ?_
      refine x_aload_n dX7_houseOf_58 rfl ?_
      refine x_get dX7_houseOf_59 0 2 inX7 fl_X7_27 rfl rfl (by decide) rfl ?_
      refine x_get dX7_houseOf_62 3 10 inX0 fl_X7_40 rfl rfl (by decide) rfl ?_
      refine x_i2l dX7_houseOf_65 ?_
      refine x_cVl0 dX7_houseOf_66 ml_X7_46 mX6_potWithIn (ct_X6_potWithIn κ.2.1 g aS aSk aSm aSp aSt aSc aSr aSe gr br cs wk z ru ((nI (ru 7)).toInt64) ((nI tot).toInt64)) [1, 2] rfl rfl 1 rfl rfl rfl (Nat.le_of_ble_eq_true rfl) (by decide) (Nat.le_refl _) (Nat.le_refl _) ?_
      refine x_lstore_n (lv' := [some (.ref aW), some (.int (nI n)), some (.long (potL ru ((nI (ru 7)).toInt64) ((nI tot).toInt64))), none, none, none, none, none, none, none, none, none]) dX7_houseOf_69 (xlt rfl) rfl ?_
      refine x_lconst 0 dX7_houseOf_70 (by decide) ?_
      refine x_lstore (lv' := [some (.ref aW), some (.int (nI n)), some (.long (potL ru ((nI (ru 7)).toInt64) ((nI tot).toInt64))), none, some (.long 0), none, none, none, none, none, none, none]) dX7_houseOf_71 (xlt rfl) rfl ?_
      refine x_iconst 4 dX7_houseOf_73 (by decide) ?_
      refine x_istore (lv' := [some (.ref aW), some (.int (nI n)), some (.long (potL ru ((nI (ru 7)).toInt64) ((nI tot).toInt64))), none, some (.long 0), none, some (.int 4), none, none, none, none, none]) dX7_houseOf_74 (xlt rfl) rfl ?_
      refine x_iload dX7_houseOf_76 rfl ?_
      refine x_iconst 2 dX7_houseOf_78 (by decide) ?_
      refine x_icmp_lt dX7_houseOf_79 (fun c79 => ?_) (fun c79 => ?_)
      · exact absurd c79 (by decide)
      refine x_aload_n dX7_houseOf_82 rfl ?_
      refine x_get dX7_houseOf_83 0 0 inX7 fl_X7_19 rfl rfl (by decide) rfl ?_
      refine x_iload dX7_houseOf_86 rfl ?_
      refine x_lload_n dX7_houseOf_88 rfl ?_
      refine x_cVl0 dX7_houseOf_89 ml_X7_52 mX6_rankPart (ct_X6_rankPart κ.2.1 g aS aSk aSm aSp aSt aSc aSr aSe gr br cs wk z ru 4 (potL ru ((nI (ru 7)).toInt64) ((nI tot).toInt64)) (by decide)) [1, 2] rfl rfl 1 rfl rfl rfl (Nat.le_of_ble_eq_true rfl) (by decide) (Nat.le_refl _) (Nat.le_refl _) ?_
      refine x_lstore (lv' := [some (.ref aW), some (.int (nI n)), some (.long (potL ru ((nI (ru 7)).toInt64) ((nI tot).toInt64))), none, some (.long 0), none, some (.int 4), some (.long (partL ru 4 (potL ru ((nI (ru 7)).toInt64) ((nI tot).toInt64)))), none, none, none, none]) dX7_houseOf_92 (xlt rfl) rfl ?_
      refine x_iconst 0 dX7_houseOf_94 (by decide) ?_
      refine x_istore (lv' := [some (.ref aW), some (.int (nI n)), some (.long (potL ru ((nI (ru 7)).toInt64) ((nI tot).toInt64))), none, some (.long 0), none, some (.int 4), some (.long (partL ru 4 (potL ru ((nI (ru 7)).toInt64) ((nI tot).toInt64)))), none, some (.int 0), none, none]) dX7_houseOf_95 (xlt rfl) rfl ?_
      have L97_3 : ∀ (i : Nat), i ≤ 495 → ∀ (al : Int64), al = 0 + hsI ru (wkPot ru tot) cr th tw (crL (tkF cr n tot)) 4 i → Xs κ g 4 0 0 cX7_houseOf yX7_houseOf (some .long) Q 0 0 97 [some (.ref aW), some (.int (nI n)), some (.long (potL ru ((nI (ru 7)).toInt64) ((nI tot).toInt64))), none, some (.long al), none, some (.int 4), some (.long (partL ru 4 (potL ru ((nI (ru 7)).toInt64) ((nI tot).toInt64)))), none, some (.int (nI i)), none, none] [] [(aW, .inr (7, [.ref aS, .ref aL, .ref aC, .ref aO, .ref aWs, .ref aWt])), (aS, .inr (6, [.ref aSk, .ref aSm, .ref aSp, .ref aSt, .ref aSc, .ref aSr, .ref aSe, .int (nI gr), .int (nI br), .int (nI cs), .int (nI wk), .int z])), (aSr, .inl (g.2.1 0, 8, .inl (nIf ru))), (aC, .inr (0, [.ref aS, .ref aL, .ref aV, .ref aO, .ref aCs, .ref aCl, .ref aCh, .ref aCw, .ref aCc, .ref aCb, .int (nI tot), .int (nI lat), .int se, .int sw])), (aCc, .inl (g.2.1 0, 495, .inl (nIf cr))), (aCh, .inl (g.2.1 0, 495, .inl (nIf th))), (aCw, .inl (g.2.1 0, 495, .inl (nIf tw))), (aL, .inr (5, [.ref aLb, .ref aLp])), (aLp, .inl (g.2.1 0, 495, .inl (nIf packB))), (aO, .inr (3, [.ref aOv, .ref aOs, .ref aOm, .ref aL])), (aOv, .inl (g.2.1 2, 495, .inr (.inl (crL (tkF cr n tot))))), (aOs, .inl (g.2.1 2, 286, .inr (.inl (gsT (crL (tkF cr n tot)) 495)))), (aOm, .inl (g.2.1 0, 10, .inl (nIf z2))), (aWt, .inl (g.2.1 0, 495, .inl (nIf (tkF cr n tot))))] := by
        refine upTo 495 (fun i hi97 ih97 => ?_)
        intro al eal
        subst eal
        refine x_iload dX7_houseOf_97 rfl ?_
        refine x_sipush 495 dX7_houseOf_99 (by decide) ?_
        refine x_icmp_ge dX7_houseOf_102 (fun c102 => ?_) (fun c102 => ?_)
        · have c102 : 495 ≤ (nI i) := c102
          have c102n := (nI_leI (a := 495) (b := i) (by omega) (by omega)).mp c102
          have hxc102 : i = 495 := by omega
          try rw [hxc102]
          refine x_iinc (lv' := [some (.ref aW), some (.int (nI n)), some (.long (potL ru ((nI (ru 7)).toInt64) ((nI tot).toInt64))), none, some (.long (0 + hsI ru (wkPot ru tot) cr th tw (crL (tkF cr n tot)) 4 495)), none, some (.int 3), some (.long (partL ru 4 (potL ru ((nI (ru 7)).toInt64) ((nI tot).toInt64)))), none, some (.int 495), none, none]) (3) dX7_houseOf_151 rfl (by decide) rfl ?_
          refine x_goto dX7_houseOf_154 ?_
          refine x_iload dX7_houseOf_76 rfl ?_
          refine x_iconst 2 dX7_houseOf_78 (by decide) ?_
          refine x_icmp_lt dX7_houseOf_79 (fun c79 => ?_) (fun c79 => ?_)
          · exact absurd c79 (by decide)
          refine x_aload_n dX7_houseOf_82 rfl ?_
          refine x_get dX7_houseOf_83 0 0 inX7 fl_X7_19 rfl rfl (by decide) rfl ?_
          refine x_iload dX7_houseOf_86 rfl ?_
          refine x_lload_n dX7_houseOf_88 rfl ?_
          refine x_cVl0 dX7_houseOf_89 ml_X7_52 mX6_rankPart (ct_X6_rankPart κ.2.1 g aS aSk aSm aSp aSt aSc aSr aSe gr br cs wk z ru 3 (potL ru ((nI (ru 7)).toInt64) ((nI tot).toInt64)) (by decide)) [1, 2] rfl rfl 1 rfl rfl rfl (Nat.le_of_ble_eq_true rfl) (by decide) (Nat.le_refl _) (Nat.le_refl _) ?_
          refine x_lstore (lv' := [some (.ref aW), some (.int (nI n)), some (.long (potL ru ((nI (ru 7)).toInt64) ((nI tot).toInt64))), none, some (.long (0 + hsI ru (wkPot ru tot) cr th tw (crL (tkF cr n tot)) 4 495)), none, some (.int 3), some (.long (partL ru 3 (potL ru ((nI (ru 7)).toInt64) ((nI tot).toInt64)))), none, some (.int 495), none, none]) dX7_houseOf_92 (xlt rfl) rfl ?_
          refine x_iconst 0 dX7_houseOf_94 (by decide) ?_
          refine x_istore (lv' := [some (.ref aW), some (.int (nI n)), some (.long (potL ru ((nI (ru 7)).toInt64) ((nI tot).toInt64))), none, some (.long (0 + hsI ru (wkPot ru tot) cr th tw (crL (tkF cr n tot)) 4 495)), none, some (.int 3), some (.long (partL ru 3 (potL ru ((nI (ru 7)).toInt64) ((nI tot).toInt64)))), none, some (.int 0), none, none]) dX7_houseOf_95 (xlt rfl) rfl ?_
          have L97_4 : ∀ (i : Nat), i ≤ 495 → ∀ (al : Int64), al = 0 + hsI ru (wkPot ru tot) cr th tw (crL (tkF cr n tot)) 4 495 + hsI ru (wkPot ru tot) cr th tw (crL (tkF cr n tot)) 3 i → ∀ (mq : Nat → Nat), Xs κ g 4 0 0 cX7_houseOf yX7_houseOf (some .long) Q 0 0 97 [some (.ref aW), some (.int (nI n)), some (.long (potL ru ((nI (ru 7)).toInt64) ((nI tot).toInt64))), none, some (.long al), none, some (.int 3), some (.long (partL ru 3 (potL ru ((nI (ru 7)).toInt64) ((nI tot).toInt64)))), none, some (.int (nI i)), none, none] [] [(aW, .inr (7, [.ref aS, .ref aL, .ref aC, .ref aO, .ref aWs, .ref aWt])), (aS, .inr (6, [.ref aSk, .ref aSm, .ref aSp, .ref aSt, .ref aSc, .ref aSr, .ref aSe, .int (nI gr), .int (nI br), .int (nI cs), .int (nI wk), .int z])), (aSr, .inl (g.2.1 0, 8, .inl (nIf ru))), (aC, .inr (0, [.ref aS, .ref aL, .ref aV, .ref aO, .ref aCs, .ref aCl, .ref aCh, .ref aCw, .ref aCc, .ref aCb, .int (nI tot), .int (nI lat), .int se, .int sw])), (aCc, .inl (g.2.1 0, 495, .inl (nIf cr))), (aCh, .inl (g.2.1 0, 495, .inl (nIf th))), (aCw, .inl (g.2.1 0, 495, .inl (nIf tw))), (aL, .inr (5, [.ref aLb, .ref aLp])), (aLp, .inl (g.2.1 0, 495, .inl (nIf packB))), (aO, .inr (3, [.ref aOv, .ref aOs, .ref aOm, .ref aL])), (aOv, .inl (g.2.1 2, 495, .inr (.inl (crL (tkF cr n tot))))), (aOs, .inl (g.2.1 2, 286, .inr (.inl (gsT (crL (tkF cr n tot)) 495)))), (aOm, .inl (g.2.1 0, 10, .inl (nIf mq))), (aWt, .inl (g.2.1 0, 495, .inl (nIf (tkF cr n tot))))] := by
            refine upTo 495 (fun i hi97 ih97 => ?_)
            intro al eal
            subst eal
            intro mq
            refine x_iload dX7_houseOf_97 rfl ?_
            refine x_sipush 495 dX7_houseOf_99 (by decide) ?_
            refine x_icmp_ge dX7_houseOf_102 (fun c102 => ?_) (fun c102 => ?_)
            · have c102 : 495 ≤ (nI i) := c102
              have c102n := (nI_leI (a := 495) (b := i) (by omega) (by omega)).mp c102
              have hxc102 : i = 495 := by omega
              try rw [hxc102]
              refine x_iinc (lv' := [some (.ref aW), some (.int (nI n)), some (.long (potL ru ((nI (ru 7)).toInt64) ((nI tot).toInt64))), none, some (.long (0 + hsI ru (wkPot ru tot) cr th tw (crL (tkF cr n tot)) 4 495 + hsI ru (wkPot ru tot) cr th tw (crL (tkF cr n tot)) 3 495)), none, some (.int 2), some (.long (partL ru 3 (potL ru ((nI (ru 7)).toInt64) ((nI tot).toInt64)))), none, some (.int 495), none, none]) (2) dX7_houseOf_151 rfl (by decide) rfl ?_
              refine x_goto dX7_houseOf_154 ?_
              refine x_iload dX7_houseOf_76 rfl ?_
              refine x_iconst 2 dX7_houseOf_78 (by decide) ?_
              refine x_icmp_lt dX7_houseOf_79 (fun c79 => ?_) (fun c79 => ?_)
              · exact absurd c79 (by decide)
              refine x_aload_n dX7_houseOf_82 rfl ?_
              refine x_get dX7_houseOf_83 0 0 inX7 fl_X7_19 rfl rfl (by decide) rfl ?_
              refine x_iload dX7_houseOf_86 rfl ?_
              refine x_lload_n dX7_houseOf_88 rfl ?_
              refine x_cVl0 dX7_houseOf_89 ml_X7_52 mX6_rankPart (ct_X6_rankPart κ.2.1 g aS aSk aSm aSp aSt aSc aSr aSe gr br cs wk z ru 2 (potL ru ((nI (ru 7)).toInt64) ((nI tot).toInt64)) (by decide)) [1, 2] rfl rfl 1 rfl rfl rfl (Nat.le_of_ble_eq_true rfl) (by decide) (Nat.le_refl _) (Nat.le_refl _) ?_
              refine x_lstore (lv' := [some (.ref aW), some (.int (nI n)), some (.long (potL ru ((nI (ru 7)).toInt64) ((nI tot).toInt64))), none, some (.long (0 + hsI ru (wkPot ru tot) cr th tw (crL (tkF cr n tot)) 4 495 + hsI ru (wkPot ru tot) cr th tw (crL (tkF cr n tot)) 3 495)), none, some (.int 2), some (.long (partL ru 2 (potL ru ((nI (ru 7)).toInt64) ((nI tot).toInt64)))), none, some (.int 495), none, none]) dX7_houseOf_92 (xlt rfl) rfl ?_
              refine x_iconst 0 dX7_houseOf_94 (by decide) ?_
              refine x_istore (lv' := [some (.ref aW), some (.int (nI n)), some (.long (potL ru ((nI (ru 7)).toInt64) ((nI tot).toInt64))), none, some (.long (0 + hsI ru (wkPot ru tot) cr th tw (crL (tkF cr n tot)) 4 495 + hsI ru (wkPot ru tot) cr th tw (crL (tkF cr n tot)) 3 495)), none, some (.int 2), some (.long (partL ru 2 (potL ru ((nI (ru 7)).toInt64) ((nI tot).toInt64)))), none, some (.int 0), none, none]) dX7_houseOf_95 (xlt rfl) rfl ?_
              have L97_5 : ∀ (i : Nat), i ≤ 495 → ∀ (al : Int64), al = 0 + hsI ru (wkPot ru tot) cr th tw (crL (tkF cr n tot)) 4 495 + hsI ru (wkPot ru tot) cr th tw (crL (tkF cr n tot)) 3 495 + hsI ru (wkPot ru tot) cr th tw (crL (tkF cr n tot)) 2 i → ∀ (mq : Nat → Nat), Xs κ g 4 0 0 cX7_houseOf yX7_houseOf (some .long) Q 0 0 97 [some (.ref aW), some (.int (nI n)), some (.long (potL ru ((nI (ru 7)).toInt64) ((nI tot).toInt64))), none, some (.long al), none, some (.int 2), some (.long (partL ru 2 (potL ru ((nI (ru 7)).toInt64) ((nI tot).toInt64)))), none, some (.int (nI i)), none, none] [] [(aW, .inr (7, [.ref aS, .ref aL, .ref aC, .ref aO, .ref aWs, .ref aWt])), (aS, .inr (6, [.ref aSk, .ref aSm, .ref aSp, .ref aSt, .ref aSc, .ref aSr, .ref aSe, .int (nI gr), .int (nI br), .int (nI cs), .int (nI wk), .int z])), (aSr, .inl (g.2.1 0, 8, .inl (nIf ru))), (aC, .inr (0, [.ref aS, .ref aL, .ref aV, .ref aO, .ref aCs, .ref aCl, .ref aCh, .ref aCw, .ref aCc, .ref aCb, .int (nI tot), .int (nI lat), .int se, .int sw])), (aCc, .inl (g.2.1 0, 495, .inl (nIf cr))), (aCh, .inl (g.2.1 0, 495, .inl (nIf th))), (aCw, .inl (g.2.1 0, 495, .inl (nIf tw))), (aL, .inr (5, [.ref aLb, .ref aLp])), (aLp, .inl (g.2.1 0, 495, .inl (nIf packB))), (aO, .inr (3, [.ref aOv, .ref aOs, .ref aOm, .ref aL])), (aOv, .inl (g.2.1 2, 495, .inr (.inl (crL (tkF cr n tot))))), (aOs, .inl (g.2.1 2, 286, .inr (.inl (gsT (crL (tkF cr n tot)) 495)))), (aOm, .inl (g.2.1 0, 10, .inl (nIf mq))), (aWt, .inl (g.2.1 0, 495, .inl (nIf (tkF cr n tot))))] := by
                refine upTo 495 (fun i hi97 ih97 => ?_)
                intro al eal
                subst eal
                intro mq
                refine x_iload dX7_houseOf_97 rfl ?_
                refine x_sipush 495 dX7_houseOf_99 (by decide) ?_
                refine x_icmp_ge dX7_houseOf_102 (fun c102 => ?_) (fun c102 => ?_)
                · have c102 : 495 ≤ (nI i) := c102
                  have c102n := (nI_leI (a := 495) (b := i) (by omega) (by omega)).mp c102
                  have hxc102 : i = 495 := by omega
                  try rw [hxc102]
                  refine x_iinc (lv' := [some (.ref aW), some (.int (nI n)), some (.long (potL ru ((nI (ru 7)).toInt64) ((nI tot).toInt64))), none, some (.long (0 + hsI ru (wkPot ru tot) cr th tw (crL (tkF cr n tot)) 4 495 + hsI ru (wkPot ru tot) cr th tw (crL (tkF cr n tot)) 3 495 + hsI ru (wkPot ru tot) cr th tw (crL (tkF cr n tot)) 2 495)), none, some (.int 1), some (.long (partL ru 2 (potL ru ((nI (ru 7)).toInt64) ((nI tot).toInt64)))), none, some (.int 495), none, none]) (1) dX7_houseOf_151 rfl (by decide) rfl ?_
                  refine x_goto dX7_houseOf_154 ?_
                  refine x_iload dX7_houseOf_76 rfl ?_
                  refine x_iconst 2 dX7_houseOf_78 (by decide) ?_
                  refine x_icmp_lt dX7_houseOf_79 (fun c79 => ?_) (fun c79 => ?_)
                  rotate_left
                  · exact absurd c79 (by decide)
                  refine x_lload dX7_houseOf_157 rfl ?_
                  refine x_ldc2 dX7_houseOf_159 kl_X7_70 ?_
                  refine x_ldiv dX7_houseOf_162 (by decide) ?_
                  refine x_iload_n dX7_houseOf_163 rfl ?_
                  refine x_i2l dX7_houseOf_164 ?_
                  refine x_aload_n dX7_houseOf_165 rfl ?_
                  refine x_get dX7_houseOf_166 0 0 inX7 fl_X7_19 rfl rfl (by decide) rfl ?_
                  refine x_get dX7_houseOf_169 1 5 inX6 fl_X7_82 rfl rfl (by decide) rfl ?_
                  refine x_iconst 0 dX7_houseOf_172 (by decide) ?_
                  refine x_iald dX7_houseOf_173 2 0 rfl (rfl) (by decide) (by decide) ?_
                  refine x_i2l dX7_houseOf_174 ?_
                  refine x_lmul dX7_houseOf_175 ?_
                  refine x_lsub dX7_houseOf_176 ?_
                  rw [← hQ]
                  refine x_lret dX7_houseOf_177 rfl (Nat.le_of_ble_eq_true rfl) (Nat.le_of_ble_eq_true rfl) ?_
                  exact ⟨_, _, _, _, rfl, rfl⟩
                · have c102 : ¬ (495 ≤ (nI i)) := c102
                  have c102n := mt (nI_leI (a := 495) (b := i) (by omega) (by omega)).mpr c102
                  refine x_aload_n dX7_houseOf_105 rfl ?_
                  refine x_get dX7_houseOf_106 0 3 inX7 fl_X7_31 rfl rfl (by decide) rfl ?_
                  refine x_iload dX7_houseOf_109 rfl ?_
                  refine x_iload dX7_houseOf_111 rfl ?_
                  refine x_cVl (ws' := [(aW, .inr (7, [.ref aS, .ref aL, .ref aC, .ref aO, .ref aWs, .ref aWt])), (aS, .inr (6, [.ref aSk, .ref aSm, .ref aSp, .ref aSt, .ref aSc, .ref aSr, .ref aSe, .int (nI gr), .int (nI br), .int (nI cs), .int (nI wk), .int z])), (aSr, .inl (g.2.1 0, 8, .inl (nIf ru))), (aC, .inr (0, [.ref aS, .ref aL, .ref aV, .ref aO, .ref aCs, .ref aCl, .ref aCh, .ref aCw, .ref aCc, .ref aCb, .int (nI tot), .int (nI lat), .int se, .int sw])), (aCc, .inl (g.2.1 0, 495, .inl (nIf cr))), (aCh, .inl (g.2.1 0, 495, .inl (nIf th))), (aCw, .inl (g.2.1 0, 495, .inl (nIf tw))), (aL, .inr (5, [.ref aLb, .ref aLp])), (aLp, .inl (g.2.1 0, 495, .inl (nIf packB))), (aO, .inr (3, [.ref aOv, .ref aOs, .ref aOm, .ref aL])), (aOv, .inl (g.2.1 2, 495, .inr (.inl (crL (tkF cr n tot))))), (aOs, .inl (g.2.1 2, 286, .inr (.inl (gsT (crL (tkF cr n tot)) 495)))), (aOm, .inl (g.2.1 0, 10, .inl (nIf (mkR (rowB i))))), (aWt, .inl (g.2.1 0, 495, .inl (nIf (tkF cr n tot))))]) dX7_houseOf_113 ml_X7_93 mX3_ofRank (ct_ofRank_2 κ.2.1 g aO aOv aOs aOm aL aLb aLp (crL (tkF cr n tot)) (gsT (crL (tkF cr n tot)) 495) mq i (by omega)) [9, 10, 11, 12, 7, 8] rfl rfl 9 rfl rfl rfl (Nat.le_of_ble_eq_true rfl) (by decide) (Nat.le_refl _) (Nat.le_refl _) (rfl : [aO, aOv, aOs, aOm, aL, aLp] = [aO, aOv, aOs, aOm, aL, aLp]) rfl ?_
                  refine x_rel (ovS 2 (crL (tkF cr n tot)) i) (ov2_id _ (by omega)) ?_
                  refine x_lstore (lv' := [some (.ref aW), some (.int (nI n)), some (.long (potL ru ((nI (ru 7)).toInt64) ((nI tot).toInt64))), none, some (.long (0 + hsI ru (wkPot ru tot) cr th tw (crL (tkF cr n tot)) 4 495 + hsI ru (wkPot ru tot) cr th tw (crL (tkF cr n tot)) 3 495 + hsI ru (wkPot ru tot) cr th tw (crL (tkF cr n tot)) 2 i)), none, some (.int 2), some (.long (partL ru 2 (potL ru ((nI (ru 7)).toInt64) ((nI tot).toInt64)))), none, some (.int (nI i)), some (.long (ovS 2 (crL (tkF cr n tot)) i)), none]) dX7_houseOf_116 (xlt rfl) rfl ?_
                  refine x_lload dX7_houseOf_118 rfl ?_
                  refine x_lload dX7_houseOf_120 rfl ?_
                  refine x_aload_n dX7_houseOf_122 rfl ?_
                  refine x_lload dX7_houseOf_123 rfl ?_
                  refine x_aload_n dX7_houseOf_125 rfl ?_
                  refine x_get dX7_houseOf_126 0 2 inX7 fl_X7_27 rfl rfl (by decide) rfl ?_
                  refine x_iload dX7_houseOf_129 rfl ?_
                  refine x_iload dX7_houseOf_131 rfl ?_
                  refine x_cVi0 dX7_houseOf_133 ml_X7_62 mX0_winnersAt (ct_X0_winnersAt κ.2.1 g aC aS aL aO aV aCs aCl aCh aCw aCc aCb tot lat se sw cr th tw 2 i (by omega) (by decide)) [3, 4, 5, 6] rfl rfl 3 rfl rfl rfl (Nat.le_of_ble_eq_true rfl) (by decide) (Nat.le_refl _) (Nat.le_refl _) ?_
                  refine x_lload dX7_houseOf_136 rfl ?_
                  refine x_cVl0 dX7_houseOf_138 ml_X7_66 mX7_oneGets (ct_X7_oneGets κ.2.1 g aW aS aL aC aO aWs aWt aSk aSm aSp aSt aSc aSr aSe gr br cs wk z ru (partL ru 2 (potL ru ((nI (ru 7)).toInt64) ((nI tot).toInt64))) (ovS 2 (crL (tkF cr n tot)) i) (wnA cr th tw 2 i)) [0, 1, 2] rfl rfl 0 rfl rfl rfl (Nat.le_of_ble_eq_true rfl) (by decide) (Nat.le_refl _) (Nat.le_refl _) ?_
                  refine x_lmul dX7_houseOf_141 ?_
                  refine x_ladd dX7_houseOf_142 ?_
                  refine x_lstore (lv' := [some (.ref aW), some (.int (nI n)), some (.long (potL ru ((nI (ru 7)).toInt64) ((nI tot).toInt64))), none, some (.long ((0 + hsI ru (wkPot ru tot) cr th tw (crL (tkF cr n tot)) 4 495 + hsI ru (wkPot ru tot) cr th tw (crL (tkF cr n tot)) 3 495 + hsI ru (wkPot ru tot) cr th tw (crL (tkF cr n tot)) 2 i) + ((ovS 2 (crL (tkF cr n tot)) i) * (oneG ru (partL ru 2 (potL ru ((nI (ru 7)).toInt64) ((nI tot).toInt64))) (wnA cr th tw 2 i) (ovS 2 (crL (tkF cr n tot)) i))))), none, some (.int 2), some (.long (partL ru 2 (potL ru ((nI (ru 7)).toInt64) ((nI tot).toInt64)))), none, some (.int (nI i)), some (.long (ovS 2 (crL (tkF cr n tot)) i)), none]) dX7_houseOf_143 (xlt rfl) rfl ?_
                  refine x_iinc (lv' := [some (.ref aW), some (.int (nI n)), some (.long (potL ru ((nI (ru 7)).toInt64) ((nI tot).toInt64))), none, some (.long ((0 + hsI ru (wkPot ru tot) cr th tw (crL (tkF cr n tot)) 4 495 + hsI ru (wkPot ru tot) cr th tw (crL (tkF cr n tot)) 3 495 + hsI ru (wkPot ru tot) cr th tw (crL (tkF cr n tot)) 2 i) + ((ovS 2 (crL (tkF cr n tot)) i) * (oneG ru (partL ru 2 (potL ru ((nI (ru 7)).toInt64) ((nI tot).toInt64))) (wnA cr th tw 2 i) (ovS 2 (crL (tkF cr n tot)) i))))), none, some (.int 2), some (.long (partL ru 2 (potL ru ((nI (ru 7)).toInt64) ((nI tot).toInt64)))), none, some (.int (nI (i + 1))), some (.long (ovS 2 (crL (tkF cr n tot)) i)), none]) (nI (i + 1)) dX7_houseOf_145 rfl (nI_addc i 1 rfl) rfl ?_
                  refine x_goto dX7_houseOf_148 ?_
                  refine x_fgt (lv' := [some (.ref aW), some (.int (nI n)), some (.long (potL ru ((nI (ru 7)).toInt64) ((nI tot).toInt64))), none, some (.long ((0 + hsI ru (wkPot ru tot) cr th tw (crL (tkF cr n tot)) 4 495 + hsI ru (wkPot ru tot) cr th tw (crL (tkF cr n tot)) 3 495 + hsI ru (wkPot ru tot) cr th tw (crL (tkF cr n tot)) 2 i) + ((ovS 2 (crL (tkF cr n tot)) i) * (oneG ru (partL ru 2 (potL ru ((nI (ru 7)).toInt64) ((nI tot).toInt64))) (wnA cr th tw 2 i) (ovS 2 (crL (tkF cr n tot)) i))))), none, some (.int 2), some (.long (partL ru 2 (potL ru ((nI (ru 7)).toInt64) ((nI tot).toInt64)))), none, some (.int (nI (i + 1))), none, none]) ⟨Or.inr rfl, Or.inr rfl, Or.inr rfl, Or.inl rfl, Or.inr rfl, Or.inl rfl, Or.inr rfl, Or.inr rfl, Or.inl rfl, Or.inr rfl, Or.inl rfl, Or.inl rfl, trivial⟩ ?_
                  exact ih97 (by omega) _ (by exact accL _ _ _) (mkR (rowB i))
              exact L97_5 0 (Nat.zero_le _) _ (by simp [hsI, sumL]) mq
            · have c102 : ¬ (495 ≤ (nI i)) := c102
              have c102n := mt (nI_leI (a := 495) (b := i) (by omega) (by omega)).mpr c102
              refine x_aload_n dX7_houseOf_105 rfl ?_
              refine x_get dX7_houseOf_106 0 3 inX7 fl_X7_31 rfl rfl (by decide) rfl ?_
              refine x_iload dX7_houseOf_109 rfl ?_
              refine x_iload dX7_houseOf_111 rfl ?_
              refine x_cVl (ws' := [(aW, .inr (7, [.ref aS, .ref aL, .ref aC, .ref aO, .ref aWs, .ref aWt])), (aS, .inr (6, [.ref aSk, .ref aSm, .ref aSp, .ref aSt, .ref aSc, .ref aSr, .ref aSe, .int (nI gr), .int (nI br), .int (nI cs), .int (nI wk), .int z])), (aSr, .inl (g.2.1 0, 8, .inl (nIf ru))), (aC, .inr (0, [.ref aS, .ref aL, .ref aV, .ref aO, .ref aCs, .ref aCl, .ref aCh, .ref aCw, .ref aCc, .ref aCb, .int (nI tot), .int (nI lat), .int se, .int sw])), (aCc, .inl (g.2.1 0, 495, .inl (nIf cr))), (aCh, .inl (g.2.1 0, 495, .inl (nIf th))), (aCw, .inl (g.2.1 0, 495, .inl (nIf tw))), (aL, .inr (5, [.ref aLb, .ref aLp])), (aLp, .inl (g.2.1 0, 495, .inl (nIf packB))), (aO, .inr (3, [.ref aOv, .ref aOs, .ref aOm, .ref aL])), (aOv, .inl (g.2.1 2, 495, .inr (.inl (crL (tkF cr n tot))))), (aOs, .inl (g.2.1 2, 286, .inr (.inl (gsT (crL (tkF cr n tot)) 495)))), (aOm, .inl (g.2.1 0, 10, .inl (nIf (mkR (rowB i))))), (aWt, .inl (g.2.1 0, 495, .inl (nIf (tkF cr n tot))))]) dX7_houseOf_113 ml_X7_93 mX3_ofRank (ct_ofRank_3 κ.2.1 g aO aOv aOs aOm aL aLb aLp (crL (tkF cr n tot)) (gsT (crL (tkF cr n tot)) 495) mq i (by omega)) [9, 10, 11, 12, 7, 8] rfl rfl 9 rfl rfl rfl (Nat.le_of_ble_eq_true rfl) (by decide) (Nat.le_refl _) (Nat.le_refl _) (rfl : [aO, aOv, aOs, aOm, aL, aLp] = [aO, aOv, aOs, aOm, aL, aLp]) rfl ?_
              refine x_rel (ovS 3 (crL (tkF cr n tot)) i) (ov3_id _ (by omega)) ?_
              refine x_lstore (lv' := [some (.ref aW), some (.int (nI n)), some (.long (potL ru ((nI (ru 7)).toInt64) ((nI tot).toInt64))), none, some (.long (0 + hsI ru (wkPot ru tot) cr th tw (crL (tkF cr n tot)) 4 495 + hsI ru (wkPot ru tot) cr th tw (crL (tkF cr n tot)) 3 i)), none, some (.int 3), some (.long (partL ru 3 (potL ru ((nI (ru 7)).toInt64) ((nI tot).toInt64)))), none, some (.int (nI i)), some (.long (ovS 3 (crL (tkF cr n tot)) i)), none]) dX7_houseOf_116 (xlt rfl) rfl ?_
              refine x_lload dX7_houseOf_118 rfl ?_
              refine x_lload dX7_houseOf_120 rfl ?_
              refine x_aload_n dX7_houseOf_122 rfl ?_
              refine x_lload dX7_houseOf_123 rfl ?_
              refine x_aload_n dX7_houseOf_125 rfl ?_
              refine x_get dX7_houseOf_126 0 2 inX7 fl_X7_27 rfl rfl (by decide) rfl ?_
              refine x_iload dX7_houseOf_129 rfl ?_
              refine x_iload dX7_houseOf_131 rfl ?_
              refine x_cVi0 dX7_houseOf_133 ml_X7_62 mX0_winnersAt (ct_X0_winnersAt κ.2.1 g aC aS aL aO aV aCs aCl aCh aCw aCc aCb tot lat se sw cr th tw 3 i (by omega) (by decide)) [3, 4, 5, 6] rfl rfl 3 rfl rfl rfl (Nat.le_of_ble_eq_true rfl) (by decide) (Nat.le_refl _) (Nat.le_refl _) ?_
              refine x_lload dX7_houseOf_136 rfl ?_
              refine x_cVl0 dX7_houseOf_138 ml_X7_66 mX7_oneGets (ct_X7_oneGets κ.2.1 g aW aS aL aC aO aWs aWt aSk aSm aSp aSt aSc aSr aSe gr br cs wk z ru (partL ru 3 (potL ru ((nI (ru 7)).toInt64) ((nI tot).toInt64))) (ovS 3 (crL (tkF cr n tot)) i) (wnA cr th tw 3 i)) [0, 1, 2] rfl rfl 0 rfl rfl rfl (Nat.le_of_ble_eq_true rfl) (by decide) (Nat.le_refl _) (Nat.le_refl _) ?_
              refine x_lmul dX7_houseOf_141 ?_
              refine x_ladd dX7_houseOf_142 ?_
              refine x_lstore (lv' := [some (.ref aW), some (.int (nI n)), some (.long (potL ru ((nI (ru 7)).toInt64) ((nI tot).toInt64))), none, some (.long ((0 + hsI ru (wkPot ru tot) cr th tw (crL (tkF cr n tot)) 4 495 + hsI ru (wkPot ru tot) cr th tw (crL (tkF cr n tot)) 3 i) + ((ovS 3 (crL (tkF cr n tot)) i) * (oneG ru (partL ru 3 (potL ru ((nI (ru 7)).toInt64) ((nI tot).toInt64))) (wnA cr th tw 3 i) (ovS 3 (crL (tkF cr n tot)) i))))), none, some (.int 3), some (.long (partL ru 3 (potL ru ((nI (ru 7)).toInt64) ((nI tot).toInt64)))), none, some (.int (nI i)), some (.long (ovS 3 (crL (tkF cr n tot)) i)), none]) dX7_houseOf_143 (xlt rfl) rfl ?_
              refine x_iinc (lv' := [some (.ref aW), some (.int (nI n)), some (.long (potL ru ((nI (ru 7)).toInt64) ((nI tot).toInt64))), none, some (.long ((0 + hsI ru (wkPot ru tot) cr th tw (crL (tkF cr n tot)) 4 495 + hsI ru (wkPot ru tot) cr th tw (crL (tkF cr n tot)) 3 i) + ((ovS 3 (crL (tkF cr n tot)) i) * (oneG ru (partL ru 3 (potL ru ((nI (ru 7)).toInt64) ((nI tot).toInt64))) (wnA cr th tw 3 i) (ovS 3 (crL (tkF cr n tot)) i))))), none, some (.int 3), some (.long (partL ru 3 (potL ru ((nI (ru 7)).toInt64) ((nI tot).toInt64)))), none, some (.int (nI (i + 1))), some (.long (ovS 3 (crL (tkF cr n tot)) i)), none]) (nI (i + 1)) dX7_houseOf_145 rfl (nI_addc i 1 rfl) rfl ?_
              refine x_goto dX7_houseOf_148 ?_
              refine x_fgt (lv' := [some (.ref aW), some (.int (nI n)), some (.long (potL ru ((nI (ru 7)).toInt64) ((nI tot).toInt64))), none, some (.long ((0 + hsI ru (wkPot ru tot) cr th tw (crL (tkF cr n tot)) 4 495 + hsI ru (wkPot ru tot) cr th tw (crL (tkF cr n tot)) 3 i) + ((ovS 3 (crL (tkF cr n tot)) i) * (oneG ru (partL ru 3 (potL ru ((nI (ru 7)).toInt64) ((nI tot).toInt64))) (wnA cr th tw 3 i) (ovS 3 (crL (tkF cr n tot)) i))))), none, some (.int 3), some (.long (partL ru 3 (potL ru ((nI (ru 7)).toInt64) ((nI tot).toInt64)))), none, some (.int (nI (i + 1))), none, none]) ⟨Or.inr rfl, Or.inr rfl, Or.inr rfl, Or.inl rfl, Or.inr rfl, Or.inl rfl, Or.inr rfl, Or.inr rfl, Or.inl rfl, Or.inr rfl, Or.inl rfl, Or.inl rfl, trivial⟩ ?_
              exact ih97 (by omega) _ (by exact accL _ _ _) (mkR (rowB i))
          exact L97_4 0 (Nat.zero_le _) _ (by simp [hsI, sumL]) z2
        · have c102 : ¬ (495 ≤ (nI i)) := c102
          have c102n := mt (nI_leI (a := 495) (b := i) (by omega) (by omega)).mpr c102
          refine x_aload_n dX7_houseOf_105 rfl ?_
          refine x_get dX7_houseOf_106 0 3 inX7 fl_X7_31 rfl rfl (by decide) rfl ?_
          refine x_iload dX7_houseOf_109 rfl ?_
          refine x_iload dX7_houseOf_111 rfl ?_
          refine x_cVl0 dX7_houseOf_113 ml_X7_93 mX3_ofRank (ct_ofRank_4 κ.2.1 g aO aOv aOs aOm aL aLb aLp (crL (tkF cr n tot)) (gsT (crL (tkF cr n tot)) 495) z2 i (by omega)) [9, 10, 11, 12, 7, 8] rfl rfl 9 rfl rfl rfl (Nat.le_of_ble_eq_true rfl) (by decide) (Nat.le_refl _) (Nat.le_refl _) ?_
          refine x_rel (ovS 4 (crL (tkF cr n tot)) i) (ov4_id _ (by omega)) ?_
          refine x_lstore (lv' := [some (.ref aW), some (.int (nI n)), some (.long (potL ru ((nI (ru 7)).toInt64) ((nI tot).toInt64))), none, some (.long (0 + hsI ru (wkPot ru tot) cr th tw (crL (tkF cr n tot)) 4 i)), none, some (.int 4), some (.long (partL ru 4 (potL ru ((nI (ru 7)).toInt64) ((nI tot).toInt64)))), none, some (.int (nI i)), some (.long (ovS 4 (crL (tkF cr n tot)) i)), none]) dX7_houseOf_116 (xlt rfl) rfl ?_
          refine x_lload dX7_houseOf_118 rfl ?_
          refine x_lload dX7_houseOf_120 rfl ?_
          refine x_aload_n dX7_houseOf_122 rfl ?_
          refine x_lload dX7_houseOf_123 rfl ?_
          refine x_aload_n dX7_houseOf_125 rfl ?_
          refine x_get dX7_houseOf_126 0 2 inX7 fl_X7_27 rfl rfl (by decide) rfl ?_
          refine x_iload dX7_houseOf_129 rfl ?_
          refine x_iload dX7_houseOf_131 rfl ?_
          refine x_cVi0 dX7_houseOf_133 ml_X7_62 mX0_winnersAt (ct_X0_winnersAt κ.2.1 g aC aS aL aO aV aCs aCl aCh aCw aCc aCb tot lat se sw cr th tw 4 i (by omega) (by decide)) [3, 4, 5, 6] rfl rfl 3 rfl rfl rfl (Nat.le_of_ble_eq_true rfl) (by decide) (Nat.le_refl _) (Nat.le_refl _) ?_
          refine x_lload dX7_houseOf_136 rfl ?_
          refine x_cVl0 dX7_houseOf_138 ml_X7_66 mX7_oneGets (ct_X7_oneGets κ.2.1 g aW aS aL aC aO aWs aWt aSk aSm aSp aSt aSc aSr aSe gr br cs wk z ru (partL ru 4 (potL ru ((nI (ru 7)).toInt64) ((nI tot).toInt64))) (ovS 4 (crL (tkF cr n tot)) i) (wnA cr th tw 4 i)) [0, 1, 2] rfl rfl 0 rfl rfl rfl (Nat.le_of_ble_eq_true rfl) (by decide) (Nat.le_refl _) (Nat.le_refl _) ?_
          refine x_lmul dX7_houseOf_141 ?_
          refine x_ladd dX7_houseOf_142 ?_
          refine x_lstore (lv' := [some (.ref aW), some (.int (nI n)), some (.long (potL ru ((nI (ru 7)).toInt64) ((nI tot).toInt64))), none, some (.long ((0 + hsI ru (wkPot ru tot) cr th tw (crL (tkF cr n tot)) 4 i) + ((ovS 4 (crL (tkF cr n tot)) i) * (oneG ru (partL ru 4 (potL ru ((nI (ru 7)).toInt64) ((nI tot).toInt64))) (wnA cr th tw 4 i) (ovS 4 (crL (tkF cr n tot)) i))))), none, some (.int 4), some (.long (partL ru 4 (potL ru ((nI (ru 7)).toInt64) ((nI tot).toInt64)))), none, some (.int (nI i)), some (.long (ovS 4 (crL (tkF cr n tot)) i)), none]) dX7_houseOf_143 (xlt rfl) rfl ?_
          refine x_iinc (lv' := [some (.ref aW), some (.int (nI n)), some (.long (potL ru ((nI (ru 7)).toInt64) ((nI tot).toInt64))), none, some (.long ((0 + hsI ru (wkPot ru tot) cr th tw (crL (tkF cr n tot)) 4 i) + ((ovS 4 (crL (tkF cr n tot)) i) * (oneG ru (partL ru 4 (potL ru ((nI (ru 7)).toInt64) ((nI tot).toInt64))) (wnA cr th tw 4 i) (ovS 4 (crL (tkF cr n tot)) i))))), none, some (.int 4), some (.long (partL ru 4 (potL ru ((nI (ru 7)).toInt64) ((nI tot).toInt64)))), none, some (.int (nI (i + 1))), some (.long (ovS 4 (crL (tkF cr n tot)) i)), none]) (nI (i + 1)) dX7_houseOf_145 rfl (nI_addc i 1 rfl) rfl ?_
          refine x_goto dX7_houseOf_148 ?_
          refine x_fgt (lv' := [some (.ref aW), some (.int (nI n)), some (.long (potL ru ((nI (ru 7)).toInt64) ((nI tot).toInt64))), none, some (.long ((0 + hsI ru (wkPot ru tot) cr th tw (crL (tkF cr n tot)) 4 i) + ((ovS 4 (crL (tkF cr n tot)) i) * (oneG ru (partL ru 4 (potL ru ((nI (ru 7)).toInt64) ((nI tot).toInt64))) (wnA cr th tw 4 i) (ovS 4 (crL (tkF cr n tot)) i))))), none, some (.int 4), some (.long (partL ru 4 (potL ru ((nI (ru 7)).toInt64) ((nI tot).toInt64)))), none, some (.int (nI (i + 1))), none, none]) ⟨Or.inr rfl, Or.inr rfl, Or.inr rfl, Or.inl rfl, Or.inr rfl, Or.inl rfl, Or.inr rfl, Or.inr rfl, Or.inl rfl, Or.inr rfl, Or.inl rfl, Or.inl rfl, trivial⟩ ?_
          exact ih97 (by omega) _ (by exact accL _ _ _)
      exact L97_3 0 (Nat.zero_le _) _ (by simp [hsI, sumL])
    · have c11 : ¬ (495 ≤ (nI i)) := c11
      have c11n := mt (nI_leI (a := 495) (b := i) (by omega) (by omega)).mpr c11
      refine x_aload_n dX7_houseOf_14 rfl ?_
      refine x_get dX7_houseOf_15 0 3 inX7 fl_X7_31 rfl rfl (by decide) rfl ?_
      refine x_get dX7_houseOf_18 9 0 inX3 fl_X7_85 rfl rfl (by decide) rfl ?_
      refine x_iload_n dX7_houseOf_21 rfl ?_
      refine x_aload_n dX7_houseOf_22 rfl ?_
      refine x_get dX7_houseOf_23 0 5 inX7 fl_X7_15 rfl rfl (by decide) rfl ?_
      refine x_iload_n dX7_houseOf_26 rfl ?_
      refine x_iald dX7_houseOf_27 13 i rfl (rfl) (by omega) (by decide) ?_
      refine x_i2l dX7_houseOf_28 ?_
      refine x_last (ws' := [(aW, .inr (7, [.ref aS, .ref aL, .ref aC, .ref aO, .ref aWs, .ref aWt])), (aS, .inr (6, [.ref aSk, .ref aSm, .ref aSp, .ref aSt, .ref aSc, .ref aSr, .ref aSe, .int (nI gr), .int (nI br), .int (nI cs), .int (nI wk), .int z])), (aSr, .inl (g.2.1 0, 8, .inl (nIf ru))), (aC, .inr (0, [.ref aS, .ref aL, .ref aV, .ref aO, .ref aCs, .ref aCl, .ref aCh, .ref aCw, .ref aCc, .ref aCb, .int (nI tot), .int (nI lat), .int se, .int sw])), (aCc, .inl (g.2.1 0, 495, .inl (nIf cr))), (aCh, .inl (g.2.1 0, 495, .inl (nIf th))), (aCw, .inl (g.2.1 0, 495, .inl (nIf tw))), (aL, .inr (5, [.ref aLb, .ref aLp])), (aLp, .inl (g.2.1 0, 495, .inl (nIf packB))), (aO, .inr (3, [.ref aOv, .ref aOs, .ref aOm, .ref aL])), (aOv, .inl (g.2.1 2, 495, .inr (.inl (vp_updL (fillT i (crL (tkF cr n tot)) va) i ((nI ((tkF cr n tot) i)).toInt64))))), (aOs, .inl (g.2.1 2, 286, .inr (.inl su))), (aOm, .inl (g.2.1 0, 10, .inl (nIf mk))), (aWt, .inl (g.2.1 0, 495, .inl (nIf (tkF cr n tot))))]) dX7_houseOf_29 10 i rfl (rfl) (by omega) (by decide) rfl ?_
      refine x_iinc (lv' := [some (.ref aW), some (.int (nI n)), some (.int (nI (i + 1))), none, none, none, none, none, none, none, none, none]) (nI (i + 1)) dX7_houseOf_30 rfl (nI_addc i 1 rfl) rfl ?_
      refine x_goto dX7_houseOf_33 ?_
      exact ih7 (by omega) _ (by exact fillT_updL i (crL (tkF cr n tot)) va)
  exact L7_1 0 (Nat.zero_le _) _ (by exact (fillT_0 _ _).symm)

