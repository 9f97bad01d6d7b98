theorem nI_nem1 {q : Nat} (h : q < 2 ^ 31) : ¬ nI q = -1 := fun e => by
  have := congrArg Int32.toInt e
  rw [nI_toInt h] at this
  have h2 : (-1 : Int32).toInt = -1 := rfl
  rw [h2] at this; omega
def dueN (dr : Nat → Nat) (n wk : Nat) : Nat := fa_first (fun s => bitN (dr (wk - 1 - s)) n == 1) wk
theorem sumB_le (dr : Nat → Nat) (n wk : Nat) : sumN (fun w => bitN (dr w) n) wk ≤ wk := by
  have h : sumN (fun w => bitN (dr w) n) wk ≤ wk * 1 := sumN_le (fun k _ => by have := bitN_lt (dr k) n; show bitN (dr k) n ≤ 1; omega)
  omega
def drmL (dr : Nat → Nat) (wk : Nat) : Nat → Int64 := sumL (fun n => ((nI (sumN (fun w => bitN (dr w) n) wk)).toInt64 * 12 - (nI wk).toInt64 * 4) * ((nI (sumN (fun w => bitN (dr w) n) wk)).toInt64 * 12 - (nI wk).toInt64 * 4))
def rtwI (ce : Nat → Int32) (dr : Nat → Nat) (n wk : Nat) (fl : Int32) : Int32 := sumI (fun w => if nI (bitN (dr w) n) = fl then ce (w * 8 + 3) else 0) wk

-- == X8_holdWeek ==
theorem dX8_holdWeek_0 : xd cX8_holdWeek 0 (.aload_n 0) 1 1 := ⟨by decide +kernel, rfl⟩
theorem dX8_holdWeek_1 : xd cX8_holdWeek 1 (.getfield 36) 3 4 := ⟨by decide +kernel, rfl⟩
theorem dX8_holdWeek_4 : xd cX8_holdWeek 4 (.invokevirtual 114) 3 7 := ⟨by decide +kernel, rfl⟩
theorem dX8_holdWeek_7 : xd cX8_holdWeek 7 (.aload_n 0) 1 8 := ⟨by decide +kernel, rfl⟩
theorem dX8_holdWeek_8 : xd cX8_holdWeek 8 (.getfield 10) 3 11 := ⟨by decide +kernel, rfl⟩
theorem dX8_holdWeek_11 : xd cX8_holdWeek 11 (.iload_n 1) 1 12 := ⟨by decide +kernel, rfl⟩
theorem dX8_holdWeek_12 : xd cX8_holdWeek 12 (.aload_n 0) 1 13 := ⟨by decide +kernel, rfl⟩
theorem dX8_holdWeek_13 : xd cX8_holdWeek 13 (.getfield 36) 3 16 := ⟨by decide +kernel, rfl⟩
theorem dX8_holdWeek_16 : xd cX8_holdWeek 16 (.invokevirtual 291) 3 19 := ⟨by decide +kernel, rfl⟩
theorem dX8_holdWeek_19 : xd cX8_holdWeek 19 (.aload_n 0) 1 20 := ⟨by decide +kernel, rfl⟩
theorem dX8_holdWeek_20 : xd cX8_holdWeek 20 (.getfield 36) 3 23 := ⟨by decide +kernel, rfl⟩
theorem dX8_holdWeek_23 : xd cX8_holdWeek 23 (.invokevirtual 104) 3 26 := ⟨by decide +kernel, rfl⟩
theorem dX8_holdWeek_26 : xd cX8_holdWeek 26 .return_ 1 27 := ⟨by decide +kernel, rfl⟩

set_option maxRecDepth 100000 in
set_option maxHeartbeats 4000000 in
theorem ct_X8_holdWeek (l : Launch) (g : XG) (aM aK aW aR aT aH aF ts : Nat) (kp : Int32) (aC aS aL aV aO aCs aCl aCh aCw aCc aCb tot lat : Nat) (se sw : Int32) (aLb aLp aVs aSk aSm aSp aSt aSc aSr aSe gr br cs wk : Nat) (z : Int32) (sd li cr ki ma bp bt : Nat → Nat) (co ce sk : Nat → Int32) (V : Nat → Int32) (L : Nat) (ru by_ : Nat → Nat) (d : Nat) (hgr : gr ≤ 12) (hbr : br ≤ 40) (hcs : cs ≤ 60) (hwk : wk ≤ 40) (hki : ∀ j, ki j ≤ 7) (hma : ∀ j, ma j ≤ 99999) (hbp : ∀ j, bp j < 495) (hlat : latI ce wk = nI L) (hL : L < 4096) (hV : cs ≠ 0 → ∀ p, p < 495 → evR (nmI wk L p) (cdF co 0 cs) [] = some [V p]) (hse : se = 0 ∨ (se = 1 ∧ sd = sdF cs V ∧ cr = crF gr ki ma bp bt br L (sdF cs V) ∧ tot = totF gr ki ma bp bt br L (sdF cs V) ∧ lat = L)) (hw4 : wk < 40) (hd : d < 4096) : Ct l g 8 0 0 yX8_holdWeek cX8_holdWeek 2 none [.ref aM, .int (nI d)] [(aM, .inr (8, [.ref aS, .ref aK, .ref aL, .ref aC, .ref aW, .ref aR, .ref aT, .ref aH, .ref aF, .int (nI ts), .int kp])), (aC, .inr (0, [.ref aS, .ref aL, .ref aV, .ref aO, .ref aCs, .ref aCl, .ref aCh, .ref aCw, .ref aCc, .ref aCb, .int (nI tot), .int (nI lat), .int se, .int sw])), (aCs, .inl (g.2.1 0, 495, .inl (nIf sd))), (aCl, .inl (g.2.1 0, 495, .inl (nIf li))), (aCc, .inl (g.2.1 0, 495, .inl (nIf cr))), (aL, .inr (5, [.ref aLb, .ref aLp])), (aLb, .inl (g.2.1 0, 495, .inl (nIf rowB))), (aLp, .inl (g.2.1 0, 495, .inl (nIf packB))), (aV, .inr (2, [.ref aS, .ref aVs])), (aVs, .inl (g.2.1 0, 60, .inl sk)), (aS, .inr (6, [.ref aSk, .ref aSm, .ref aSp, .ref aSt, .ref aSc, .ref aSr, .ref aSe, .int (nI gr), .int (nI br), .int (nI cs), .int (nI wk), .int z])), (aSk, .inl (g.2.1 0, 12, .inl (nIf ki))), (aSm, .inl (g.2.1 0, 12, .inl (nIf ma))), (aSp, .inl (g.2.1 0, 40, .inl (nIf bp))), (aSt, .inl (g.2.1 0, 40, .inl (nIf bt))), (aSc, .inl (g.2.1 0, 60, .inl co)), (aSe, .inl (g.2.1 0, 320, .inl ce)), (aSr, .inl (g.2.1 0, 8, .inl (nIf ru))), (aCb, .inl (g.2.1 0, 5, .inl (nIf by_)))] (fun vv_ ww_ => ∃ (li2 : Nat → Nat) (sk2 : Nat → Int32), vv_ = none ∧ ww_ = [(aM, .inr (8, [.ref aS, .ref aK, .ref aL, .ref aC, .ref aW, .ref aR, .ref aT, .ref aH, .ref aF, .int (nI ts), .int kp])), (aC, .inr (0, [.ref aS, .ref aL, .ref aV, .ref aO, .ref aCs, .ref aCl, .ref aCh, .ref aCw, .ref aCc, .ref aCb, .int (nI (totF gr ki ma bp bt br L (sdF cs V))), .int (nI L), .int 0, .int 0])), (aCs, .inl (g.2.1 0, 495, .inl (nIf (sdF cs V)))), (aCl, .inl (g.2.1 0, 495, .inl (nIf li2))), (aCc, .inl (g.2.1 0, 495, .inl (nIf (crF gr ki ma bp bt br L (sdF cs V))))), (aL, .inr (5, [.ref aLb, .ref aLp])), (aLb, .inl (g.2.1 0, 495, .inl (nIf rowB))), (aLp, .inl (g.2.1 0, 495, .inl (nIf packB))), (aV, .inr (2, [.ref aS, .ref aVs])), (aVs, .inl (g.2.1 0, 60, .inl sk2)), (aS, .inr (6, [.ref aSk, .ref aSm, .ref aSp, .ref aSt, .ref aSc, .ref aSr, .ref aSe, .int (nI gr), .int (nI br), .int (nI cs), .int (nI (wk + 1)), .int z])), (aSk, .inl (g.2.1 0, 12, .inl (nIf ki))), (aSm, .inl (g.2.1 0, 12, .inl (nIf ma))), (aSp, .inl (g.2.1 0, 40, .inl (nIf bp))), (aSt, .inl (g.2.1 0, 40, .inl (nIf bt))), (aSc, .inl (g.2.1 0, 60, .inl co)), (aSe, .inl (g.2.1 0, 320, .inl (wkCells ce wk ru (totF gr ki ma bp bt br L (sdF cs V)) (crF gr ki ma bp bt br L (sdF cs V)) d))), (aSr, .inl (g.2.1 0, 8, .inl (nIf (updN ru 7 (potE (wkLeft ru (totF gr ki ma bp bt br L (sdF cs V)) (crF gr ki ma bp bt br L (sdF cs V)) d)))))), (aCb, .inl (g.2.1 0, 5, .inl (nIf (winN (crF gr ki ma bp bt br L (sdF cs V)) d))))]) := by
  refine Ct.ofX (lv := [some (.ref aM), some (.int (nI d))]) (by decide) rfl (Nat.le_of_ble_eq_true rfl) (fun κ => ?_)
  generalize hQ : xQ κ g 0 0 _ = Q
  refine x_aload_n dX8_holdWeek_0 rfl ?_
  refine x_get dX8_holdWeek_1 0 3 inX8 fl_X8_36 rfl rfl (by decide) rfl ?_
  refine x_callV dX8_holdWeek_4 ml_X8_114 mX0_settle (ct_X0_settle κ.2.1 g aC aS aL aV aO aCs aCl aCh aCw aCc aCb tot lat se sw aLb aLp aVs aSk aSm aSp aSt aSc aSr aSe gr br cs wk z sd li cr ki ma bp bt co ce sk V L (hgr) (hbr) (hcs) (hwk) (hki) (hma) (hbp) (hlat) (hL) (hV) (hse)) [1, 2, 3, 4, 5, 6, 7, 8, 9, 10, 11, 12, 13, 14, 15, 16] rfl rfl 1 rfl rfl rfl (Nat.le_of_ble_eq_true rfl) (by decide) (Nat.le_refl _) (Nat.le_refl _) (fun vv ww hp => ?_)
  obtain ⟨z1, z2, rfl, rfl⟩ := hp
  refine ⟨(rfl : [aC, aCs, aCl, aCc, aL, aLb, aLp, aV, aVs, aS, aSk, aSm, aSp, aSt, aSc, aSe] = [aC, aCs, aCl, aCc, aL, aLb, aLp, aV, aVs, aS, aSk, aSm, aSp, aSt, aSc, aSe]), x_eq (lv' := [some (.ref aM), some (.int (nI d))]) (st' := []) (ws' := [(aM, .inr (8, [.ref aS, .ref aK, .ref aL, .ref aC, .ref aW, .ref aR, .ref aT, .ref aH, .ref aF, .int (nI ts), .int kp])), (aC, .inr (0, [.ref aS, .ref aL, .ref aV, .ref aO, .ref aCs, .ref aCl, .ref aCh, .ref aCw, .ref aCc, .ref aCb, .int (nI (totF gr ki ma bp bt br L (sdF cs V))), .int (nI L), .int 1, .int sw])), (aCs, .inl (g.2.1 0, 495, .inl (nIf (sdF cs V)))), (aCl, .inl (g.2.1 0, 495, .inl (nIf z1))), (aCc, .inl (g.2.1 0, 495, .inl (nIf (crF gr ki ma bp bt br L (sdF cs V))))), (aL, .inr (5, [.ref aLb, .ref aLp])), (aLb, .inl (g.2.1 0, 495, .inl (nIf rowB))), (aLp, .inl (g.2.1 0, 495, .inl (nIf packB))), (aV, .inr (2, [.ref aS, .ref aVs])), (aVs, .inl (g.2.1 0, 60, .inl z2)), (aS, .inr (6, [.ref aSk, .ref aSm, .ref aSp, .ref aSt, .ref aSc, .ref aSr, .ref aSe, .int (nI gr), .int (nI br), .int (nI cs), .int (nI wk), .int z])), (aSk, .inl (g.2.1 0, 12, .inl (nIf ki))), (aSm, .inl (g.2.1 0, 12, .inl (nIf ma))), (aSp, .inl (g.2.1 0, 40, .inl (nIf bp))), (aSt, .inl (g.2.1 0, 40, .inl (nIf bt))), (aSc, .inl (g.2.1 0, 60, .inl co)), (aSe, .inl (g.2.1 0, 320, .inl ce)), (aSr, .inl (g.2.1 0, 8, .inl (nIf ru))), (aCb, .inl (g.2.1 0, 5, .inl (nIf by_)))]) ?_ rfl rfl rfl⟩
  refine x_aload_n dX8_holdWeek_7 rfl ?_
  refine x_get dX8_holdWeek_8 0 0 inX8 fl_X8_10 rfl rfl (by decide) rfl ?_
  refine x_iload_n dX8_holdWeek_11 rfl ?_
  refine x_aload_n dX8_holdWeek_12 rfl ?_
  refine x_get dX8_holdWeek_13 0 3 inX8 fl_X8_36 rfl rfl (by decide) rfl ?_
  refine x_cVv (ws' := [(aM, .inr (8, [.ref aS, .ref aK, .ref aL, .ref aC, .ref aW, .ref aR, .ref aT, .ref aH, .ref aF, .int (nI ts), .int kp])), (aC, .inr (0, [.ref aS, .ref aL, .ref aV, .ref aO, .ref aCs, .ref aCl, .ref aCh, .ref aCw, .ref aCc, .ref aCb, .int (nI (totF gr ki ma bp bt br L (sdF cs V))), .int (nI L), .int 1, .int sw])), (aCs, .inl (g.2.1 0, 495, .inl (nIf (sdF cs V)))), (aCl, .inl (g.2.1 0, 495, .inl (nIf z1))), (aCc, .inl (g.2.1 0, 495, .inl (nIf (crF gr ki ma bp bt br L (sdF cs V))))), (aL, .inr (5, [.ref aLb, .ref aLp])), (aLb, .inl (g.2.1 0, 495, .inl (nIf rowB))), (aLp, .inl (g.2.1 0, 495, .inl (nIf packB))), (aV, .inr (2, [.ref aS, .ref aVs])), (aVs, .inl (g.2.1 0, 60, .inl z2)), (aS, .inr (6, [.ref aSk, .ref aSm, .ref aSp, .ref aSt, .ref aSc, .ref aSr, .ref aSe, .int (nI gr), .int (nI br), .int (nI cs), .int (nI (wk + 1)), .int z])), (aSk, .inl (g.2.1 0, 12, .inl (nIf ki))), (aSm, .inl (g.2.1 0, 12, .inl (nIf ma))), (aSp, .inl (g.2.1 0, 40, .inl (nIf bp))), (aSt, .inl (g.2.1 0, 40, .inl (nIf bt))), (aSc, .inl (g.2.1 0, 60, .inl co)), (aSe, .inl (g.2.1 0, 320, .inl (wkCells ce wk ru (totF gr ki ma bp bt br L (sdF cs V)) (crF gr ki ma bp bt br L (sdF cs V)) d))), (aSr, .inl (g.2.1 0, 8, .inl (nIf (updN ru 7 (potE (wkLeft ru (totF gr ki ma bp bt br L (sdF cs V)) (crF gr ki ma bp bt br L (sdF cs V)) d)))))), (aCb, .inl (g.2.1 0, 5, .inl (nIf (winN (crF gr ki ma bp bt br L (sdF cs V)) d))))]) dX8_holdWeek_16 ml_X8_291 mX6_enterWeek (ct_X6_enterWeek κ.2.1 g aC aS aL aV aO aCs aCl aCh aCw aCc aCb (totF gr ki ma bp bt br L (sdF cs V)) L 1 sw aSk aSm aSp aSt aSc aSr aSe gr br cs wk z ru ce aLb aLp (crF gr ki ma bp bt br L (sdF cs V)) by_ d (hw4) (hd)) [10, 17, 16, 1, 4, 18, 5, 6] rfl rfl 10 rfl rfl rfl (Nat.le_of_ble_eq_true rfl) (by decide) (Nat.le_refl _) (Nat.le_refl _) (rfl : [aS, aSr, aSe, aC, aCc, aCb, aL, aLb] = [aS, aSr, aSe, aC, aCc, aCb, aL, aLb]) rfl ?_
  refine x_aload_n dX8_holdWeek_19 rfl ?_
  refine x_get dX8_holdWeek_20 0 3 inX8 fl_X8_36 rfl rfl (by decide) rfl ?_
  refine x_cVv (ws' := [(aM, .inr (8, [.ref aS, .ref aK, .ref aL, .ref aC, .ref aW, .ref aR, .ref aT, .ref aH, .ref aF, .int (nI ts), .int kp])), (aC, .inr (0, [.ref aS, .ref aL, .ref aV, .ref aO, .ref aCs, .ref aCl, .ref aCh, .ref aCw, .ref aCc, .ref aCb, .int (nI (totF gr ki ma bp bt br L (sdF cs V))), .int (nI L), .int 0, .int 0])), (aCs, .inl (g.2.1 0, 495, .inl (nIf (sdF cs V)))), (aCl, .inl (g.2.1 0, 495, .inl (nIf z1))), (aCc, .inl (g.2.1 0, 495, .inl (nIf (crF gr ki ma bp bt br L (sdF cs V))))), (aL, .inr (5, [.ref aLb, .ref aLp])), (aLb, .inl (g.2.1 0, 495, .inl (nIf rowB))), (aLp, .inl (g.2.1 0, 495, .inl (nIf packB))), (aV, .inr (2, [.ref aS, .ref aVs])), (aVs, .inl (g.2.1 0, 60, .inl z2)), (aS, .inr (6, [.ref aSk, .ref aSm, .ref aSp, .ref aSt, .ref aSc, .ref aSr, .ref aSe, .int (nI gr), .int (nI br), .int (nI cs), .int (nI (wk + 1)), .int z])), (aSk, .inl (g.2.1 0, 12, .inl (nIf ki))), (aSm, .inl (g.2.1 0, 12, .inl (nIf ma))), (aSp, .inl (g.2.1 0, 40, .inl (nIf bp))), (aSt, .inl (g.2.1 0, 40, .inl (nIf bt))), (aSc, .inl (g.2.1 0, 60, .inl co)), (aSe, .inl (g.2.1 0, 320, .inl (wkCells ce wk ru (totF gr ki ma bp bt br L (sdF cs V)) (crF gr ki ma bp bt br L (sdF cs V)) d))), (aSr, .inl (g.2.1 0, 8, .inl (nIf (updN ru 7 (potE (wkLeft ru (totF gr ki ma bp bt br L (sdF cs V)) (crF gr ki ma bp bt br L (sdF cs V)) d)))))), (aCb, .inl (g.2.1 0, 5, .inl (nIf (winN (crF gr ki ma bp bt br L (sdF cs V)) d))))]) dX8_holdWeek_23 ml_X8_104 mX0_stir (ct_X0_stir κ.2.1 g aC aS aL aV aO aCs aCl aCh aCw aCc aCb (totF gr ki ma bp bt br L (sdF cs V)) L 1 sw) [1] rfl rfl 1 rfl rfl rfl (Nat.le_of_ble_eq_true rfl) (by decide) (Nat.le_refl _) (Nat.le_refl _) (rfl : [aC] = [aC]) rfl ?_
  rw [← hQ]
  refine x_vret dX8_holdWeek_26 rfl (Nat.le_of_ble_eq_true rfl) (Nat.le_of_ble_eq_true rfl) ?_
  exact ⟨_, _, rfl, rfl⟩

-- == likes_b ==
theorem dX8_likes_0 : xd cX8_likes 0 (.aload_n 0) 1 1 := ⟨by decide +kernel, rfl⟩
theorem dX8_likes_1 : xd cX8_likes 1 (.iload_n 1) 1 2 := ⟨by decide +kernel, rfl⟩
theorem dX8_likes_2 : xd cX8_likes 2 (.invokevirtual 107) 3 5 := ⟨by decide +kernel, rfl⟩
theorem dX8_likes_5 : xj cX8_likes 5 (.ifCond .eq) 8 15 := ⟨10, by decide +kernel, rfl, by decide⟩
theorem dX8_likes_8 : xd cX8_likes 8 (.iload_n 2) 1 9 := ⟨by decide +kernel, rfl⟩
theorem dX8_likes_9 : xd cX8_likes 9 (.invokestatic 82) 3 12 := ⟨by decide +kernel, rfl⟩
theorem dX8_likes_12 : xj cX8_likes 12 (.ifCond .ne) 15 21 := ⟨9, by decide +kernel, rfl, by decide⟩
theorem dX8_likes_15 : xd cX8_likes 15 (.aload_n 0) 1 16 := ⟨by decide +kernel, rfl⟩
theorem dX8_likes_16 : xd cX8_likes 16 (.iconst 0) 1 17 := ⟨by decide +kernel, rfl⟩
theorem dX8_likes_17 : xd cX8_likes 17 (.invokevirtual 79) 3 20 := ⟨by decide +kernel, rfl⟩
theorem dX8_likes_20 : xd cX8_likes 20 .ireturn 1 21 := ⟨by decide +kernel, rfl⟩
theorem dX8_likes_21 : xd cX8_likes 21 (.aload_n 0) 1 22 := ⟨by decide +kernel, rfl⟩
theorem dX8_likes_22 : xd cX8_likes 22 (.getfield 36) 3 25 := ⟨by decide +kernel, rfl⟩
theorem dX8_likes_25 : xd cX8_likes 25 (.invokevirtual 114) 3 28 := ⟨by decide +kernel, rfl⟩
theorem dX8_likes_28 : xd cX8_likes 28 (.aload_n 0) 1 29 := ⟨by decide +kernel, rfl⟩
theorem dX8_likes_29 : xd cX8_likes 29 (.getfield 36) 3 32 := ⟨by decide +kernel, rfl⟩
theorem dX8_likes_32 : xd cX8_likes 32 (.aload_n 0) 1 33 := ⟨by decide +kernel, rfl⟩
theorem dX8_likes_33 : xd cX8_likes 33 (.getfield 10) 3 36 := ⟨by decide +kernel, rfl⟩
theorem dX8_likes_36 : xd cX8_likes 36 (.getfield 98) 3 39 := ⟨by decide +kernel, rfl⟩
theorem dX8_likes_39 : xd cX8_likes 39 (.iload_n 1) 1 40 := ⟨by decide +kernel, rfl⟩
theorem dX8_likes_40 : xd cX8_likes 40 .iaload 1 41 := ⟨by decide +kernel, rfl⟩
theorem dX8_likes_41 : xd cX8_likes 41 (.aload_n 0) 1 42 := ⟨by decide +kernel, rfl⟩
theorem dX8_likes_42 : xd cX8_likes 42 (.getfield 10) 3 45 := ⟨by decide +kernel, rfl⟩
theorem dX8_likes_45 : xd cX8_likes 45 (.getfield 101) 3 48 := ⟨by decide +kernel, rfl⟩
theorem dX8_likes_48 : xd cX8_likes 48 (.iload_n 1) 1 49 := ⟨by decide +kernel, rfl⟩
theorem dX8_likes_49 : xd cX8_likes 49 .iaload 1 50 := ⟨by decide +kernel, rfl⟩
theorem dX8_likes_50 : xd cX8_likes 50 (.iload_n 2) 1 51 := ⟨by decide +kernel, rfl⟩
theorem dX8_likes_51 : xd cX8_likes 51 (.invokevirtual 117) 3 54 := ⟨by decide +kernel, rfl⟩
theorem dX8_likes_54 : xd cX8_likes 54 .ireturn 1 55 := ⟨by decide +kernel, rfl⟩

set_option maxRecDepth 100000 in
set_option maxHeartbeats 4000000 in
theorem ct_likes_b (l : Launch) (g : XG) (aM aS aK aL aC aW aR aT aH aF : Nat) (ts : Nat) (kp : Int32) (aSk aSm aSp aSt aSc aSr aSe gr br cs wk : Nat) (z : Int32) (fi : Nat → Nat) (pp pl : Int32) (hb : wI pp 0 (nI gr - 1) = 0 ∨ wI pl 0 494 = 0) : Ct l g 10 0 0 yX8_likes cX8_likes 3 (some .int) [.ref aM, .int pp, .int pl] [(aM, .inr (8, [.ref aS, .ref aK, .ref aL, .ref aC, .ref aW, .ref aR, .ref aT, .ref aH, .ref aF, .int (nI ts), .int kp])), (aF, .inl (g.2.1 0, 7, .inl (nIf fi))), (aS, .inr (6, [.ref aSk, .ref aSm, .ref aSp, .ref aSt, .ref aSc, .ref aSr, .ref aSe, .int (nI gr), .int (nI br), .int (nI cs), .int (nI wk), .int z]))] (xpi (fndI 0) [(aM, .inr (8, [.ref aS, .ref aK, .ref aL, .ref aC, .ref aW, .ref aR, .ref aT, .ref aH, .ref aF, .int (nI ts), .int kp])), (aF, .inl (g.2.1 0, 7, .inl (nIf (updN fi 0 (fi 0 + 1))))), (aS, .inr (6, [.ref aSk, .ref aSm, .ref aSp, .ref aSt, .ref aSc, .ref aSr, .ref aSe, .int (nI gr), .int (nI br), .int (nI cs), .int (nI wk), .int z]))]) := by
  refine Ct.ofX (lv := [some (.ref aM), some (.int pp), some (.int pl)]) (by decide) rfl (Nat.le_of_ble_eq_true rfl) (fun κ => ?_)
  generalize hQ : xQ κ g 0 0 _ = Q
  refine x_aload_n dX8_likes_0 rfl ?_
  refine x_iload_n dX8_likes_1 rfl ?_
  refine x_cVi0 dX8_likes_2 ml_X8_107 mX8_isPeople (ct_X8_isPeople κ.2.1 g aM aS aK aL aC aW aR aT aH aF ts kp aSk aSm aSp aSt aSc aSr aSe gr br cs wk z pp) [0, 2] rfl rfl 0 rfl rfl rfl (Nat.le_of_ble_eq_true rfl) (by decide) (Nat.le_refl _) (Nat.le_refl _) ?_
  refine x_if_eq dX8_likes_5 (fun c5 => ?_) (fun c5 => ?_)
  · have c5 : (wI pp 0 (nI gr - 1)) = 0 := c5
    refine x_aload_n dX8_likes_15 rfl ?_
    refine x_iconst 0 dX8_likes_16 (by decide) ?_
    refine x_cVi (ws' := [(aM, .inr (8, [.ref aS, .ref aK, .ref aL, .ref aC, .ref aW, .ref aR, .ref aT, .ref aH, .ref aF, .int (nI ts), .int kp])), (aF, .inl (g.2.1 0, 7, .inl (nIf (updN fi 0 (fi 0 + 1))))), (aS, .inr (6, [.ref aSk, .ref aSm, .ref aSp, .ref aSt, .ref aSc, .ref aSr, .ref aSe, .int (nI gr), .int (nI br), .int (nI cs), .int (nI wk), .int z]))]) dX8_likes_17 ml_X8_79 mX8_tell (ct_X8_tell κ.2.1 g aM aS aK aL aC aW aR aT aH aF ts kp fi 0 (by decide)) [0, 1] rfl rfl 0 rfl rfl rfl (Nat.le_of_ble_eq_true rfl) (by decide) (Nat.le_refl _) (Nat.le_refl _) (rfl : [aM, aF] = [aM, aF]) rfl ?_
    rw [← hQ]
    refine x_iret dX8_likes_20 rfl (Nat.le_of_ble_eq_true rfl) (Nat.le_of_ble_eq_true rfl) ?_
    exact ⟨rfl, rfl⟩
  · have c5 : ¬ ((wI pp 0 (nI gr - 1)) = 0) := c5
    refine x_iload_n dX8_likes_8 rfl ?_
    refine x_cSi dX8_likes_9 ml_X8_82 mX8_isPlace (ct_X8_isPlace κ.2.1 g pl) rfl (Nat.le_of_ble_eq_true rfl) (by decide) (Nat.le_refl _) (Nat.le_refl _) ?_
    refine x_if_ne dX8_likes_12 (fun c12 => ?_) (fun c12 => ?_)
    · have c12 : ¬ ((wI pl 0 494) = 0) := c12
      exact absurd (hb.resolve_left c5) c12
    · have c12 : (wI pl 0 494) = 0 := c12
      refine x_aload_n dX8_likes_15 rfl ?_
      refine x_iconst 0 dX8_likes_16 (by decide) ?_
      refine x_cVi (ws' := [(aM, .inr (8, [.ref aS, .ref aK, .ref aL, .ref aC, .ref aW, .ref aR, .ref aT, .ref aH, .ref aF, .int (nI ts), .int kp])), (aF, .inl (g.2.1 0, 7, .inl (nIf (updN fi 0 (fi 0 + 1))))), (aS, .inr (6, [.ref aSk, .ref aSm, .ref aSp, .ref aSt, .ref aSc, .ref aSr, .ref aSe, .int (nI gr), .int (nI br), .int (nI cs), .int (nI wk), .int z]))]) dX8_likes_17 ml_X8_79 mX8_tell (ct_X8_tell κ.2.1 g aM aS aK aL aC aW aR aT aH aF ts kp fi 0 (by decide)) [0, 1] rfl rfl 0 rfl rfl rfl (Nat.le_of_ble_eq_true rfl) (by decide) (Nat.le_refl _) (Nat.le_refl _) (rfl : [aM, aF] = [aM, aF]) rfl ?_
      rw [← hQ]
      refine x_iret dX8_likes_20 rfl (Nat.le_of_ble_eq_true rfl) (Nat.le_of_ble_eq_true rfl) ?_
      exact ⟨rfl, rfl⟩

-- == likes_o ==
set_option maxRecDepth 100000 in
set_option maxHeartbeats 4000000 in
theorem ct_likes_o (l : Launch) (g : XG) (aM aK aW aR aT aH aF ts : Nat) (kp : Int32) (aC aS aL aV aO aCs aCl aCh aCw aCc aCb tot lat : Nat) (se sw : Int32) (aLb aLp aVs aSk aSm aSp aSt aSc aSr aSe gr br cs wk : Nat) (z : Int32) (sd li cr ki ma bp bt : Nat → Nat) (co ce sk : Nat → Int32) (V : Nat → Int32) (L : Nat) (q p : Nat) (hgr : gr ≤ 12) (hbr : br ≤ 40) (hcs : cs ≤ 60) (hwk : wk ≤ 40) (hki : ∀ j, ki j ≤ 7) (hma : ∀ j, ma j ≤ 99999) (hbp : ∀ j, bp j < 495) (hlat : latI ce wk = nI L) (hL : L < 4096) (hV : cs ≠ 0 → ∀ p, p < 495 → evR (nmI wk L p) (cdF co 0 cs) [] = some [V p]) (hse : se = 0 ∨ (se = 1 ∧ sd = sdF cs V ∧ cr = crF gr ki ma bp bt br L (sdF cs V) ∧ tot = totF gr ki ma bp bt br L (sdF cs V) ∧ lat = L)) (hq : q < gr ∧ gr ≤ 12) (hp : p < 495) : Ct l g 10 0 0 yX8_likes cX8_likes 3 (some .int) [.ref aM, .int (nI q), .int (nI p)] [(aM, .inr (8, [.ref aS, .ref aK, .ref aL, .ref aC, .ref aW, .ref aR, .ref aT, .ref aH, .ref aF, .int (nI ts), .int kp])), (aC, .inr (0, [.ref aS, .ref aL, .ref aV, .ref aO, .ref aCs, .ref aCl, .ref aCh, .ref aCw, .ref aCc, .ref aCb, .int (nI tot), .int (nI lat), .int se, .int sw])), (aCs, .inl (g.2.1 0, 495, .inl (nIf sd))), (aCl, .inl (g.2.1 0, 495, .inl (nIf li))), (aCc, .inl (g.2.1 0, 495, .inl (nIf cr))), (aL, .inr (5, [.ref aLb, .ref aLp])), (aLb, .inl (g.2.1 0, 495, .inl (nIf rowB))), (aLp, .inl (g.2.1 0, 495, .inl (nIf packB))), (aV, .inr (2, [.ref aS, .ref aVs])), (aVs, .inl (g.2.1 0, 60, .inl sk)), (aS, .inr (6, [.ref aSk, .ref aSm, .ref aSp, .ref aSt, .ref aSc, .ref aSr, .ref aSe, .int (nI gr), .int (nI br), .int (nI cs), .int (nI wk), .int z])), (aSk, .inl (g.2.1 0, 12, .inl (nIf ki))), (aSm, .inl (g.2.1 0, 12, .inl (nIf ma))), (aSp, .inl (g.2.1 0, 40, .inl (nIf bp))), (aSt, .inl (g.2.1 0, 40, .inl (nIf bt))), (aSc, .inl (g.2.1 0, 60, .inl co)), (aSe, .inl (g.2.1 0, 320, .inl ce))] (fun vv_ ww_ => ∃ (li2 : Nat → Nat) (sk2 : Nat → Int32), vv_ = some (.int (nI (lkN (ki q) (ma q) p L (sdF cs V p)))) ∧ ww_ = [(aM, .inr (8, [.ref aS, .ref aK, .ref aL, .ref aC, .ref aW, .ref aR, .ref aT, .ref aH, .ref aF, .int (nI ts), .int kp])), (aC, .inr (0, [.ref aS, .ref aL, .ref aV, .ref aO, .ref aCs, .ref aCl, .ref aCh, .ref aCw, .ref aCc, .ref aCb, .int (nI (totF gr ki ma bp bt br L (sdF cs V))), .int (nI L), .int 1, .int sw])), (aCs, .inl (g.2.1 0, 495, .inl (nIf (sdF cs V)))), (aCl, .inl (g.2.1 0, 495, .inl (nIf li2))), (aCc, .inl (g.2.1 0, 495, .inl (nIf (crF gr ki ma bp bt br L (sdF cs V))))), (aL, .inr (5, [.ref aLb, .ref aLp])), (aLb, .inl (g.2.1 0, 495, .inl (nIf rowB))), (aLp, .inl (g.2.1 0, 495, .inl (nIf packB))), (aV, .inr (2, [.ref aS, .ref aVs])), (aVs, .inl (g.2.1 0, 60, .inl sk2)), (aS, .inr (6, [.ref aSk, .ref aSm, .ref aSp, .ref aSt, .ref aSc, .ref aSr, .ref aSe, .int (nI gr), .int (nI br), .int (nI cs), .int (nI wk), .int z])), (aSk, .inl (g.2.1 0, 12, .inl (nIf ki))), (aSm, .inl (g.2.1 0, 12, .inl (nIf ma))), (aSp, .inl (g.2.1 0, 40, .inl (nIf bp))), (aSt, .inl (g.2.1 0, 40, .inl (nIf bt))), (aSc, .inl (g.2.1 0, 60, .inl co)), (aSe, .inl (g.2.1 0, 320, .inl ce))]) := by
  refine Ct.ofX (lv := [some (.ref aM), some (.int (nI q)), some (.int (nI p))]) (by decide) rfl (Nat.le_of_ble_eq_true rfl) (fun κ => ?_)
  generalize hQ : xQ κ g 0 0 _ = Q
  refine x_aload_n dX8_likes_0 rfl ?_
  refine x_iload_n dX8_likes_1 rfl ?_
  refine x_cVi0 dX8_likes_2 ml_X8_107 mX8_isPeople (ct_isPeople_n κ.2.1 g aM aS aK aL aC aW aR aT aH aF ts kp aSk aSm aSp aSt aSc aSr aSe gr br cs wk z q (hq)) [0, 10] rfl rfl 0 rfl rfl rfl (Nat.le_of_ble_eq_true rfl) (by decide) (Nat.le_refl _) (Nat.le_refl _) ?_
  refine x_if_eq dX8_likes_5 (fun c5 => ?_) (fun c5 => ?_)
  · exact absurd c5 (by decide)
  refine x_iload_n dX8_likes_8 rfl ?_
  refine x_cSi dX8_likes_9 ml_X8_82 mX8_isPlace (ct_isPlace_n κ.2.1 g p (hp)) rfl (Nat.le_of_ble_eq_true rfl) (by decide) (Nat.le_refl _) (Nat.le_refl _) ?_
  refine x_if_ne dX8_likes_12 (fun c12 => ?_) (fun c12 => ?_)
  rotate_left
  · exact absurd c12 (by decide)
  refine x_aload_n dX8_likes_21 rfl ?_
  refine x_get dX8_likes_22 0 3 inX8 fl_X8_36 rfl rfl (by decide) rfl ?_
  refine x_callV dX8_likes_25 ml_X8_114 mX0_settle (ct_X0_settle κ.2.1 g aC aS aL aV aO aCs aCl aCh aCw aCc aCb tot lat se sw aLb aLp aVs aSk aSm aSp aSt aSc aSr aSe gr br cs wk z sd li cr ki ma bp bt co ce sk V L (hgr) (hbr) (hcs) (hwk) (hki) (hma) (hbp) (hlat) (hL) (hV) (hse)) [1, 2, 3, 4, 5, 6, 7, 8, 9, 10, 11, 12, 13, 14, 15, 16] rfl rfl 1 rfl rfl rfl (Nat.le_of_ble_eq_true rfl) (by decide) (Nat.le_refl _) (Nat.le_refl _) (fun vv ww hp => ?_)
  obtain ⟨z1, z2, rfl, rfl⟩ := hp
  refine ⟨(rfl : [aC, aCs, aCl, aCc, aL, aLb, aLp, aV, aVs, aS, aSk, aSm, aSp, aSt, aSc, aSe] = [aC, aCs, aCl, aCc, aL, aLb, aLp, aV, aVs, aS, aSk, aSm, aSp, aSt, aSc, aSe]), x_eq (lv' := [some (.ref aM), some (.int (nI q)), some (.int (nI p))]) (st' := []) (ws' := [(aM, .inr (8, [.ref aS, .ref aK, .ref aL, .ref aC, .ref aW, .ref aR, .ref aT, .ref aH, .ref aF, .int (nI ts), .int kp])), (aC, .inr (0, [.ref aS, .ref aL, .ref aV, .ref aO, .ref aCs, .ref aCl, .ref aCh, .ref aCw, .ref aCc, .ref aCb, .int (nI (totF gr ki ma bp bt br L (sdF cs V))), .int (nI L), .int 1, .int sw])), (aCs, .inl (g.2.1 0, 495, .inl (nIf (sdF cs V)))), (aCl, .inl (g.2.1 0, 495, .inl (nIf z1))), (aCc, .inl (g.2.1 0, 495, .inl (nIf (crF gr ki ma bp bt br L (sdF cs V))))), (aL, .inr (5, [.ref aLb, .ref aLp])), (aLb, .inl (g.2.1 0, 495, .inl (nIf rowB))), (aLp, .inl (g.2.1 0, 495, .inl (nIf packB))), (aV, .inr (2, [.ref aS, .ref aVs])), (aVs, .inl (g.2.1 0, 60, .inl z2)), (aS, .inr (6, [.ref aSk, .ref aSm, .ref aSp, .ref aSt, .ref aSc, .ref aSr, .ref aSe, .int (nI gr), .int (nI br), .int (nI cs), .int (nI wk), .int z])), (aSk, .inl (g.2.1 0, 12, .inl (nIf ki))), (aSm, .inl (g.2.1 0, 12, .inl (nIf ma))), (aSp, .inl (g.2.1 0, 40, .inl (nIf bp))), (aSt, .inl (g.2.1 0, 40, .inl (nIf bt))), (aSc, .inl (g.2.1 0, 60, .inl co)), (aSe, .inl (g.2.1 0, 320, .inl ce))]) ?_ rfl rfl rfl⟩
  refine x_aload_n dX8_likes_28 rfl ?_
  refine x_get dX8_likes_29 0 3 inX8 fl_X8_36 rfl rfl (by decide) rfl ?_
  refine x_aload_n dX8_likes_32 rfl ?_
  refine x_get dX8_likes_33 0 0 inX8 fl_X8_10 rfl rfl (by decide) rfl ?_
  refine x_get dX8_likes_36 10 0 inX6 fl_X8_98 rfl rfl (by decide) rfl ?_
  refine x_iload_n dX8_likes_39 rfl ?_
  refine x_iald dX8_likes_40 11 q rfl (rfl) (by omega) (by decide) ?_
  refine x_aload_n dX8_likes_41 rfl ?_
  refine x_get dX8_likes_42 0 0 inX8 fl_X8_10 rfl rfl (by decide) rfl ?_
  refine x_get dX8_likes_45 10 1 inX6 fl_X8_101 rfl rfl (by decide) rfl ?_
  refine x_iload_n dX8_likes_48 rfl ?_
  refine x_iald dX8_likes_49 12 q rfl (rfl) (by omega) (by decide) ?_
  refine x_iload_n dX8_likes_50 rfl ?_
  refine x_cVi0 dX8_likes_51 ml_X8_117 mX0_likingOf (ct_X0_likingOf κ.2.1 g aC aS aL aV aO aCs aCl aCh aCw aCc aCb (totF gr ki ma bp bt br L (sdF cs V)) L 1 sw aLb aLp (sdF cs V) (ki q) (ma q) p (by have := hki q; omega) (hma q) (hp) (hL)) [1, 2, 5, 6] rfl rfl 1 rfl rfl rfl (Nat.le_of_ble_eq_true rfl) (by decide) (Nat.le_refl _) (Nat.le_refl _) ?_
  rw [← hQ]
  refine x_iret dX8_likes_54 rfl (Nat.le_of_ble_eq_true rfl) (Nat.le_of_ble_eq_true rfl) ?_
  exact ⟨_, _, rfl, rfl⟩

-- == crossed_b ==
theorem dX8_crossed_0 : xd cX8_crossed 0 (.iload_n 1) 1 1 := ⟨by decide +kernel, rfl⟩
theorem dX8_crossed_1 : xd cX8_crossed 1 (.iconst (-1)) 1 2 := ⟨by decide +kernel, rfl⟩
theorem dX8_crossed_2 : xj cX8_crossed 2 (.if_icmp .eq) 5 13 := ⟨11, by decide +kernel, rfl, by decide⟩
theorem dX8_crossed_5 : xd cX8_crossed 5 (.aload_n 0) 1 6 := ⟨by decide +kernel, rfl⟩
theorem dX8_crossed_6 : xd cX8_crossed 6 (.iload_n 1) 1 7 := ⟨by decide +kernel, rfl⟩
theorem dX8_crossed_7 : xd cX8_crossed 7 (.invokevirtual 107) 3 10 := ⟨by decide +kernel, rfl⟩
theorem dX8_crossed_10 : xj cX8_crossed 10 (.ifCond .eq) 13 20 := ⟨10, by decide +kernel, rfl, by decide⟩
theorem dX8_crossed_13 : xd cX8_crossed 13 (.iload_n 2) 1 14 := ⟨by decide +kernel, rfl⟩
theorem dX8_crossed_14 : xd cX8_crossed 14 (.invokestatic 82) 3 17 := ⟨by decide +kernel, rfl⟩
theorem dX8_crossed_17 : xj cX8_crossed 17 (.ifCond .ne) 20 26 := ⟨9, by decide +kernel, rfl, by decide⟩
theorem dX8_crossed_20 : xd cX8_crossed 20 (.aload_n 0) 1 21 := ⟨by decide +kernel, rfl⟩
theorem dX8_crossed_21 : xd cX8_crossed 21 (.iconst 0) 1 22 := ⟨by decide +kernel, rfl⟩
theorem dX8_crossed_22 : xd cX8_crossed 22 (.invokevirtual 79) 3 25 := ⟨by decide +kernel, rfl⟩
theorem dX8_crossed_25 : xd cX8_crossed 25 .ireturn 1 26 := ⟨by decide +kernel, rfl⟩
theorem dX8_crossed_26 : xd cX8_crossed 26 (.aload_n 0) 1 27 := ⟨by decide +kernel, rfl⟩
theorem dX8_crossed_27 : xd cX8_crossed 27 (.getfield 36) 3 30 := ⟨by decide +kernel, rfl⟩
theorem dX8_crossed_30 : xd cX8_crossed 30 (.invokevirtual 114) 3 33 := ⟨by decide +kernel, rfl⟩
theorem dX8_crossed_33 : xd cX8_crossed 33 (.iload_n 1) 1 34 := ⟨by decide +kernel, rfl⟩
theorem dX8_crossed_34 : xd cX8_crossed 34 (.iconst (-1)) 1 35 := ⟨by decide +kernel, rfl⟩
theorem dX8_crossed_35 : xj cX8_crossed 35 (.if_icmp .ne) 38 50 := ⟨15, by decide +kernel, rfl, by decide⟩
theorem dX8_crossed_38 : xd cX8_crossed 38 (.aload_n 0) 1 39 := ⟨by decide +kernel, rfl⟩
theorem dX8_crossed_39 : xd cX8_crossed 39 (.getfield 36) 3 42 := ⟨by decide +kernel, rfl⟩
theorem dX8_crossed_42 : xd cX8_crossed 42 (.getfield 121) 3 45 := ⟨by decide +kernel, rfl⟩
theorem dX8_crossed_45 : xd cX8_crossed 45 (.iload_n 2) 1 46 := ⟨by decide +kernel, rfl⟩
theorem dX8_crossed_46 : xd cX8_crossed 46 .iaload 1 47 := ⟨by decide +kernel, rfl⟩
theorem dX8_crossed_47 : xj cX8_crossed 47 .goto 50 76 := ⟨29, by decide +kernel, rfl, by decide⟩
theorem dX8_crossed_50 : xd cX8_crossed 50 (.aload_n 0) 1 51 := ⟨by decide +kernel, rfl⟩
theorem dX8_crossed_51 : xd cX8_crossed 51 (.getfield 36) 3 54 := ⟨by decide +kernel, rfl⟩
theorem dX8_crossed_54 : xd cX8_crossed 54 (.aload_n 0) 1 55 := ⟨by decide +kernel, rfl⟩
theorem dX8_crossed_55 : xd cX8_crossed 55 (.getfield 10) 3 58 := ⟨by decide +kernel, rfl⟩
theorem dX8_crossed_58 : xd cX8_crossed 58 (.getfield 98) 3 61 := ⟨by decide +kernel, rfl⟩
theorem dX8_crossed_61 : xd cX8_crossed 61 (.iload_n 1) 1 62 := ⟨by decide +kernel, rfl⟩
theorem dX8_crossed_62 : xd cX8_crossed 62 .iaload 1 63 := ⟨by decide +kernel, rfl⟩
theorem dX8_crossed_63 : xd cX8_crossed 63 (.aload_n 0) 1 64 := ⟨by decide +kernel, rfl⟩
theorem dX8_crossed_64 : xd cX8_crossed 64 (.getfield 10) 3 67 := ⟨by decide +kernel, rfl⟩
theorem dX8_crossed_67 : xd cX8_crossed 67 (.getfield 101) 3 70 := ⟨by decide +kernel, rfl⟩
theorem dX8_crossed_70 : xd cX8_crossed 70 (.iload_n 1) 1 71 := ⟨by decide +kernel, rfl⟩
theorem dX8_crossed_71 : xd cX8_crossed 71 .iaload 1 72 := ⟨by decide +kernel, rfl⟩
theorem dX8_crossed_72 : xd cX8_crossed 72 (.iload_n 2) 1 73 := ⟨by decide +kernel, rfl⟩
theorem dX8_crossed_73 : xd cX8_crossed 73 (.invokevirtual 124) 3 76 := ⟨by decide +kernel, rfl⟩
theorem dX8_crossed_76 : xd cX8_crossed 76 .ireturn 1 77 := ⟨by decide +kernel, rfl⟩

set_option maxRecDepth 100000 in
set_option maxHeartbeats 4000000 in
theorem ct_crossed_b (l : Launch) (g : XG) (aM aS aK aL aC aW aR aT aH aF : Nat) (ts : Nat) (kp : Int32) (aSk aSm aSp aSt aSc aSr aSe gr br cs wk : Nat) (z : Int32) (fi : Nat → Nat) (pp pl : Int32) (hb : (¬ pp = -1 ∧ wI pp 0 (nI gr - 1) = 0) ∨ wI pl 0 494 = 0) : Ct l g 10 0 0 yX8_crossed cX8_crossed 3 (some .int) [.ref aM, .int pp, .int pl] [(aM, .inr (8, [.ref aS, .ref aK, .ref aL, .ref aC, .ref aW, .ref aR, .ref aT, .ref aH, .ref aF, .int (nI ts), .int kp])), (aF, .inl (g.2.1 0, 7, .inl (nIf fi))), (aS, .inr (6, [.ref aSk, .ref aSm, .ref aSp, .ref aSt, .ref aSc, .ref aSr, .ref aSe, .int (nI gr), .int (nI br), .int (nI cs), .int (nI wk), .int z]))] (xpi (fndI 0) [(aM, .inr (8, [.ref aS, .ref aK, .ref aL, .ref aC, .ref aW, .ref aR, .ref aT, .ref aH, .ref aF, .int (nI ts), .int kp])), (aF, .inl (g.2.1 0, 7, .inl (nIf (updN fi 0 (fi 0 + 1))))), (aS, .inr (6, [.ref aSk, .ref aSm, .ref aSp, .ref aSt, .ref aSc, .ref aSr, .ref aSe, .int (nI gr), .int (nI br), .int (nI cs), .int (nI wk), .int z]))]) := by
  refine Ct.ofX (lv := [some (.ref aM), some (.int pp), some (.int pl)]) (by decide) rfl (Nat.le_of_ble_eq_true rfl) (fun κ => ?_)
  generalize hQ : xQ κ g 0 0 _ = Q
  refine x_iload_n dX8_crossed_0 rfl ?_
  refine x_iconst (-1) dX8_crossed_1 (by decide) ?_
  refine x_icmp_eq dX8_crossed_2 (fun c2 => ?_) (fun c2 => ?_)
  · have c2 : pp = (-1) := c2
    refine x_iload_n dX8_crossed_13 rfl ?_
    refine x_cSi dX8_crossed_14 ml_X8_82 mX8_isPlace (ct_X8_isPlace κ.2.1 g pl) rfl (Nat.le_of_ble_eq_true rfl) (by decide) (Nat.le_refl _) (Nat.le_refl _) ?_
    refine x_if_ne dX8_crossed_17 (fun c17 => ?_) (fun c17 => ?_)
    · have c17 : ¬ ((wI pl 0 494) = 0) := c17
      exact absurd (hb.resolve_left (fun h => by first | exact h.1 c2 | exact c10 h.2)) c17
    · have c17 : (wI pl 0 494) = 0 := c17
      refine x_aload_n dX8_crossed_20 rfl ?_
      refine x_iconst 0 dX8_crossed_21 (by decide) ?_
      refine x_cVi (ws' := [(aM, .inr (8, [.ref aS, .ref aK, .ref aL, .ref aC, .ref aW, .ref aR, .ref aT, .ref aH, .ref aF, .int (nI ts), .int kp])), (aF, .inl (g.2.1 0, 7, .inl (nIf (updN fi 0 (fi 0 + 1))))), (aS, .inr (6, [.ref aSk, .ref aSm, .ref aSp, .ref aSt, .ref aSc, .ref aSr, .ref aSe, .int (nI gr), .int (nI br), .int (nI cs), .int (nI wk), .int z]))]) dX8_crossed_22 ml_X8_79 mX8_tell (ct_X8_tell κ.2.1 g aM aS aK aL aC aW aR aT aH aF ts kp fi 0 (by decide)) [0, 1] rfl rfl 0 rfl rfl rfl (Nat.le_of_ble_eq_true rfl) (by decide) (Nat.le_refl _) (Nat.le_refl _) (rfl : [aM, aF] = [aM, aF]) rfl ?_
      rw [← hQ]
      refine x_iret dX8_crossed_25 rfl (Nat.le_of_ble_eq_true rfl) (Nat.le_of_ble_eq_true rfl) ?_
      exact ⟨rfl, rfl⟩
  · have c2 : ¬ (pp = (-1)) := c2
    refine x_aload_n dX8_crossed_5 rfl ?_
    refine x_iload_n dX8_crossed_6 rfl ?_
    refine x_cVi0 dX8_crossed_7 ml_X8_107 mX8_isPeople (ct_X8_isPeople κ.2.1 g aM aS aK aL aC aW aR aT aH aF ts kp aSk aSm aSp aSt aSc aSr aSe gr br cs wk z pp) [0, 2] rfl rfl 0 rfl rfl rfl (Nat.le_of_ble_eq_true rfl) (by decide) (Nat.le_refl _) (Nat.le_refl _) ?_
    refine x_if_eq dX8_crossed_10 (fun c10 => ?_) (fun c10 => ?_)
    · have c10 : (wI pp 0 (nI gr - 1)) = 0 := c10
      refine x_aload_n dX8_crossed_20 rfl ?_
      refine x_iconst 0 dX8_crossed_21 (by decide) ?_
      refine x_cVi (ws' := [(aM, .inr (8, [.ref aS, .ref aK, .ref aL, .ref aC, .ref aW, .ref aR, .ref aT, .ref aH, .ref aF, .int (nI ts), .int kp])), (aF, .inl (g.2.1 0, 7, .inl (nIf (updN fi 0 (fi 0 + 1))))), (aS, .inr (6, [.ref aSk, .ref aSm, .ref aSp, .ref aSt, .ref aSc, .ref aSr, .ref aSe, .int (nI gr), .int (nI br), .int (nI cs), .int (nI wk), .int z]))]) dX8_crossed_22 ml_X8_79 mX8_tell (ct_X8_tell κ.2.1 g aM aS aK aL aC aW aR aT aH aF ts kp fi 0 (by decide)) [0, 1] rfl rfl 0 rfl rfl rfl (Nat.le_of_ble_eq_true rfl) (by decide) (Nat.le_refl _) (Nat.le_refl _) (rfl : [aM, aF] = [aM, aF]) rfl ?_
      rw [← hQ]
      refine x_iret dX8_crossed_25 rfl (Nat.le_of_ble_eq_true rfl) (Nat.le_of_ble_eq_true rfl) ?_
      exact ⟨rfl, rfl⟩
    · have c10 : ¬ ((wI pp 0 (nI gr - 1)) = 0) := c10
      refine x_iload_n dX8_crossed_13 rfl ?_
      refine x_cSi dX8_crossed_14 ml_X8_82 mX8_isPlace (ct_X8_isPlace κ.2.1 g pl) rfl (Nat.le_of_ble_eq_true rfl) (by decide) (Nat.le_refl _) (Nat.le_refl _) ?_
      refine x_if_ne dX8_crossed_17 (fun c17 => ?_) (fun c17 => ?_)
      · have c17 : ¬ ((wI pl 0 494) = 0) := c17
        exact absurd (hb.resolve_left (fun h => by first | exact h.1 c2 | exact c10 h.2)) c17
      · have c17 : (wI pl 0 494) = 0 := c17
        refine x_aload_n dX8_crossed_20 rfl ?_
        refine x_iconst 0 dX8_crossed_21 (by decide) ?_
        refine x_cVi (ws' := [(aM, .inr (8, [.ref aS, .ref aK, .ref aL, .ref aC, .ref aW, .ref aR, .ref aT, .ref aH, .ref aF, .int (nI ts), .int kp])), (aF, .inl (g.2.1 0, 7, .inl (nIf (updN fi 0 (fi 0 + 1))))), (aS, .inr (6, [.ref aSk, .ref aSm, .ref aSp, .ref aSt, .ref aSc, .ref aSr, .ref aSe, .int (nI gr), .int (nI br), .int (nI cs), .int (nI wk), .int z]))]) dX8_crossed_22 ml_X8_79 mX8_tell (ct_X8_tell κ.2.1 g aM aS aK aL aC aW aR aT aH aF ts kp fi 0 (by decide)) [0, 1] rfl rfl 0 rfl rfl rfl (Nat.le_of_ble_eq_true rfl) (by decide) (Nat.le_refl _) (Nat.le_refl _) (rfl : [aM, aF] = [aM, aF]) rfl ?_
        rw [← hQ]
        refine x_iret dX8_crossed_25 rfl (Nat.le_of_ble_eq_true rfl) (Nat.le_of_ble_eq_true rfl) ?_
        exact ⟨rfl, rfl⟩

-- == crossed_a ==
set_option maxRecDepth 100000 in
set_option maxHeartbeats 4000000 in
theorem ct_crossed_a (l : Launch) (g : XG) (aM aK aW aR aT aH aF ts : Nat) (kp : Int32) (aC aS aL aV aO aCs aCl aCh aCw aCc aCb tot lat : Nat) (se sw : Int32) (aLb aLp aVs aSk aSm aSp aSt aSc aSr aSe gr br cs wk : Nat) (z : Int32) (sd li cr ki ma bp bt : Nat → Nat) (co ce sk : Nat → Int32) (V : Nat → Int32) (L : Nat) (p : Nat) (hgr : gr ≤ 12) (hbr : br ≤ 40) (hcs : cs ≤ 60) (hwk : wk ≤ 40) (hki : ∀ j, ki j ≤ 7) (hma : ∀ j, ma j ≤ 99999) (hbp : ∀ j, bp j < 495) (hlat : latI ce wk = nI L) (hL : L < 4096) (hV : cs ≠ 0 → ∀ p, p < 495 → evR (nmI wk L p) (cdF co 0 cs) [] = some [V p]) (hse : se = 0 ∨ (se = 1 ∧ sd = sdF cs V ∧ cr = crF gr ki ma bp bt br L (sdF cs V) ∧ tot = totF gr ki ma bp bt br L (sdF cs V) ∧ lat = L)) (hp : p < 495) : Ct l g 10 0 0 yX8_crossed cX8_crossed 3 (some .int) [.ref aM, .int ((-1)), .int (nI p)] [(aM, .inr (8, [.ref aS, .ref aK, .ref aL, .ref aC, .ref aW, .ref aR, .ref aT, .ref aH, .ref aF, .int (nI ts), .int kp])), (aC, .inr (0, [.ref aS, .ref aL, .ref aV, .ref aO, .ref aCs, .ref aCl, .ref aCh, .ref aCw, .ref aCc, .ref aCb, .int (nI tot), .int (nI lat), .int se, .int sw])), (aCs, .inl (g.2.1 0, 495, .inl (nIf sd))), (aCl, .inl (g.2.1 0, 495, .inl (nIf li))), (aCc, .inl (g.2.1 0, 495, .inl (nIf cr))), (aL, .inr (5, [.ref aLb, .ref aLp])), (aLb, .inl (g.2.1 0, 495, .inl (nIf rowB))), (aLp, .inl (g.2.1 0, 495, .inl (nIf packB))), (aV, .inr (2, [.ref aS, .ref aVs])), (aVs, .inl (g.2.1 0, 60, .inl sk)), (aS, .inr (6, [.ref aSk, .ref aSm, .ref aSp, .ref aSt, .ref aSc, .ref aSr, .ref aSe, .int (nI gr), .int (nI br), .int (nI cs), .int (nI wk), .int z])), (aSk, .inl (g.2.1 0, 12, .inl (nIf ki))), (aSm, .inl (g.2.1 0, 12, .inl (nIf ma))), (aSp, .inl (g.2.1 0, 40, .inl (nIf bp))), (aSt, .inl (g.2.1 0, 40, .inl (nIf bt))), (aSc, .inl (g.2.1 0, 60, .inl co)), (aSe, .inl (g.2.1 0, 320, .inl ce))] (fun vv_ ww_ => ∃ (li2 : Nat → Nat) (sk2 : Nat → Int32), vv_ = some (.int (nI (crF gr ki ma bp bt br L (sdF cs V) p))) ∧ ww_ = [(aM, .inr (8, [.ref aS, .ref aK, .ref aL, .ref aC, .ref aW, .ref aR, .ref aT, .ref aH, .ref aF, .int (nI ts), .int kp])), (aC, .inr (0, [.ref aS, .ref aL, .ref aV, .ref aO, .ref aCs, .ref aCl, .ref aCh, .ref aCw, .ref aCc, .ref aCb, .int (nI (totF gr ki ma bp bt br L (sdF cs V))), .int (nI L), .int 1, .int sw])), (aCs, .inl (g.2.1 0, 495, .inl (nIf (sdF cs V)))), (aCl, .inl (g.2.1 0, 495, .inl (nIf li2))), (aCc, .inl (g.2.1 0, 495, .inl (nIf (crF gr ki ma bp bt br L (sdF cs V))))), (aL, .inr (5, [.ref aLb, .ref aLp])), (aLb, .inl (g.2.1 0, 495, .inl (nIf rowB))), (aLp, .inl (g.2.1 0, 495, .inl (nIf packB))), (aV, .inr (2, [.ref aS, .ref aVs])), (aVs, .inl (g.2.1 0, 60, .inl sk2)), (aS, .inr (6, [.ref aSk, .ref aSm, .ref aSp, .ref aSt, .ref aSc, .ref aSr, .ref aSe, .int (nI gr), .int (nI br), .int (nI cs), .int (nI wk), .int z])), (aSk, .inl (g.2.1 0, 12, .inl (nIf ki))), (aSm, .inl (g.2.1 0, 12, .inl (nIf ma))), (aSp, .inl (g.2.1 0, 40, .inl (nIf bp))), (aSt, .inl (g.2.1 0, 40, .inl (nIf bt))), (aSc, .inl (g.2.1 0, 60, .inl co)), (aSe, .inl (g.2.1 0, 320, .inl ce))]) := by
  refine Ct.ofX (lv := [some (.ref aM), some (.int ((-1))), some (.int (nI p))]) (by decide) rfl (Nat.le_of_ble_eq_true rfl) (fun κ => ?_)
  generalize hQ : xQ κ g 0 0 _ = Q
  refine x_iload_n dX8_crossed_0 rfl ?_
  refine x_iconst (-1) dX8_crossed_1 (by decide) ?_
  refine x_icmp_eq dX8_crossed_2 (fun c2 => ?_) (fun c2 => ?_)
  rotate_left
  · exact absurd c2 (by decide)
  refine x_iload_n dX8_crossed_13 rfl ?_
  refine x_cSi dX8_crossed_14 ml_X8_82 mX8_isPlace (ct_isPlace_n κ.2.1 g p (hp)) rfl (Nat.le_of_ble_eq_true rfl) (by decide) (Nat.le_refl _) (Nat.le_refl _) ?_
  refine x_if_ne dX8_crossed_17 (fun c17 => ?_) (fun c17 => ?_)
  rotate_left
  · exact absurd c17 (by decide)
  refine x_aload_n dX8_crossed_26 rfl ?_
  refine x_get dX8_crossed_27 0 3 inX8 fl_X8_36 rfl rfl (by decide) rfl ?_
  refine x_callV dX8_crossed_30 ml_X8_114 mX0_settle (ct_X0_settle κ.2.1 g aC aS aL aV aO aCs aCl aCh aCw aCc aCb tot lat se sw aLb aLp aVs aSk aSm aSp aSt aSc aSr aSe gr br cs wk z sd li cr ki ma bp bt co ce sk V L (hgr) (hbr) (hcs) (hwk) (hki) (hma) (hbp) (hlat) (hL) (hV) (hse)) [1, 2, 3, 4, 5, 6, 7, 8, 9, 10, 11, 12, 13, 14, 15, 16] rfl rfl 1 rfl rfl rfl (Nat.le_of_ble_eq_true rfl) (by decide) (Nat.le_refl _) (Nat.le_refl _) (fun vv ww hp => ?_)
  obtain ⟨z1, z2, rfl, rfl⟩ := hp
  refine ⟨(rfl : [aC, aCs, aCl, aCc, aL, aLb, aLp, aV, aVs, aS, aSk, aSm, aSp, aSt, aSc, aSe] = [aC, aCs, aCl, aCc, aL, aLb, aLp, aV, aVs, aS, aSk, aSm, aSp, aSt, aSc, aSe]), x_eq (lv' := [some (.ref aM), some (.int ((-1))), some (.int (nI p))]) (st' := []) (ws' := [(aM, .inr (8, [.ref aS, .ref aK, .ref aL, .ref aC, .ref aW, .ref aR, .ref aT, .ref aH, .ref aF, .int (nI ts), .int kp])), (aC, .inr (0, [.ref aS, .ref aL, .ref aV, .ref aO, .ref aCs, .ref aCl, .ref aCh, .ref aCw, .ref aCc, .ref aCb, .int (nI (totF gr ki ma bp bt br L (sdF cs V))), .int (nI L), .int 1, .int sw])), (aCs, .inl (g.2.1 0, 495, .inl (nIf (sdF cs V)))), (aCl, .inl (g.2.1 0, 495, .inl (nIf z1))), (aCc, .inl (g.2.1 0, 495, .inl (nIf (crF gr ki ma bp bt br L (sdF cs V))))), (aL, .inr (5, [.ref aLb, .ref aLp])), (aLb, .inl (g.2.1 0, 495, .inl (nIf rowB))), (aLp, .inl (g.2.1 0, 495, .inl (nIf packB))), (aV, .inr (2, [.ref aS, .ref aVs])), (aVs, .inl (g.2.1 0, 60, .inl z2)), (aS, .inr (6, [.ref aSk, .ref aSm, .ref aSp, .ref aSt, .ref aSc, .ref aSr, .ref aSe, .int (nI gr), .int (nI br), .int (nI cs), .int (nI wk), .int z])), (aSk, .inl (g.2.1 0, 12, .inl (nIf ki))), (aSm, .inl (g.2.1 0, 12, .inl (nIf ma))), (aSp, .inl (g.2.1 0, 40, .inl (nIf bp))), (aSt, .inl (g.2.1 0, 40, .inl (nIf bt))), (aSc, .inl (g.2.1 0, 60, .inl co)), (aSe, .inl (g.2.1 0, 320, .inl ce))]) ?_ rfl rfl rfl⟩
  refine x_iload_n dX8_crossed_33 rfl ?_
  refine x_iconst (-1) dX8_crossed_34 (by decide) ?_
  refine x_icmp_ne dX8_crossed_35 (fun c35 => ?_) (fun c35 => ?_)
  · exact absurd c35 (by decide)
  refine x_aload_n dX8_crossed_38 rfl ?_
  refine x_get dX8_crossed_39 0 3 inX8 fl_X8_36 rfl rfl (by decide) rfl ?_
  refine x_get dX8_crossed_42 1 8 inX0 fl_X8_121 rfl rfl (by decide) rfl ?_
  refine x_iload_n dX8_crossed_45 rfl ?_
  refine x_iald dX8_crossed_46 4 p rfl (rfl) (by omega) (by decide) ?_
  refine x_goto dX8_crossed_47 ?_
  rw [← hQ]
  refine x_iret dX8_crossed_76 rfl (Nat.le_of_ble_eq_true rfl) (Nat.le_of_ble_eq_true rfl) ?_
  exact ⟨_, _, rfl, rfl⟩

-- == crossed_o ==
set_option maxRecDepth 100000 in
set_option maxHeartbeats 4000000 in
theorem ct_crossed_o (l : Launch) (g : XG) (aM aK aW aR aT aH aF ts : Nat) (kp : Int32) (aC aS aL aV aO aCs aCl aCh aCw aCc aCb tot lat : Nat) (se sw : Int32) (aLb aLp aVs aSk aSm aSp aSt aSc aSr aSe gr br cs wk : Nat) (z : Int32) (sd li cr ki ma bp bt : Nat → Nat) (co ce sk : Nat → Int32) (V : Nat → Int32) (L : Nat) (q p : Nat) (hgr : gr ≤ 12) (hbr : br ≤ 40) (hcs : cs ≤ 60) (hwk : wk ≤ 40) (hki : ∀ j, ki j ≤ 7) (hma : ∀ j, ma j ≤ 99999) (hbp : ∀ j, bp j < 495) (hlat : latI ce wk = nI L) (hL : L < 4096) (hV : cs ≠ 0 → ∀ p, p < 495 → evR (nmI wk L p) (cdF co 0 cs) [] = some [V p]) (hse : se = 0 ∨ (se = 1 ∧ sd = sdF cs V ∧ cr = crF gr ki ma bp bt br L (sdF cs V) ∧ tot = totF gr ki ma bp bt br L (sdF cs V) ∧ lat = L)) (hq : q < gr ∧ gr ≤ 12) (hp : p < 495) : Ct l g 10 0 0 yX8_crossed cX8_crossed 3 (some .int) [.ref aM, .int (nI q), .int (nI p)] [(aM, .inr (8, [.ref aS, .ref aK, .ref aL, .ref aC, .ref aW, .ref aR, .ref aT, .ref aH, .ref aF, .int (nI ts), .int kp])), (aC, .inr (0, [.ref aS, .ref aL, .ref aV, .ref aO, .ref aCs, .ref aCl, .ref aCh, .ref aCw, .ref aCc, .ref aCb, .int (nI tot), .int (nI lat), .int se, .int sw])), (aCs, .inl (g.2.1 0, 495, .inl (nIf sd))), (aCl, .inl (g.2.1 0, 495, .inl (nIf li))), (aCc, .inl (g.2.1 0, 495, .inl (nIf cr))), (aL, .inr (5, [.ref aLb, .ref aLp])), (aLb, .inl (g.2.1 0, 495, .inl (nIf rowB))), (aLp, .inl (g.2.1 0, 495, .inl (nIf packB))), (aV, .inr (2, [.ref aS, .ref aVs])), (aVs, .inl (g.2.1 0, 60, .inl sk)), (aS, .inr (6, [.ref aSk, .ref aSm, .ref aSp, .ref aSt, .ref aSc, .ref aSr, .ref aSe, .int (nI gr), .int (nI br), .int (nI cs), .int (nI wk), .int z])), (aSk, .inl (g.2.1 0, 12, .inl (nIf ki))), (aSm, .inl (g.2.1 0, 12, .inl (nIf ma))), (aSp, .inl (g.2.1 0, 40, .inl (nIf bp))), (aSt, .inl (g.2.1 0, 40, .inl (nIf bt))), (aSc, .inl (g.2.1 0, 60, .inl co)), (aSe, .inl (g.2.1 0, 320, .inl ce))] (fun vv_ ww_ => ∃ (li2 : Nat → Nat) (sk2 : Nat → Int32), vv_ = some (.int (nI (shN (ki q) (ma q) p L (sdF cs V)))) ∧ ww_ = [(aM, .inr (8, [.ref aS, .ref aK, .ref aL, .ref aC, .ref aW, .ref aR, .ref aT, .ref aH, .ref aF, .int (nI ts), .int kp])), (aC, .inr (0, [.ref aS, .ref aL, .ref aV, .ref aO, .ref aCs, .ref aCl, .ref aCh, .ref aCw, .ref aCc, .ref aCb, .int (nI (totF gr ki ma bp bt br L (sdF cs V))), .int (nI L), .int 1, .int sw])), (aCs, .inl (g.2.1 0, 495, .inl (nIf (sdF cs V)))), (aCl, .inl (g.2.1 0, 495, .inl (nIf li2))), (aCc, .inl (g.2.1 0, 495, .inl (nIf (crF gr ki ma bp bt br L (sdF cs V))))), (aL, .inr (5, [.ref aLb, .ref aLp])), (aLb, .inl (g.2.1 0, 495, .inl (nIf rowB))), (aLp, .inl (g.2.1 0, 495, .inl (nIf packB))), (aV, .inr (2, [.ref aS, .ref aVs])), (aVs, .inl (g.2.1 0, 60, .inl sk2)), (aS, .inr (6, [.ref aSk, .ref aSm, .ref aSp, .ref aSt, .ref aSc, .ref aSr, .ref aSe, .int (nI gr), .int (nI br), .int (nI cs), .int (nI wk), .int z])), (aSk, .inl (g.2.1 0, 12, .inl (nIf ki))), (aSm, .inl (g.2.1 0, 12, .inl (nIf ma))), (aSp, .inl (g.2.1 0, 40, .inl (nIf bp))), (aSt, .inl (g.2.1 0, 40, .inl (nIf bt))), (aSc, .inl (g.2.1 0, 60, .inl co)), (aSe, .inl (g.2.1 0, 320, .inl ce))]) := by
  refine Ct.ofX (lv := [some (.ref aM), some (.int (nI q)), some (.int (nI p))]) (by decide) rfl (Nat.le_of_ble_eq_true rfl) (fun κ => ?_)
  generalize hQ : xQ κ g 0 0 _ = Q
  refine x_iload_n dX8_crossed_0 rfl ?_
  refine x_iconst (-1) dX8_crossed_1 (by decide) ?_
  refine x_icmp_eq dX8_crossed_2 (fun c2 => ?_) (fun c2 => ?_)
  · have c2 : (nI q) = (-1) := c2
    exact absurd c2 (nI_nem1 (by omega))
  · have c2 : ¬ ((nI q) = (-1)) := c2
    refine x_aload_n dX8_crossed_5 rfl ?_
    refine x_iload_n dX8_crossed_6 rfl ?_
    refine x_cVi0 dX8_crossed_7 ml_X8_107 mX8_isPeople (ct_isPeople_n κ.2.1 g aM aS aK aL aC aW aR aT aH aF ts kp aSk aSm aSp aSt aSc aSr aSe gr br cs wk z q (hq)) [0, 10] rfl rfl 0 rfl rfl rfl (Nat.le_of_ble_eq_true rfl) (by decide) (Nat.le_refl _) (Nat.le_refl _) ?_
    refine x_if_eq dX8_crossed_10 (fun c10 => ?_) (fun c10 => ?_)
    · exact absurd c10 (by decide)
    refine x_iload_n dX8_crossed_13 rfl ?_
    refine x_cSi dX8_crossed_14 ml_X8_82 mX8_isPlace (ct_isPlace_n κ.2.1 g p (hp)) rfl (Nat.le_of_ble_eq_true rfl) (by decide) (Nat.le_refl _) (Nat.le_refl _) ?_
    refine x_if_ne dX8_crossed_17 (fun c17 => ?_) (fun c17 => ?_)
    rotate_left
    · exact absurd c17 (by decide)
    refine x_aload_n dX8_crossed_26 rfl ?_
    refine x_get dX8_crossed_27 0 3 inX8 fl_X8_36 rfl rfl (by decide) rfl ?_
    refine x_callV dX8_crossed_30 ml_X8_114 mX0_settle (ct_X0_settle κ.2.1 g aC aS aL aV aO aCs aCl aCh aCw aCc aCb tot lat se sw aLb aLp aVs aSk aSm aSp aSt aSc aSr aSe gr br cs wk z sd li cr ki ma bp bt co ce sk V L (hgr) (hbr) (hcs) (hwk) (hki) (hma) (hbp) (hlat) (hL) (hV) (hse)) [1, 2, 3, 4, 5, 6, 7, 8, 9, 10, 11, 12, 13, 14, 15, 16] rfl rfl 1 rfl rfl rfl (Nat.le_of_ble_eq_true rfl) (by decide) (Nat.le_refl _) (Nat.le_refl _) (fun vv ww hp => ?_)
    obtain ⟨z1, z2, rfl, rfl⟩ := hp
    refine ⟨(rfl : [aC, aCs, aCl, aCc, aL, aLb, aLp, aV, aVs, aS, aSk, aSm, aSp, aSt, aSc, aSe] = [aC, aCs, aCl, aCc, aL, aLb, aLp, aV, aVs, aS, aSk, aSm, aSp, aSt, aSc, aSe]), x_eq (lv' := [some (.ref aM), some (.int (nI q)), some (.int (nI p))]) (st' := []) (ws' := [(aM, .inr (8, [.ref aS, .ref aK, .ref aL, .ref aC, .ref aW, .ref aR, .ref aT, .ref aH, .ref aF, .int (nI ts), .int kp])), (aC, .inr (0, [.ref aS, .ref aL, .ref aV, .ref aO, .ref aCs, .ref aCl, .ref aCh, .ref aCw, .ref aCc, .ref aCb, .int (nI (totF gr ki ma bp bt br L (sdF cs V))), .int (nI L), .int 1, .int sw])), (aCs, .inl (g.2.1 0, 495, .inl (nIf (sdF cs V)))), (aCl, .inl (g.2.1 0, 495, .inl (nIf z1))), (aCc, .inl (g.2.1 0, 495, .inl (nIf (crF gr ki ma bp bt br L (sdF cs V))))), (aL, .inr (5, [.ref aLb, .ref aLp])), (aLb, .inl (g.2.1 0, 495, .inl (nIf rowB))), (aLp, .inl (g.2.1 0, 495, .inl (nIf packB))), (aV, .inr (2, [.ref aS, .ref aVs])), (aVs, .inl (g.2.1 0, 60, .inl z2)), (aS, .inr (6, [.ref aSk, .ref aSm, .ref aSp, .ref aSt, .ref aSc, .ref aSr, .ref aSe, .int (nI gr), .int (nI br), .int (nI cs), .int (nI wk), .int z])), (aSk, .inl (g.2.1 0, 12, .inl (nIf ki))), (aSm, .inl (g.2.1 0, 12, .inl (nIf ma))), (aSp, .inl (g.2.1 0, 40, .inl (nIf bp))), (aSt, .inl (g.2.1 0, 40, .inl (nIf bt))), (aSc, .inl (g.2.1 0, 60, .inl co)), (aSe, .inl (g.2.1 0, 320, .inl ce))]) ?_ rfl rfl rfl⟩
    refine x_iload_n dX8_crossed_33 rfl ?_
    refine x_iconst (-1) dX8_crossed_34 (by decide) ?_
    refine x_icmp_ne dX8_crossed_35 (fun c35 => ?_) (fun c35 => ?_)
    · have c35 : ¬ ((nI q) = (-1)) := c35
      refine x_aload_n dX8_crossed_50 rfl ?_
      refine x_get dX8_crossed_51 0 3 inX8 fl_X8_36 rfl rfl (by decide) rfl ?_
      refine x_aload_n dX8_crossed_54 rfl ?_
      refine x_get dX8_crossed_55 0 0 inX8 fl_X8_10 rfl rfl (by decide) rfl ?_
      refine x_get dX8_crossed_58 10 0 inX6 fl_X8_98 rfl rfl (by decide) rfl ?_
      refine x_iload_n dX8_crossed_61 rfl ?_
      refine x_iald dX8_crossed_62 11 q rfl (rfl) (by omega) (by decide) ?_
      refine x_aload_n dX8_crossed_63 rfl ?_
      refine x_get dX8_crossed_64 0 0 inX8 fl_X8_10 rfl rfl (by decide) rfl ?_
      refine x_get dX8_crossed_67 10 1 inX6 fl_X8_101 rfl rfl (by decide) rfl ?_
      refine x_iload_n dX8_crossed_70 rfl ?_
      refine x_iald dX8_crossed_71 12 q rfl (rfl) (by omega) (by decide) ?_
      refine x_iload_n dX8_crossed_72 rfl ?_
      refine x_cVi (ws' := [(aM, .inr (8, [.ref aS, .ref aK, .ref aL, .ref aC, .ref aW, .ref aR, .ref aT, .ref aH, .ref aF, .int (nI ts), .int kp])), (aC, .inr (0, [.ref aS, .ref aL, .ref aV, .ref aO, .ref aCs, .ref aCl, .ref aCh, .ref aCw, .ref aCc, .ref aCb, .int (nI (totF gr ki ma bp bt br L (sdF cs V))), .int (nI L), .int 1, .int sw])), (aCs, .inl (g.2.1 0, 495, .inl (nIf (sdF cs V)))), (aCl, .inl (g.2.1 0, 495, .inl (nIf (fun p => lkN (ki q) (ma q) p L ((sdF cs V) p))))), (aCc, .inl (g.2.1 0, 495, .inl (nIf (crF gr ki ma bp bt br L (sdF cs V))))), (aL, .inr (5, [.ref aLb, .ref aLp])), (aLb, .inl (g.2.1 0, 495, .inl (nIf rowB))), (aLp, .inl (g.2.1 0, 495, .inl (nIf packB))), (aV, .inr (2, [.ref aS, .ref aVs])), (aVs, .inl (g.2.1 0, 60, .inl z2)), (aS, .inr (6, [.ref aSk, .ref aSm, .ref aSp, .ref aSt, .ref aSc, .ref aSr, .ref aSe, .int (nI gr), .int (nI br), .int (nI cs), .int (nI wk), .int z])), (aSk, .inl (g.2.1 0, 12, .inl (nIf ki))), (aSm, .inl (g.2.1 0, 12, .inl (nIf ma))), (aSp, .inl (g.2.1 0, 40, .inl (nIf bp))), (aSt, .inl (g.2.1 0, 40, .inl (nIf bt))), (aSc, .inl (g.2.1 0, 60, .inl co)), (aSe, .inl (g.2.1 0, 320, .inl ce))]) dX8_crossed_73 ml_X8_124 mX0_crossesBy (ct_X0_crossesBy κ.2.1 g aC aS aL aV aO aCs aCl aCh aCw aCc aCb (totF gr ki ma bp bt br L (sdF cs V)) L 1 sw aLb aLp (sdF cs V) z1 (ki q) (ma q) p (by have := hki q; omega) (hma q) (hL) (sdF_le cs V) (hp)) [1, 2, 3, 5, 6] rfl rfl 1 rfl rfl rfl (Nat.le_of_ble_eq_true rfl) (by decide) (Nat.le_refl _) (Nat.le_refl _) (rfl : [aC, aCs, aCl, aL, aLb] = [aC, aCs, aCl, aL, aLb]) rfl ?_
      rw [← hQ]
      refine x_iret dX8_crossed_76 rfl (Nat.le_of_ble_eq_true rfl) (Nat.le_of_ble_eq_true rfl) ?_
      exact ⟨_, _, rfl, rfl⟩
    · have c35 : (nI q) = (-1) := c35
      exact absurd c35 (nI_nem1 (by omega))

-- == buys_b ==
theorem dX8_buys_0 : xd cX8_buys 0 (.iload_n 1) 1 1 := ⟨by decide +kernel, rfl⟩
theorem dX8_buys_1 : xd cX8_buys 1 (.invokestatic 82) 3 4 := ⟨by decide +kernel, rfl⟩
theorem dX8_buys_4 : xj cX8_buys 4 (.ifCond .eq) 7 18 := ⟨14, by decide +kernel, rfl, by decide⟩
theorem dX8_buys_7 : xd cX8_buys 7 (.iload_n 2) 1 8 := ⟨by decide +kernel, rfl⟩
theorem dX8_buys_8 : xd cX8_buys 8 (.iconst 1) 1 9 := ⟨by decide +kernel, rfl⟩
theorem dX8_buys_9 : xd cX8_buys 9 (.sipush 9999) 3 12 := ⟨by decide +kernel, rfl⟩
theorem dX8_buys_12 : xd cX8_buys 12 (.invokestatic 89) 3 15 := ⟨by decide +kernel, rfl⟩
theorem dX8_buys_15 : xj cX8_buys 15 (.ifCond .ne) 18 24 := ⟨9, by decide +kernel, rfl, by decide⟩
theorem dX8_buys_18 : xd cX8_buys 18 (.aload_n 0) 1 19 := ⟨by decide +kernel, rfl⟩
theorem dX8_buys_19 : xd cX8_buys 19 (.iconst 0) 1 20 := ⟨by decide +kernel, rfl⟩
theorem dX8_buys_20 : xd cX8_buys 20 (.invokevirtual 79) 3 23 := ⟨by decide +kernel, rfl⟩
theorem dX8_buys_23 : xd cX8_buys 23 .ireturn 1 24 := ⟨by decide +kernel, rfl⟩
theorem dX8_buys_24 : xd cX8_buys 24 (.aload_n 0) 1 25 := ⟨by decide +kernel, rfl⟩
theorem dX8_buys_25 : xd cX8_buys 25 (.getfield 10) 3 28 := ⟨by decide +kernel, rfl⟩
theorem dX8_buys_28 : xd cX8_buys 28 (.iload_n 1) 1 29 := ⟨by decide +kernel, rfl⟩
theorem dX8_buys_29 : xd cX8_buys 29 (.invokevirtual 127) 3 32 := ⟨by decide +kernel, rfl⟩
theorem dX8_buys_32 : xd cX8_buys 32 (.istore_n 3) 1 33 := ⟨by decide +kernel, rfl⟩
theorem dX8_buys_33 : xd cX8_buys 33 (.iload_n 3) 1 34 := ⟨by decide +kernel, rfl⟩
theorem dX8_buys_34 : xd cX8_buys 34 (.bipush 40) 2 36 := ⟨by decide +kernel, rfl⟩
theorem dX8_buys_36 : xj cX8_buys 36 (.if_icmp .lt) 39 45 := ⟨9, by decide +kernel, rfl, by decide⟩
theorem dX8_buys_39 : xd cX8_buys 39 (.aload_n 0) 1 40 := ⟨by decide +kernel, rfl⟩
theorem dX8_buys_40 : xd cX8_buys 40 (.iconst 1) 1 41 := ⟨by decide +kernel, rfl⟩
theorem dX8_buys_41 : xd cX8_buys 41 (.invokevirtual 79) 3 44 := ⟨by decide +kernel, rfl⟩
theorem dX8_buys_44 : xd cX8_buys 44 .ireturn 1 45 := ⟨by decide +kernel, rfl⟩
theorem dX8_buys_45 : xd cX8_buys 45 (.iload_n 3) 1 46 := ⟨by decide +kernel, rfl⟩
theorem dX8_buys_46 : xd cX8_buys 46 (.aload_n 0) 1 47 := ⟨by decide +kernel, rfl⟩
theorem dX8_buys_47 : xd cX8_buys 47 (.getfield 10) 3 50 := ⟨by decide +kernel, rfl⟩
theorem dX8_buys_50 : xd cX8_buys 50 (.getfield 130) 3 53 := ⟨by decide +kernel, rfl⟩
theorem dX8_buys_53 : xj cX8_buys 53 (.if_icmp .ge) 56 68 := ⟨15, by decide +kernel, rfl, by decide⟩
theorem dX8_buys_56 : xd cX8_buys 56 (.aload_n 0) 1 57 := ⟨by decide +kernel, rfl⟩
theorem dX8_buys_57 : xd cX8_buys 57 (.getfield 10) 3 60 := ⟨by decide +kernel, rfl⟩
theorem dX8_buys_60 : xd cX8_buys 60 (.getfield 133) 3 63 := ⟨by decide +kernel, rfl⟩
theorem dX8_buys_63 : xd cX8_buys 63 (.iload_n 3) 1 64 := ⟨by decide +kernel, rfl⟩
theorem dX8_buys_64 : xd cX8_buys 64 .iaload 1 65 := ⟨by decide +kernel, rfl⟩
theorem dX8_buys_65 : xj cX8_buys 65 .goto 68 69 := ⟨4, by decide +kernel, rfl, by decide⟩
theorem dX8_buys_68 : xd cX8_buys 68 (.iconst 0) 1 69 := ⟨by decide +kernel, rfl⟩
theorem dX8_buys_69 : xd cX8_buys 69 (.istore 4) 2 71 := ⟨by decide +kernel, rfl⟩
theorem dX8_buys_71 : xd cX8_buys 71 (.iload 4) 2 73 := ⟨by decide +kernel, rfl⟩
theorem dX8_buys_73 : xd cX8_buys 73 (.iload_n 2) 1 74 := ⟨by decide +kernel, rfl⟩
theorem dX8_buys_74 : xd cX8_buys 74 .iadd 1 75 := ⟨by decide +kernel, rfl⟩
theorem dX8_buys_75 : xd cX8_buys 75 (.ldc 93) 2 77 := ⟨by decide +kernel, rfl⟩
theorem dX8_buys_77 : xj cX8_buys 77 (.if_icmp .le) 80 86 := ⟨9, by decide +kernel, rfl, by decide⟩
theorem dX8_buys_80 : xd cX8_buys 80 (.aload_n 0) 1 81 := ⟨by decide +kernel, rfl⟩
theorem dX8_buys_81 : xd cX8_buys 81 (.iconst 1) 1 82 := ⟨by decide +kernel, rfl⟩
theorem dX8_buys_82 : xd cX8_buys 82 (.invokevirtual 79) 3 85 := ⟨by decide +kernel, rfl⟩
theorem dX8_buys_85 : xd cX8_buys 85 .ireturn 1 86 := ⟨by decide +kernel, rfl⟩
theorem dX8_buys_86 : xd cX8_buys 86 (.aload_n 0) 1 87 := ⟨by decide +kernel, rfl⟩
theorem dX8_buys_87 : xd cX8_buys 87 (.getfield 10) 3 90 := ⟨by decide +kernel, rfl⟩
theorem dX8_buys_90 : xd cX8_buys 90 (.getfield 136) 3 93 := ⟨by decide +kernel, rfl⟩
theorem dX8_buys_93 : xd cX8_buys 93 (.iload_n 3) 1 94 := ⟨by decide +kernel, rfl⟩
theorem dX8_buys_94 : xd cX8_buys 94 (.iload_n 1) 1 95 := ⟨by decide +kernel, rfl⟩
theorem dX8_buys_95 : xd cX8_buys 95 .iastore 1 96 := ⟨by decide +kernel, rfl⟩
theorem dX8_buys_96 : xd cX8_buys 96 (.aload_n 0) 1 97 := ⟨by decide +kernel, rfl⟩
theorem dX8_buys_97 : xd cX8_buys 97 (.getfield 10) 3 100 := ⟨by decide +kernel, rfl⟩
theorem dX8_buys_100 : xd cX8_buys 100 (.getfield 133) 3 103 := ⟨by decide +kernel, rfl⟩
theorem dX8_buys_103 : xd cX8_buys 103 (.iload_n 3) 1 104 := ⟨by decide +kernel, rfl⟩
theorem dX8_buys_104 : xd cX8_buys 104 (.iload 4) 2 106 := ⟨by decide +kernel, rfl⟩
theorem dX8_buys_106 : xd cX8_buys 106 (.iload_n 2) 1 107 := ⟨by decide +kernel, rfl⟩
theorem dX8_buys_107 : xd cX8_buys 107 .iadd 1 108 := ⟨by decide +kernel, rfl⟩
theorem dX8_buys_108 : xd cX8_buys 108 .iastore 1 109 := ⟨by decide +kernel, rfl⟩
theorem dX8_buys_109 : xd cX8_buys 109 (.aload_n 0) 1 110 := ⟨by decide +kernel, rfl⟩
theorem dX8_buys_110 : xd cX8_buys 110 (.getfield 10) 3 113 := ⟨by decide +kernel, rfl⟩
theorem dX8_buys_113 : xd cX8_buys 113 (.aload_n 0) 1 114 := ⟨by decide +kernel, rfl⟩
theorem dX8_buys_114 : xd cX8_buys 114 (.getfield 10) 3 117 := ⟨by decide +kernel, rfl⟩
theorem dX8_buys_117 : xd cX8_buys 117 (.getfield 130) 3 120 := ⟨by decide +kernel, rfl⟩
theorem dX8_buys_120 : xd cX8_buys 120 (.iload_n 3) 1 121 := ⟨by decide +kernel, rfl⟩
theorem dX8_buys_121 : xd cX8_buys 121 (.iconst 1) 1 122 := ⟨by decide +kernel, rfl⟩
theorem dX8_buys_122 : xd cX8_buys 122 .iadd 1 123 := ⟨by decide +kernel, rfl⟩
theorem dX8_buys_123 : xd cX8_buys 123 (.invokestatic 139) 3 126 := ⟨by decide +kernel, rfl⟩
theorem dX8_buys_126 : xd cX8_buys 126 (.putfield 130) 3 129 := ⟨by decide +kernel, rfl⟩
theorem dX8_buys_129 : xd cX8_buys 129 (.aload_n 0) 1 130 := ⟨by decide +kernel, rfl⟩
theorem dX8_buys_130 : xd cX8_buys 130 (.getfield 36) 3 133 := ⟨by decide +kernel, rfl⟩
theorem dX8_buys_133 : xd cX8_buys 133 (.invokevirtual 104) 3 136 := ⟨by decide +kernel, rfl⟩
theorem dX8_buys_136 : xd cX8_buys 136 (.iload 4) 2 138 := ⟨by decide +kernel, rfl⟩
theorem dX8_buys_138 : xd cX8_buys 138 (.iload_n 2) 1 139 := ⟨by decide +kernel, rfl⟩
theorem dX8_buys_139 : xd cX8_buys 139 .iadd 1 140 := ⟨by decide +kernel, rfl⟩
theorem dX8_buys_140 : xd cX8_buys 140 .ireturn 1 141 := ⟨by decide +kernel, rfl⟩

set_option maxRecDepth 100000 in
set_option maxHeartbeats 4000000 in
theorem ct_buys_b (l : Launch) (g : XG) (aM aS aK aL aC aW aR aT aH aF : Nat) (ts : Nat) (kp : Int32) (aSk aSm aSp aSt aSc aSr aSe gr br cs wk : Nat) (z : Int32) (fi : Nat → Nat) (pl nn : Int32) (hb : wI pl 0 494 = 0 ∨ wI nn 1 9999 = 0) : Ct l g 10 0 0 yX8_buys cX8_buys 5 (some .int) [.ref aM, .int pl, .int nn] [(aM, .inr (8, [.ref aS, .ref aK, .ref aL, .ref aC, .ref aW, .ref aR, .ref aT, .ref aH, .ref aF, .int (nI ts), .int kp])), (aF, .inl (g.2.1 0, 7, .inl (nIf fi))), (aS, .inr (6, [.ref aSk, .ref aSm, .ref aSp, .ref aSt, .ref aSc, .ref aSr, .ref aSe, .int (nI gr), .int (nI br), .int (nI cs), .int (nI wk), .int z]))] (xpi (fndI 0) [(aM, .inr (8, [.ref aS, .ref aK, .ref aL, .ref aC, .ref aW, .ref aR, .ref aT, .ref aH, .ref aF, .int (nI ts), .int kp])), (aF, .inl (g.2.1 0, 7, .inl (nIf (updN fi 0 (fi 0 + 1))))), (aS, .inr (6, [.ref aSk, .ref aSm, .ref aSp, .ref aSt, .ref aSc, .ref aSr, .ref aSe, .int (nI gr), .int (nI br), .int (nI cs), .int (nI wk), .int z]))]) := by
  refine Ct.ofX (lv := [some (.ref aM), some (.int pl), some (.int nn), none, none]) (by decide) rfl (Nat.le_of_ble_eq_true rfl) (fun κ => ?_)
  generalize hQ : xQ κ g 0 0 _ = Q
  refine x_iload_n dX8_buys_0 rfl ?_
  refine x_cSi dX8_buys_1 ml_X8_82 mX8_isPlace (ct_X8_isPlace κ.2.1 g pl) rfl (Nat.le_of_ble_eq_true rfl) (by decide) (Nat.le_refl _) (Nat.le_refl _) ?_
  refine x_if_eq dX8_buys_4 (fun c4 => ?_) (fun c4 => ?_)
  · have c4 : (wI pl 0 494) = 0 := c4
    refine x_aload_n dX8_buys_18 rfl ?_
    refine x_iconst 0 dX8_buys_19 (by decide) ?_
    refine x_cVi (ws' := [(aM, .inr (8, [.ref aS, .ref aK, .ref aL, .ref aC, .ref aW, .ref aR, .ref aT, .ref aH, .ref aF, .int (nI ts), .int kp])), (aF, .inl (g.2.1 0, 7, .inl (nIf (updN fi 0 (fi 0 + 1))))), (aS, .inr (6, [.ref aSk, .ref aSm, .ref aSp, .ref aSt, .ref aSc, .ref aSr, .ref aSe, .int (nI gr), .int (nI br), .int (nI cs), .int (nI wk), .int z]))]) dX8_buys_20 ml_X8_79 mX8_tell (ct_X8_tell κ.2.1 g aM aS aK aL aC aW aR aT aH aF ts kp fi 0 (by decide)) [0, 1] rfl rfl 0 rfl rfl rfl (Nat.le_of_ble_eq_true rfl) (by decide) (Nat.le_refl _) (Nat.le_refl _) (rfl : [aM, aF] = [aM, aF]) rfl ?_
    rw [← hQ]
    refine x_iret dX8_buys_23 rfl (Nat.le_of_ble_eq_true rfl) (Nat.le_of_ble_eq_true rfl) ?_
    exact ⟨rfl, rfl⟩
  · have c4 : ¬ ((wI pl 0 494) = 0) := c4
    refine x_iload_n dX8_buys_7 rfl ?_
    refine x_iconst 1 dX8_buys_8 (by decide) ?_
    refine x_sipush 9999 dX8_buys_9 (by decide) ?_
    refine x_cSi dX8_buys_12 ml_X8_89 mX8_within (ct_X8_within κ.2.1 g nn 1 9999) rfl (Nat.le_of_ble_eq_true rfl) (by decide) (Nat.le_refl _) (Nat.le_refl _) ?_
    refine x_if_ne dX8_buys_15 (fun c15 => ?_) (fun c15 => ?_)
    · have c15 : ¬ ((wI nn 1 9999) = 0) := c15
      exact absurd (hb.resolve_left c4) c15
    · have c15 : (wI nn 1 9999) = 0 := c15
      refine x_aload_n dX8_buys_18 rfl ?_
      refine x_iconst 0 dX8_buys_19 (by decide) ?_
      refine x_cVi (ws' := [(aM, .inr (8, [.ref aS, .ref aK, .ref aL, .ref aC, .ref aW, .ref aR, .ref aT, .ref aH, .ref aF, .int (nI ts), .int kp])), (aF, .inl (g.2.1 0, 7, .inl (nIf (updN fi 0 (fi 0 + 1))))), (aS, .inr (6, [.ref aSk, .ref aSm, .ref aSp, .ref aSt, .ref aSc, .ref aSr, .ref aSe, .int (nI gr), .int (nI br), .int (nI cs), .int (nI wk), .int z]))]) dX8_buys_20 ml_X8_79 mX8_tell (ct_X8_tell κ.2.1 g aM aS aK aL aC aW aR aT aH aF ts kp fi 0 (by decide)) [0, 1] rfl rfl 0 rfl rfl rfl (Nat.le_of_ble_eq_true rfl) (by decide) (Nat.le_refl _) (Nat.le_refl _) (rfl : [aM, aF] = [aM, aF]) rfl ?_
      rw [← hQ]
      refine x_iret dX8_buys_23 rfl (Nat.le_of_ble_eq_true rfl) (Nat.le_of_ble_eq_true rfl) ?_
      exact ⟨rfl, rfl⟩

-- == buys_f ==
set_option maxRecDepth 100000 in
set_option maxHeartbeats 4000000 in
theorem ct_buys_f (l : Launch) (g : XG) (aM aS aK aL aC aW aR aT aH aF : Nat) (ts : Nat) (kp : Int32) (aSk aSm aSp aSt aSc aSr aSe gr br cs wk : Nat) (z : Int32) (fi : Nat → Nat) (aV aO aCs aCl aCh aCw aCc aCb tot lat : Nat) (se sw : Int32) (bp bt : Nat → Nat) (p n : Nat) (hp : p < 495) (hn : 1 ≤ n ∧ n ≤ 9999) (hbr : br ≤ 40) (hbp : ∀ j, bp j < 495) (hbt : ∀ j, bt j ≤ 99999) (hf : fa_first (fun j => bp j == p) br = 40) : Ct l g 10 0 0 yX8_buys cX8_buys 5 (some .int) [.ref aM, .int (nI p), .int (nI n)] [(aM, .inr (8, [.ref aS, .ref aK, .ref aL, .ref aC, .ref aW, .ref aR, .ref aT, .ref aH, .ref aF, .int (nI ts), .int kp])), (aF, .inl (g.2.1 0, 7, .inl (nIf fi))), (aS, .inr (6, [.ref aSk, .ref aSm, .ref aSp, .ref aSt, .ref aSc, .ref aSr, .ref aSe, .int (nI gr), .int (nI br), .int (nI cs), .int (nI wk), .int z])), (aSp, .inl (g.2.1 0, 40, .inl (nIf bp))), (aSt, .inl (g.2.1 0, 40, .inl (nIf bt))), (aC, .inr (0, [.ref aS, .ref aL, .ref aV, .ref aO, .ref aCs, .ref aCl, .ref aCh, .ref aCw, .ref aCc, .ref aCb, .int (nI tot), .int (nI lat), .int se, .int sw]))] (xpi (fndI 1) [(aM, .inr (8, [.ref aS, .ref aK, .ref aL, .ref aC, .ref aW, .ref aR, .ref aT, .ref aH, .ref aF, .int (nI ts), .int kp])), (aF, .inl (g.2.1 0, 7, .inl (nIf (updN fi 1 (fi 1 + 1))))), (aS, .inr (6, [.ref aSk, .ref aSm, .ref aSp, .ref aSt, .ref aSc, .ref aSr, .ref aSe, .int (nI gr), .int (nI br), .int (nI cs), .int (nI wk), .int z])), (aSp, .inl (g.2.1 0, 40, .inl (nIf bp))), (aSt, .inl (g.2.1 0, 40, .inl (nIf bt))), (aC, .inr (0, [.ref aS, .ref aL, .ref aV, .ref aO, .ref aCs, .ref aCl, .ref aCh, .ref aCw, .ref aCc, .ref aCb, .int (nI tot), .int (nI lat), .int se, .int sw]))]) := by
  refine Ct.ofX (lv := [some (.ref aM), some (.int (nI p)), some (.int (nI n)), none, none]) (by decide) rfl (Nat.le_of_ble_eq_true rfl) (fun κ => ?_)
  generalize hQ : xQ κ g 0 0 _ = Q
  refine x_iload_n dX8_buys_0 rfl ?_
  refine x_cSi dX8_buys_1 ml_X8_82 mX8_isPlace (ct_isPlace_n κ.2.1 g p (hp)) rfl (Nat.le_of_ble_eq_true rfl) (by decide) (Nat.le_refl _) (Nat.le_refl _) ?_
  refine x_if_eq dX8_buys_4 (fun c4 => ?_) (fun c4 => ?_)
  · exact absurd c4 (by decide)
  refine x_iload_n dX8_buys_7 rfl ?_
  refine x_iconst 1 dX8_buys_8 (by decide) ?_
  refine x_sipush 9999 dX8_buys_9 (by decide) ?_
  refine x_cSi dX8_buys_12 ml_X8_89 mX8_within (ct_within_n κ.2.1 g n 1 9999 (⟨by omega, by omega, by omega, by omega⟩)) rfl (Nat.le_of_ble_eq_true rfl) (by decide) (Nat.le_refl _) (Nat.le_refl _) ?_
  refine x_if_ne dX8_buys_15 (fun c15 => ?_) (fun c15 => ?_)
  rotate_left
  · exact absurd c15 (by decide)
  refine x_aload_n dX8_buys_24 rfl ?_
  refine x_get dX8_buys_25 0 0 inX8 fl_X8_10 rfl rfl (by decide) rfl ?_
  refine x_iload_n dX8_buys_28 rfl ?_
  refine x_cVi0 dX8_buys_29 ml_X8_127 mX6_boughtAt (ct_X6_boughtAt κ.2.1 g aS aSk aSm aSp aSt aSc aSr aSe gr br cs wk z bp p (hbr) (by omega) (hbp)) [2, 3] rfl rfl 2 rfl rfl rfl (Nat.le_of_ble_eq_true rfl) (by decide) (Nat.le_refl _) (Nat.le_refl _) ?_
  refine x_rei (40) (by rw [hf]; rfl) ?_
  refine x_istore_n (lv' := [some (.ref aM), some (.int (nI p)), some (.int (nI n)), some (.int 40), none]) dX8_buys_32 (xlt rfl) rfl ?_
  refine x_iload_n dX8_buys_33 rfl ?_
  refine x_bipush 40 dX8_buys_34 (by decide) ?_
  refine x_icmp_lt dX8_buys_36 (fun c36 => ?_) (fun c36 => ?_)
  · exact absurd c36 (by decide)
  refine x_aload_n dX8_buys_39 rfl ?_
  refine x_iconst 1 dX8_buys_40 (by decide) ?_
  refine x_cVi (ws' := [(aM, .inr (8, [.ref aS, .ref aK, .ref aL, .ref aC, .ref aW, .ref aR, .ref aT, .ref aH, .ref aF, .int (nI ts), .int kp])), (aF, .inl (g.2.1 0, 7, .inl (nIf (updN fi 1 (fi 1 + 1))))), (aS, .inr (6, [.ref aSk, .ref aSm, .ref aSp, .ref aSt, .ref aSc, .ref aSr, .ref aSe, .int (nI gr), .int (nI br), .int (nI cs), .int (nI wk), .int z])), (aSp, .inl (g.2.1 0, 40, .inl (nIf bp))), (aSt, .inl (g.2.1 0, 40, .inl (nIf bt))), (aC, .inr (0, [.ref aS, .ref aL, .ref aV, .ref aO, .ref aCs, .ref aCl, .ref aCh, .ref aCw, .ref aCc, .ref aCb, .int (nI tot), .int (nI lat), .int se, .int sw]))]) dX8_buys_41 ml_X8_79 mX8_tell (ct_X8_tell κ.2.1 g aM aS aK aL aC aW aR aT aH aF ts kp fi 1 (by decide)) [0, 1] rfl rfl 0 rfl rfl rfl (Nat.le_of_ble_eq_true rfl) (by decide) (Nat.le_refl _) (Nat.le_refl _) (rfl : [aM, aF] = [aM, aF]) rfl ?_
  rw [← hQ]
  refine x_iret dX8_buys_44 rfl (Nat.le_of_ble_eq_true rfl) (Nat.le_of_ble_eq_true rfl) ?_
  exact ⟨rfl, rfl⟩

-- == buys_g ==
set_option maxRecDepth 100000 in
set_option maxHeartbeats 4000000 in
theorem ct_buys_g (l : Launch) (g : XG) (aM aS aK aL aC aW aR aT aH aF : Nat) (ts : Nat) (kp : Int32) (aSk aSm aSp aSt aSc aSr aSe gr br cs wk : Nat) (z : Int32) (fi : Nat → Nat) (aV aO aCs aCl aCh aCw aCc aCb tot lat : Nat) (se sw : Int32) (bp bt : Nat → Nat) (p n : Nat) (at_ : Nat) (hp : p < 495) (hn : 1 ≤ n ∧ n ≤ 9999) (hbr : br ≤ 40) (hbp : ∀ j, bp j < 495) (hbt : ∀ j, bt j ≤ 99999) (hf : fa_first (fun j => bp j == p) br = at_) (hat : at_ < br) (hov : 99999 < bt at_ + n) : Ct l g 10 0 0 yX8_buys cX8_buys 5 (some .int) [.ref aM, .int (nI p), .int (nI n)] [(aM, .inr (8, [.ref aS, .ref aK, .ref aL, .ref aC, .ref aW, .ref aR, .ref aT, .ref aH, .ref aF, .int (nI ts), .int kp])), (aF, .inl (g.2.1 0, 7, .inl (nIf fi))), (aS, .inr (6, [.ref aSk, .ref aSm, .ref aSp, .ref aSt, .ref aSc, .ref aSr, .ref aSe, .int (nI gr), .int (nI br), .int (nI cs), .int (nI wk), .int z])), (aSp, .inl (g.2.1 0, 40, .inl (nIf bp))), (aSt, .inl (g.2.1 0, 40, .inl (nIf bt))), (aC, .inr (0, [.ref aS, .ref aL, .ref aV, .ref aO, .ref aCs, .ref aCl, .ref aCh, .ref aCw, .ref aCc, .ref aCb, .int (nI tot), .int (nI lat), .int se, .int sw]))] (xpi (fndI 1) [(aM, .inr (8, [.ref aS, .ref aK, .ref aL, .ref aC, .ref aW, .ref aR, .ref aT, .ref aH, .ref aF, .int (nI ts), .int kp])), (aF, .inl (g.2.1 0, 7, .inl (nIf (updN fi 1 (fi 1 + 1))))), (aS, .inr (6, [.ref aSk, .ref aSm, .ref aSp, .ref aSt, .ref aSc, .ref aSr, .ref aSe, .int (nI gr), .int (nI br), .int (nI cs), .int (nI wk), .int z])), (aSp, .inl (g.2.1 0, 40, .inl (nIf bp))), (aSt, .inl (g.2.1 0, 40, .inl (nIf bt))), (aC, .inr (0, [.ref aS, .ref aL, .ref aV, .ref aO, .ref aCs, .ref aCl, .ref aCh, .ref aCw, .ref aCc, .ref aCb, .int (nI tot), .int (nI lat), .int se, .int sw]))]) := by
  refine Ct.ofX (lv := [some (.ref aM), some (.int (nI p)), some (.int (nI n)), none, none]) (by decide) rfl (Nat.le_of_ble_eq_true rfl) (fun κ => ?_)
  generalize hQ : xQ κ g 0 0 _ = Q
  refine x_iload_n dX8_buys_0 rfl ?_
  refine x_cSi dX8_buys_1 ml_X8_82 mX8_isPlace (ct_isPlace_n κ.2.1 g p (hp)) rfl (Nat.le_of_ble_eq_true rfl) (by decide) (Nat.le_refl _) (Nat.le_refl _) ?_
  refine x_if_eq dX8_buys_4 (fun c4 => ?_) (fun c4 => ?_)
  · exact absurd c4 (by decide)
  refine x_iload_n dX8_buys_7 rfl ?_
  refine x_iconst 1 dX8_buys_8 (by decide) ?_
  refine x_sipush 9999 dX8_buys_9 (by decide) ?_
  refine x_cSi dX8_buys_12 ml_X8_89 mX8_within (ct_within_n κ.2.1 g n 1 9999 (⟨by omega, by omega, by omega, by omega⟩)) rfl (Nat.le_of_ble_eq_true rfl) (by decide) (Nat.le_refl _) (Nat.le_refl _) ?_
  refine x_if_ne dX8_buys_15 (fun c15 => ?_) (fun c15 => ?_)
  rotate_left
  · exact absurd c15 (by decide)
  refine x_aload_n dX8_buys_24 rfl ?_
  refine x_get dX8_buys_25 0 0 inX8 fl_X8_10 rfl rfl (by decide) rfl ?_
  refine x_iload_n dX8_buys_28 rfl ?_
  refine x_cVi0 dX8_buys_29 ml_X8_127 mX6_boughtAt (ct_X6_boughtAt κ.2.1 g aS aSk aSm aSp aSt aSc aSr aSe gr br cs wk z bp p (hbr) (by omega) (hbp)) [2, 3] rfl rfl 2 rfl rfl rfl (Nat.le_of_ble_eq_true rfl) (by decide) (Nat.le_refl _) (Nat.le_refl _) ?_
  refine x_rei (nI at_) (by rw [hf]) ?_
  refine x_istore_n (lv' := [some (.ref aM), some (.int (nI p)), some (.int (nI n)), some (.int (nI at_)), none]) dX8_buys_32 (xlt rfl) rfl ?_
  refine x_iload_n dX8_buys_33 rfl ?_
  refine x_bipush 40 dX8_buys_34 (by decide) ?_
  have hbt1 := hbt at_
  refine x_icmp_lt dX8_buys_36 (fun c36 => ?_) (fun c36 => ?_)
  · have c36 : (nI at_) < 40 := c36
    have c36n := (nI_ltI (a := at_) (b := 40) (by omega) (by omega)).mp c36
    refine x_iload_n dX8_buys_45 rfl ?_
    refine x_aload_n dX8_buys_46 rfl ?_
    refine x_get dX8_buys_47 0 0 inX8 fl_X8_10 rfl rfl (by decide) rfl ?_
    refine x_get dX8_buys_50 2 8 inX6 fl_X8_130 rfl rfl (by decide) rfl ?_
    refine x_icmp_ge dX8_buys_53 (fun c53 => ?_) (fun c53 => ?_)
    · have c53 : (nI br) ≤ (nI at_) := c53
      have c53n := (nI_leI (a := br) (b := at_) (by omega) (by omega)).mp c53
      exact absurd c53n (by omega)
    · have c53 : ¬ ((nI br) ≤ (nI at_)) := c53
      have c53n := mt (nI_leI (a := br) (b := at_) (by omega) (by omega)).mpr c53
      refine x_aload_n dX8_buys_56 rfl ?_
      refine x_get dX8_buys_57 0 0 inX8 fl_X8_10 rfl rfl (by decide) rfl ?_
      refine x_get dX8_buys_60 2 3 inX6 fl_X8_133 rfl rfl (by decide) rfl ?_
      refine x_iload_n dX8_buys_63 rfl ?_
      refine x_iald dX8_buys_64 4 at_ rfl (rfl) (by omega) (by decide) ?_
      refine x_goto dX8_buys_65 ?_
      refine x_istore (lv' := [some (.ref aM), some (.int (nI p)), some (.int (nI n)), some (.int (nI at_)), some (.int (nI (bt at_)))]) dX8_buys_69 (xlt rfl) rfl ?_
      refine x_iload dX8_buys_71 rfl ?_
      refine x_iload_n dX8_buys_73 rfl ?_
      refine x_iadd dX8_buys_74 ?_
      refine x_rei (nI (bt at_ + n)) (nI_iadd (bt at_) n) ?_
      refine x_ldc dX8_buys_75 k_X8_93 ?_
      refine x_icmp_le dX8_buys_77 (fun c77 => ?_) (fun c77 => ?_)
      · have c77 : (nI (bt at_ + n)) ≤ 99999 := c77
        have c77n := (nI_leI (a := (bt at_ + n)) (b := 99999) (by omega) (by omega)).mp c77
        exact absurd c77n (by omega)
      · have c77 : ¬ ((nI (bt at_ + n)) ≤ 99999) := c77
        have c77n := mt (nI_leI (a := (bt at_ + n)) (b := 99999) (by omega) (by omega)).mpr c77
        refine x_aload_n dX8_buys_80 rfl ?_
        refine x_iconst 1 dX8_buys_81 (by decide) ?_
        refine x_cVi (ws' := [(aM, .inr (8, [.ref aS, .ref aK, .ref aL, .ref aC, .ref aW, .ref aR, .ref aT, .ref aH, .ref aF, .int (nI ts), .int kp])), (aF, .inl (g.2.1 0, 7, .inl (nIf (updN fi 1 (fi 1 + 1))))), (aS, .inr (6, [.ref aSk, .ref aSm, .ref aSp, .ref aSt, .ref aSc, .ref aSr, .ref aSe, .int (nI gr), .int (nI br), .int (nI cs), .int (nI wk), .int z])), (aSp, .inl (g.2.1 0, 40, .inl (nIf bp))), (aSt, .inl (g.2.1 0, 40, .inl (nIf bt))), (aC, .inr (0, [.ref aS, .ref aL, .ref aV, .ref aO, .ref aCs, .ref aCl, .ref aCh, .ref aCw, .ref aCc, .ref aCb, .int (nI tot), .int (nI lat), .int se, .int sw]))]) dX8_buys_82 ml_X8_79 mX8_tell (ct_X8_tell κ.2.1 g aM aS aK aL aC aW aR aT aH aF ts kp fi 1 (by decide)) [0, 1] rfl rfl 0 rfl rfl rfl (Nat.le_of_ble_eq_true rfl) (by decide) (Nat.le_refl _) (Nat.le_refl _) (rfl : [aM, aF] = [aM, aF]) rfl ?_
        rw [← hQ]
        refine x_iret dX8_buys_85 rfl (Nat.le_of_ble_eq_true rfl) (Nat.le_of_ble_eq_true rfl) ?_
        exact ⟨rfl, rfl⟩
  · have c36 : ¬ ((nI at_) < 40) := c36
    have c36n := mt (nI_ltI (a := at_) (b := 40) (by omega) (by omega)).mpr c36
    exact absurd c36n (by omega)

-- == buys_o ==
set_option maxRecDepth 100000 in
set_option maxHeartbeats 4000000 in
theorem ct_buys_o (l : Launch) (g : XG) (aM aS aK aL aC aW aR aT aH aF : Nat) (ts : Nat) (kp : Int32) (aSk aSm aSp aSt aSc aSr aSe gr br cs wk : Nat) (z : Int32) (fi : Nat → Nat) (aV aO aCs aCl aCh aCw aCc aCb tot lat : Nat) (se sw : Int32) (bp bt : Nat → Nat) (p n : Nat) (at_ : Nat) (hp : p < 495) (hn : 1 ≤ n ∧ n ≤ 9999) (hbr : br ≤ 40) (hbp : ∀ j, bp j < 495) (hbt : ∀ j, bt j ≤ 99999) (hf : fa_first (fun j => bp j == p) br = at_) (hat : at_ < br) (hov : bt at_ + n ≤ 99999) : Ct l g 10 0 0 yX8_buys cX8_buys 5 (some .int) [.ref aM, .int (nI p), .int (nI n)] [(aM, .inr (8, [.ref aS, .ref aK, .ref aL, .ref aC, .ref aW, .ref aR, .ref aT, .ref aH, .ref aF, .int (nI ts), .int kp])), (aF, .inl (g.2.1 0, 7, .inl (nIf fi))), (aS, .inr (6, [.ref aSk, .ref aSm, .ref aSp, .ref aSt, .ref aSc, .ref aSr, .ref aSe, .int (nI gr), .int (nI br), .int (nI cs), .int (nI wk), .int z])), (aSp, .inl (g.2.1 0, 40, .inl (nIf bp))), (aSt, .inl (g.2.1 0, 40, .inl (nIf bt))), (aC, .inr (0, [.ref aS, .ref aL, .ref aV, .ref aO, .ref aCs, .ref aCl, .ref aCh, .ref aCw, .ref aCc, .ref aCb, .int (nI tot), .int (nI lat), .int se, .int sw]))] (xpi (nI (bt at_ + n)) [(aM, .inr (8, [.ref aS, .ref aK, .ref aL, .ref aC, .ref aW, .ref aR, .ref aT, .ref aH, .ref aF, .int (nI ts), .int kp])), (aF, .inl (g.2.1 0, 7, .inl (nIf fi))), (aS, .inr (6, [.ref aSk, .ref aSm, .ref aSp, .ref aSt, .ref aSc, .ref aSr, .ref aSe, .int (nI gr), .int (nI br), .int (nI cs), .int (nI wk), .int z])), (aSp, .inl (g.2.1 0, 40, .inl (nIf (updN bp at_ p)))), (aSt, .inl (g.2.1 0, 40, .inl (nIf (updN bt at_ (bt at_ + n))))), (aC, .inr (0, [.ref aS, .ref aL, .ref aV, .ref aO, .ref aCs, .ref aCl, .ref aCh, .ref aCw, .ref aCc, .ref aCb, .int (nI tot), .int (nI lat), .int 0, .int 0]))]) := by
  refine Ct.ofX (lv := [some (.ref aM), some (.int (nI p)), some (.int (nI n)), none, none]) (by decide) rfl (Nat.le_of_ble_eq_true rfl) (fun κ => ?_)
  generalize hQ : xQ κ g 0 0 _ = Q
  refine x_iload_n dX8_buys_0 rfl ?_
  refine x_cSi dX8_buys_1 ml_X8_82 mX8_isPlace (ct_isPlace_n κ.2.1 g p (hp)) rfl (Nat.le_of_ble_eq_true rfl) (by decide) (Nat.le_refl _) (Nat.le_refl _) ?_
  refine x_if_eq dX8_buys_4 (fun c4 => ?_) (fun c4 => ?_)
  · exact absurd c4 (by decide)
  refine x_iload_n dX8_buys_7 rfl ?_
  refine x_iconst 1 dX8_buys_8 (by decide) ?_
  refine x_sipush 9999 dX8_buys_9 (by decide) ?_
  refine x_cSi dX8_buys_12 ml_X8_89 mX8_within (ct_within_n κ.2.1 g n 1 9999 (⟨by omega, by omega, by omega, by omega⟩)) rfl (Nat.le_of_ble_eq_true rfl) (by decide) (Nat.le_refl _) (Nat.le_refl _) ?_
  refine x_if_ne dX8_buys_15 (fun c15 => ?_) (fun c15 => ?_)
  rotate_left
  · exact absurd c15 (by decide)
  refine x_aload_n dX8_buys_24 rfl ?_
  refine x_get dX8_buys_25 0 0 inX8 fl_X8_10 rfl rfl (by decide) rfl ?_
  refine x_iload_n dX8_buys_28 rfl ?_
  refine x_cVi0 dX8_buys_29 ml_X8_127 mX6_boughtAt (ct_X6_boughtAt κ.2.1 g aS aSk aSm aSp aSt aSc aSr aSe gr br cs wk z bp p (hbr) (by omega) (hbp)) [2, 3] rfl rfl 2 rfl rfl rfl (Nat.le_of_ble_eq_true rfl) (by decide) (Nat.le_refl _) (Nat.le_refl _) ?_
  refine x_rei (nI at_) (by rw [hf]) ?_
  refine x_istore_n (lv' := [some (.ref aM), some (.int (nI p)), some (.int (nI n)), some (.int (nI at_)), none]) dX8_buys_32 (xlt rfl) rfl ?_
  refine x_iload_n dX8_buys_33 rfl ?_
  refine x_bipush 40 dX8_buys_34 (by decide) ?_
  have hbt1 := hbt at_
  refine x_icmp_lt dX8_buys_36 (fun c36 => ?_) (fun c36 => ?_)
  · have c36 : (nI at_) < 40 := c36
    have c36n := (nI_ltI (a := at_) (b := 40) (by omega) (by omega)).mp c36
    refine x_iload_n dX8_buys_45 rfl ?_
    refine x_aload_n dX8_buys_46 rfl ?_
    refine x_get dX8_buys_47 0 0 inX8 fl_X8_10 rfl rfl (by decide) rfl ?_
    refine x_get dX8_buys_50 2 8 inX6 fl_X8_130 rfl rfl (by decide) rfl ?_
    refine x_icmp_ge dX8_buys_53 (fun c53 => ?_) (fun c53 => ?_)
    · have c53 : (nI br) ≤ (nI at_) := c53
      have c53n := (nI_leI (a := br) (b := at_) (by omega) (by omega)).mp c53
      exact absurd c53n (by omega)
    · have c53 : ¬ ((nI br) ≤ (nI at_)) := c53
      have c53n := mt (nI_leI (a := br) (b := at_) (by omega) (by omega)).mpr c53
      refine x_aload_n dX8_buys_56 rfl ?_
      refine x_get dX8_buys_57 0 0 inX8 fl_X8_10 rfl rfl (by decide) rfl ?_
      refine x_get dX8_buys_60 2 3 inX6 fl_X8_133 rfl rfl (by decide) rfl ?_
      refine x_iload_n dX8_buys_63 rfl ?_
      refine x_iald dX8_buys_64 4 at_ rfl (rfl) (by omega) (by decide) ?_
      refine x_goto dX8_buys_65 ?_
      refine x_istore (lv' := [some (.ref aM), some (.int (nI p)), some (.int (nI n)), some (.int (nI at_)), some (.int (nI (bt at_)))]) dX8_buys_69 (xlt rfl) rfl ?_
      refine x_iload dX8_buys_71 rfl ?_
      refine x_iload_n dX8_buys_73 rfl ?_
      refine x_iadd dX8_buys_74 ?_
      refine x_rei (nI (bt at_ + n)) (nI_iadd (bt at_) n) ?_
      refine x_ldc dX8_buys_75 k_X8_93 ?_
      refine x_icmp_le dX8_buys_77 (fun c77 => ?_) (fun c77 => ?_)
      · have c77 : (nI (bt at_ + n)) ≤ 99999 := c77
        have c77n := (nI_leI (a := (bt at_ + n)) (b := 99999) (by omega) (by omega)).mp c77
        refine x_aload_n dX8_buys_86 rfl ?_
        refine x_get dX8_buys_87 0 0 inX8 fl_X8_10 rfl rfl (by decide) rfl ?_
        refine x_get dX8_buys_90 2 2 inX6 fl_X8_136 rfl rfl (by decide) rfl ?_
        refine x_iload_n dX8_buys_93 rfl ?_
        refine x_iload_n dX8_buys_94 rfl ?_
        refine x_iast (ws' := [(aM, .inr (8, [.ref aS, .ref aK, .ref aL, .ref aC, .ref aW, .ref aR, .ref aT, .ref aH, .ref aF, .int (nI ts), .int kp])), (aF, .inl (g.2.1 0, 7, .inl (nIf fi))), (aS, .inr (6, [.ref aSk, .ref aSm, .ref aSp, .ref aSt, .ref aSc, .ref aSr, .ref aSe, .int (nI gr), .int (nI br), .int (nI cs), .int (nI wk), .int z])), (aSp, .inl (g.2.1 0, 40, .inl (nIf (updN bp at_ p)))), (aSt, .inl (g.2.1 0, 40, .inl (nIf bt))), (aC, .inr (0, [.ref aS, .ref aL, .ref aV, .ref aO, .ref aCs, .ref aCl, .ref aCh, .ref aCw, .ref aCc, .ref aCb, .int (nI tot), .int (nI lat), .int se, .int sw]))]) dX8_buys_95 3 at_ rfl (rfl) (by omega) (by decide) (by rw [upd_nIf]; rfl) ?_
        refine x_aload_n dX8_buys_96 rfl ?_
        refine x_get dX8_buys_97 0 0 inX8 fl_X8_10 rfl rfl (by decide) rfl ?_
        refine x_get dX8_buys_100 2 3 inX6 fl_X8_133 rfl rfl (by decide) rfl ?_
        refine x_iload_n dX8_buys_103 rfl ?_
        refine x_iload dX8_buys_104 rfl ?_
        refine x_iload_n dX8_buys_106 rfl ?_
        refine x_iadd dX8_buys_107 ?_
        refine x_rei (nI (bt at_ + n)) (nI_iadd (bt at_) n) ?_
        refine x_iast (ws' := [(aM, .inr (8, [.ref aS, .ref aK, .ref aL, .ref aC, .ref aW, .ref aR, .ref aT, .ref aH, .ref aF, .int (nI ts), .int kp])), (aF, .inl (g.2.1 0, 7, .inl (nIf fi))), (aS, .inr (6, [.ref aSk, .ref aSm, .ref aSp, .ref aSt, .ref aSc, .ref aSr, .ref aSe, .int (nI gr), .int (nI br), .int (nI cs), .int (nI wk), .int z])), (aSp, .inl (g.2.1 0, 40, .inl (nIf (updN bp at_ p)))), (aSt, .inl (g.2.1 0, 40, .inl (nIf (updN bt at_ (bt at_ + n))))), (aC, .inr (0, [.ref aS, .ref aL, .ref aV, .ref aO, .ref aCs, .ref aCl, .ref aCh, .ref aCw, .ref aCc, .ref aCb, .int (nI tot), .int (nI lat), .int se, .int sw]))]) dX8_buys_108 4 at_ rfl (rfl) (by omega) (by decide) (by rw [upd_nIf]; rfl) ?_
        refine x_aload_n dX8_buys_109 rfl ?_
        refine x_get dX8_buys_110 0 0 inX8 fl_X8_10 rfl rfl (by decide) rfl ?_
        refine x_aload_n dX8_buys_113 rfl ?_
        refine x_get dX8_buys_114 0 0 inX8 fl_X8_10 rfl rfl (by decide) rfl ?_
        refine x_get dX8_buys_117 2 8 inX6 fl_X8_130 rfl rfl (by decide) rfl ?_
        refine x_iload_n dX8_buys_120 rfl ?_
        refine x_iconst 1 dX8_buys_121 (by decide) ?_
        refine x_iadd dX8_buys_122 ?_
        refine x_rei (nI (at_ + 1)) (nI_addc at_ 1 rfl) ?_
        refine x_mmax dX8_buys_123 ml_X8_139 (Nat.le_of_ble_eq_true rfl) (by decide) (Nat.le_refl _) (Nat.le_refl _) ?_
        refine x_rei (nI br) (if_neg (nI_nlt (by omega) (by omega))) ?_
        refine x_put (ws' := [(aM, .inr (8, [.ref aS, .ref aK, .ref aL, .ref aC, .ref aW, .ref aR, .ref aT, .ref aH, .ref aF, .int (nI ts), .int kp])), (aF, .inl (g.2.1 0, 7, .inl (nIf fi))), (aS, .inr (6, [.ref aSk, .ref aSm, .ref aSp, .ref aSt, .ref aSc, .ref aSr, .ref aSe, .int (nI gr), .int (nI br), .int (nI cs), .int (nI wk), .int z])), (aSp, .inl (g.2.1 0, 40, .inl (nIf (updN bp at_ p)))), (aSt, .inl (g.2.1 0, 40, .inl (nIf (updN bt at_ (bt at_ + n))))), (aC, .inr (0, [.ref aS, .ref aL, .ref aV, .ref aO, .ref aCs, .ref aCl, .ref aCh, .ref aCw, .ref aCc, .ref aCb, .int (nI tot), .int (nI lat), .int se, .int sw]))]) dX8_buys_126 2 8 inX6 tyX6_ok nmX6 fl_X8_130 rfl rfl (by decide) rfl (rfl) rfl (xlt rfl) rfl ?_
        refine x_aload_n dX8_buys_129 rfl ?_
        refine x_get dX8_buys_130 0 3 inX8 fl_X8_36 rfl rfl (by decide) rfl ?_
        refine x_cVv (ws' := [(aM, .inr (8, [.ref aS, .ref aK, .ref aL, .ref aC, .ref aW, .ref aR, .ref aT, .ref aH, .ref aF, .int (nI ts), .int kp])), (aF, .inl (g.2.1 0, 7, .inl (nIf fi))), (aS, .inr (6, [.ref aSk, .ref aSm, .ref aSp, .ref aSt, .ref aSc, .ref aSr, .ref aSe, .int (nI gr), .int (nI br), .int (nI cs), .int (nI wk), .int z])), (aSp, .inl (g.2.1 0, 40, .inl (nIf (updN bp at_ p)))), (aSt, .inl (g.2.1 0, 40, .inl (nIf (updN bt at_ (bt at_ + n))))), (aC, .inr (0, [.ref aS, .ref aL, .ref aV, .ref aO, .ref aCs, .ref aCl, .ref aCh, .ref aCw, .ref aCc, .ref aCb, .int (nI tot), .int (nI lat), .int 0, .int 0]))]) dX8_buys_133 ml_X8_104 mX0_stir (ct_X0_stir κ.2.1 g aC aS aL aV aO aCs aCl aCh aCw aCc aCb tot lat se sw) [5] rfl rfl 5 rfl rfl rfl (Nat.le_of_ble_eq_true rfl) (by decide) (Nat.le_refl _) (Nat.le_refl _) (rfl : [aC] = [aC]) rfl ?_
        refine x_iload dX8_buys_136 rfl ?_
        refine x_iload_n dX8_buys_138 rfl ?_
        refine x_iadd dX8_buys_139 ?_
        refine x_rei (nI (bt at_ + n)) (nI_iadd (bt at_) n) ?_
        rw [← hQ]
        refine x_iret dX8_buys_140 rfl (Nat.le_of_ble_eq_true rfl) (Nat.le_of_ble_eq_true rfl) ?_
        exact ⟨rfl, rfl⟩
      · have c77 : ¬ ((nI (bt at_ + n)) ≤ 99999) := c77
        have c77n := mt (nI_leI (a := (bt at_ + n)) (b := 99999) (by omega) (by omega)).mpr c77
        exact absurd c77n (by omega)
  · have c36 : ¬ ((nI at_) < 40) := c36
    have c36n := mt (nI_ltI (a := at_) (b := 40) (by omega) (by omega)).mpr c36
    exact absurd c36n (by omega)

-- == buys_n ==
set_option maxRecDepth 100000 in
set_option maxHeartbeats 4000000 in
theorem ct_buys_n (l : Launch) (g : XG) (aM aS aK aL aC aW aR aT aH aF : Nat) (ts : Nat) (kp : Int32) (aSk aSm aSp aSt aSc aSr aSe gr br cs wk : Nat) (z : Int32) (fi : Nat → Nat) (aV aO aCs aCl aCh aCw aCc aCb tot lat : Nat) (se sw : Int32) (bp bt : Nat → Nat) (p n : Nat) (hp : p < 495) (hn : 1 ≤ n ∧ n ≤ 9999) (hbr : br ≤ 40) (hbp : ∀ j, bp j < 495) (hbt : ∀ j, bt j ≤ 99999) (hf : fa_first (fun j => bp j == p) br = br) (hat : br < 40) : Ct l g 10 0 0 yX8_buys cX8_buys 5 (some .int) [.ref aM, .int (nI p), .int (nI n)] [(aM, .inr (8, [.ref aS, .ref aK, .ref aL, .ref aC, .ref aW, .ref aR, .ref aT, .ref aH, .ref aF, .int (nI ts), .int kp])), (aF, .inl (g.2.1 0, 7, .inl (nIf fi))), (aS, .inr (6, [.ref aSk, .ref aSm, .ref aSp, .ref aSt, .ref aSc, .ref aSr, .ref aSe, .int (nI gr), .int (nI br), .int (nI cs), .int (nI wk), .int z])), (aSp, .inl (g.2.1 0, 40, .inl (nIf bp))), (aSt, .inl (g.2.1 0, 40, .inl (nIf bt))), (aC, .inr (0, [.ref aS, .ref aL, .ref aV, .ref aO, .ref aCs, .ref aCl, .ref aCh, .ref aCw, .ref aCc, .ref aCb, .int (nI tot), .int (nI lat), .int se, .int sw]))] (xpi (nI (0 + n)) [(aM, .inr (8, [.ref aS, .ref aK, .ref aL, .ref aC, .ref aW, .ref aR, .ref aT, .ref aH, .ref aF, .int (nI ts), .int kp])), (aF, .inl (g.2.1 0, 7, .inl (nIf fi))), (aS, .inr (6, [.ref aSk, .ref aSm, .ref aSp, .ref aSt, .ref aSc, .ref aSr, .ref aSe, .int (nI gr), .int (nI (br + 1)), .int (nI cs), .int (nI wk), .int z])), (aSp, .inl (g.2.1 0, 40, .inl (nIf (updN bp br p)))), (aSt, .inl (g.2.1 0, 40, .inl (nIf (updN bt br (0 + n))))), (aC, .inr (0, [.ref aS, .ref aL, .ref aV, .ref aO, .ref aCs, .ref aCl, .ref aCh, .ref aCw, .ref aCc, .ref aCb, .int (nI tot), .int (nI lat), .int 0, .int 0]))]) := by
  refine Ct.ofX (lv := [some (.ref aM), some (.int (nI p)), some (.int (nI n)), none, none]) (by decide) rfl (Nat.le_of_ble_eq_true rfl) (fun κ => ?_)
  generalize hQ : xQ κ g 0 0 _ = Q
  refine x_iload_n dX8_buys_0 rfl ?_
  refine x_cSi dX8_buys_1 ml_X8_82 mX8_isPlace (ct_isPlace_n κ.2.1 g p (hp)) rfl (Nat.le_of_ble_eq_true rfl) (by decide) (Nat.le_refl _) (Nat.le_refl _) ?_
  refine x_if_eq dX8_buys_4 (fun c4 => ?_) (fun c4 => ?_)
  · exact absurd c4 (by decide)
  refine x_iload_n dX8_buys_7 rfl ?_
  refine x_iconst 1 dX8_buys_8 (by decide) ?_
  refine x_sipush 9999 dX8_buys_9 (by decide) ?_
  refine x_cSi dX8_buys_12 ml_X8_89 mX8_within (ct_within_n κ.2.1 g n 1 9999 (⟨by omega, by omega, by omega, by omega⟩)) rfl (Nat.le_of_ble_eq_true rfl) (by decide) (Nat.le_refl _) (Nat.le_refl _) ?_
  refine x_if_ne dX8_buys_15 (fun c15 => ?_) (fun c15 => ?_)
  rotate_left
  · exact absurd c15 (by decide)
  refine x_aload_n dX8_buys_24 rfl ?_
  refine x_get dX8_buys_25 0 0 inX8 fl_X8_10 rfl rfl (by decide) rfl ?_
  refine x_iload_n dX8_buys_28 rfl ?_
  refine x_cVi0 dX8_buys_29 ml_X8_127 mX6_boughtAt (ct_X6_boughtAt κ.2.1 g aS aSk aSm aSp aSt aSc aSr aSe gr br cs wk z bp p (hbr) (by omega) (hbp)) [2, 3] rfl rfl 2 rfl rfl rfl (Nat.le_of_ble_eq_true rfl) (by decide) (Nat.le_refl _) (Nat.le_refl _) ?_
  refine x_rei (nI br) (by rw [hf]) ?_
  refine x_istore_n (lv' := [some (.ref aM), some (.int (nI p)), some (.int (nI n)), some (.int (nI br)), none]) dX8_buys_32 (xlt rfl) rfl ?_
  refine x_iload_n dX8_buys_33 rfl ?_
  refine x_bipush 40 dX8_buys_34 (by decide) ?_
  refine x_icmp_lt dX8_buys_36 (fun c36 => ?_) (fun c36 => ?_)
  · have c36 : (nI br) < 40 := c36
    have c36n := (nI_ltI (a := br) (b := 40) (by omega) (by omega)).mp c36
    refine x_iload_n dX8_buys_45 rfl ?_
    refine x_aload_n dX8_buys_46 rfl ?_
    refine x_get dX8_buys_47 0 0 inX8 fl_X8_10 rfl rfl (by decide) rfl ?_
    refine x_get dX8_buys_50 2 8 inX6 fl_X8_130 rfl rfl (by decide) rfl ?_
    refine x_icmp_ge dX8_buys_53 (fun c53 => ?_) (fun c53 => ?_)
    · have c53 : (nI br) ≤ (nI br) := c53
      have c53n := (nI_leI (a := br) (b := br) (by omega) (by omega)).mp c53
      refine x_iconst 0 dX8_buys_68 (by decide) ?_
      refine x_istore (lv' := [some (.ref aM), some (.int (nI p)), some (.int (nI n)), some (.int (nI br)), some (.int 0)]) dX8_buys_69 (xlt rfl) rfl ?_
      refine x_iload dX8_buys_71 rfl ?_
      refine x_iload_n dX8_buys_73 rfl ?_
      refine x_iadd dX8_buys_74 ?_
      refine x_rei (nI (0 + n)) (nI_iadd 0 n) ?_
      refine x_ldc dX8_buys_75 k_X8_93 ?_
      refine x_icmp_le dX8_buys_77 (fun c77 => ?_) (fun c77 => ?_)
      · have c77 : (nI (0 + n)) ≤ 99999 := c77
        have c77n := (nI_leI (a := (0 + n)) (b := 99999) (by omega) (by omega)).mp c77
        refine x_aload_n dX8_buys_86 rfl ?_
        refine x_get dX8_buys_87 0 0 inX8 fl_X8_10 rfl rfl (by decide) rfl ?_
        refine x_get dX8_buys_90 2 2 inX6 fl_X8_136 rfl rfl (by decide) rfl ?_
        refine x_iload_n dX8_buys_93 rfl ?_
        refine x_iload_n dX8_buys_94 rfl ?_
        refine x_iast (ws' := [(aM, .inr (8, [.ref aS, .ref aK, .ref aL, .ref aC, .ref aW, .ref aR, .ref aT, .ref aH, .ref aF, .int (nI ts), .int kp])), (aF, .inl (g.2.1 0, 7, .inl (nIf fi))), (aS, .inr (6, [.ref aSk, .ref aSm, .ref aSp, .ref aSt, .ref aSc, .ref aSr, .ref aSe, .int (nI gr), .int (nI br), .int (nI cs), .int (nI wk), .int z])), (aSp, .inl (g.2.1 0, 40, .inl (nIf (updN bp br p)))), (aSt, .inl (g.2.1 0, 40, .inl (nIf bt))), (aC, .inr (0, [.ref aS, .ref aL, .ref aV, .ref aO, .ref aCs, .ref aCl, .ref aCh, .ref aCw, .ref aCc, .ref aCb, .int (nI tot), .int (nI lat), .int se, .int sw]))]) dX8_buys_95 3 br rfl (rfl) (by omega) (by decide) (by rw [upd_nIf]; rfl) ?_
        refine x_aload_n dX8_buys_96 rfl ?_
        refine x_get dX8_buys_97 0 0 inX8 fl_X8_10 rfl rfl (by decide) rfl ?_
        refine x_get dX8_buys_100 2 3 inX6 fl_X8_133 rfl rfl (by decide) rfl ?_
        refine x_iload_n dX8_buys_103 rfl ?_
        refine x_iload dX8_buys_104 rfl ?_
        refine x_iload_n dX8_buys_106 rfl ?_
        refine x_iadd dX8_buys_107 ?_
        refine x_rei (nI (0 + n)) (nI_iadd 0 n) ?_
        refine x_iast (ws' := [(aM, .inr (8, [.ref aS, .ref aK, .ref aL, .ref aC, .ref aW, .ref aR, .ref aT, .ref aH, .ref aF, .int (nI ts), .int kp])), (aF, .inl (g.2.1 0, 7, .inl (nIf fi))), (aS, .inr (6, [.ref aSk, .ref aSm, .ref aSp, .ref aSt, .ref aSc, .ref aSr, .ref aSe, .int (nI gr), .int (nI br), .int (nI cs), .int (nI wk), .int z])), (aSp, .inl (g.2.1 0, 40, .inl (nIf (updN bp br p)))), (aSt, .inl (g.2.1 0, 40, .inl (nIf (updN bt br (0 + n))))), (aC, .inr (0, [.ref aS, .ref aL, .ref aV, .ref aO, .ref aCs, .ref aCl, .ref aCh, .ref aCw, .ref aCc, .ref aCb, .int (nI tot), .int (nI lat), .int se, .int sw]))]) dX8_buys_108 4 br rfl (rfl) (by omega) (by decide) (by rw [upd_nIf]; rfl) ?_
        refine x_aload_n dX8_buys_109 rfl ?_
        refine x_get dX8_buys_110 0 0 inX8 fl_X8_10 rfl rfl (by decide) rfl ?_
        refine x_aload_n dX8_buys_113 rfl ?_
        refine x_get dX8_buys_114 0 0 inX8 fl_X8_10 rfl rfl (by decide) rfl ?_
        refine x_get dX8_buys_117 2 8 inX6 fl_X8_130 rfl rfl (by decide) rfl ?_
        refine x_iload_n dX8_buys_120 rfl ?_
        refine x_iconst 1 dX8_buys_121 (by decide) ?_
        refine x_iadd dX8_buys_122 ?_
        refine x_rei (nI (br + 1)) (nI_addc br 1 rfl) ?_
        refine x_mmax dX8_buys_123 ml_X8_139 (Nat.le_of_ble_eq_true rfl) (by decide) (Nat.le_refl _) (Nat.le_refl _) ?_
        refine x_rei (nI (br + 1)) (if_pos (nI_lt (by omega) (by omega))) ?_
        refine x_put (ws' := [(aM, .inr (8, [.ref aS, .ref aK, .ref aL, .ref aC, .ref aW, .ref aR, .ref aT, .ref aH, .ref aF, .int (nI ts), .int kp])), (aF, .inl (g.2.1 0, 7, .inl (nIf fi))), (aS, .inr (6, [.ref aSk, .ref aSm, .ref aSp, .ref aSt, .ref aSc, .ref aSr, .ref aSe, .int (nI gr), .int (nI (br + 1)), .int (nI cs), .int (nI wk), .int z])), (aSp, .inl (g.2.1 0, 40, .inl (nIf (updN bp br p)))), (aSt, .inl (g.2.1 0, 40, .inl (nIf (updN bt br (0 + n))))), (aC, .inr (0, [.ref aS, .ref aL, .ref aV, .ref aO, .ref aCs, .ref aCl, .ref aCh, .ref aCw, .ref aCc, .ref aCb, .int (nI tot), .int (nI lat), .int se, .int sw]))]) dX8_buys_126 2 8 inX6 tyX6_ok nmX6 fl_X8_130 rfl rfl (by decide) rfl (rfl) rfl (xlt rfl) rfl ?_
        refine x_aload_n dX8_buys_129 rfl ?_
        refine x_get dX8_buys_130 0 3 inX8 fl_X8_36 rfl rfl (by decide) rfl ?_
        refine x_cVv (ws' := [(aM, .inr (8, [.ref aS, .ref aK, .ref aL, .ref aC, .ref aW, .ref aR, .ref aT, .ref aH, .ref aF, .int (nI ts), .int kp])), (aF, .inl (g.2.1 0, 7, .inl (nIf fi))), (aS, .inr (6, [.ref aSk, .ref aSm, .ref aSp, .ref aSt, .ref aSc, .ref aSr, .ref aSe, .int (nI gr), .int (nI (br + 1)), .int (nI cs), .int (nI wk), .int z])), (aSp, .inl (g.2.1 0, 40, .inl (nIf (updN bp br p)))), (aSt, .inl (g.2.1 0, 40, .inl (nIf (updN bt br (0 + n))))), (aC, .inr (0, [.ref aS, .ref aL, .ref aV, .ref aO, .ref aCs, .ref aCl, .ref aCh, .ref aCw, .ref aCc, .ref aCb, .int (nI tot), .int (nI lat), .int 0, .int 0]))]) dX8_buys_133 ml_X8_104 mX0_stir (ct_X0_stir κ.2.1 g aC aS aL aV aO aCs aCl aCh aCw aCc aCb tot lat se sw) [5] rfl rfl 5 rfl rfl rfl (Nat.le_of_ble_eq_true rfl) (by decide) (Nat.le_refl _) (Nat.le_refl _) (rfl : [aC] = [aC]) rfl ?_
        refine x_iload dX8_buys_136 rfl ?_
        refine x_iload_n dX8_buys_138 rfl ?_
        refine x_iadd dX8_buys_139 ?_
        refine x_rei (nI (0 + n)) (nI_iadd 0 n) ?_
        rw [← hQ]
        refine x_iret dX8_buys_140 rfl (Nat.le_of_ble_eq_true rfl) (Nat.le_of_ble_eq_true rfl) ?_
        exact ⟨rfl, rfl⟩
      · have c77 : ¬ ((nI (0 + n)) ≤ 99999) := c77
        have c77n := mt (nI_leI (a := (0 + n)) (b := 99999) (by omega) (by omega)).mpr c77
        exact absurd c77n (by omega)
    · have c53 : ¬ ((nI br) ≤ (nI br)) := c53
      have c53n := mt (nI_leI (a := br) (b := br) (by omega) (by omega)).mpr c53
      exact absurd c53n (by omega)
  · have c36 : ¬ ((nI br) < 40) := c36
    have c36n := mt (nI_ltI (a := br) (b := 40) (by omega) (by omega)).mpr c36
    exact absurd c36n (by omega)

-- == week_f ==
theorem dX8_week_0 : xd cX8_week 0 (.aload_n 0) 1 1 := ⟨by decide +kernel, rfl⟩
theorem dX8_week_1 : xd cX8_week 1 (.getfield 10) 3 4 := ⟨by decide +kernel, rfl⟩
theorem dX8_week_4 : xd cX8_week 4 (.invokevirtual 178) 3 7 := ⟨by decide +kernel, rfl⟩
theorem dX8_week_7 : xj cX8_week 7 (.ifCond .eq) 10 16 := ⟨9, by decide +kernel, rfl, by decide⟩
theorem dX8_week_10 : xd cX8_week 10 (.aload_n 0) 1 11 := ⟨by decide +kernel, rfl⟩
theorem dX8_week_11 : xd cX8_week 11 (.iconst 1) 1 12 := ⟨by decide +kernel, rfl⟩
theorem dX8_week_12 : xd cX8_week 12 (.invokevirtual 79) 3 15 := ⟨by decide +kernel, rfl⟩
theorem dX8_week_15 : xd cX8_week 15 .ireturn 1 16 := ⟨by decide +kernel, rfl⟩
theorem dX8_week_16 : xd cX8_week 16 (.aload_n 0) 1 17 := ⟨by decide +kernel, rfl⟩
theorem dX8_week_17 : xd cX8_week 17 (.invokevirtual 181) 3 20 := ⟨by decide +kernel, rfl⟩
theorem dX8_week_20 : xd cX8_week 20 (.istore_n 1) 1 21 := ⟨by decide +kernel, rfl⟩
theorem dX8_week_21 : xd cX8_week 21 (.aload_n 0) 1 22 := ⟨by decide +kernel, rfl⟩
theorem dX8_week_22 : xd cX8_week 22 (.iload_n 1) 1 23 := ⟨by decide +kernel, rfl⟩
theorem dX8_week_23 : xd cX8_week 23 (.invokevirtual 185) 3 26 := ⟨by decide +kernel, rfl⟩
theorem dX8_week_26 : xd cX8_week 26 (.iload_n 1) 1 27 := ⟨by decide +kernel, rfl⟩
theorem dX8_week_27 : xd cX8_week 27 .ireturn 1 28 := ⟨by decide +kernel, rfl⟩

set_option maxRecDepth 100000 in
set_option maxHeartbeats 4000000 in
theorem ct_week_f (l : Launch) (g : XG) (aM aS aK aL aC aW aR aT aH aF : Nat) (ts : Nat) (kp : Int32) (aSk aSm aSp aSt aSc aSr aSe gr br cs wk : Nat) (z : Int32) (fi : Nat → Nat) (hw : wk = 40) : Ct l g 10 0 0 yX8_week cX8_week 2 (some .int) [.ref aM] [(aM, .inr (8, [.ref aS, .ref aK, .ref aL, .ref aC, .ref aW, .ref aR, .ref aT, .ref aH, .ref aF, .int (nI ts), .int kp])), (aF, .inl (g.2.1 0, 7, .inl (nIf fi))), (aS, .inr (6, [.ref aSk, .ref aSm, .ref aSp, .ref aSt, .ref aSc, .ref aSr, .ref aSe, .int (nI gr), .int (nI br), .int (nI cs), .int (nI wk), .int z]))] (xpi (fndI 1) [(aM, .inr (8, [.ref aS, .ref aK, .ref aL, .ref aC, .ref aW, .ref aR, .ref aT, .ref aH, .ref aF, .int (nI ts), .int kp])), (aF, .inl (g.2.1 0, 7, .inl (nIf (updN fi 1 (fi 1 + 1))))), (aS, .inr (6, [.ref aSk, .ref aSm, .ref aSp, .ref aSt, .ref aSc, .ref aSr, .ref aSe, .int (nI gr), .int (nI br), .int (nI cs), .int (nI wk), .int z]))]) := by
  refine Ct.ofX (lv := [some (.ref aM), none]) (by decide) rfl (Nat.le_of_ble_eq_true rfl) (fun κ => ?_)
  generalize hQ : xQ κ g 0 0 _ = Q
  refine x_aload_n dX8_week_0 rfl ?_
  refine x_get dX8_week_1 0 0 inX8 fl_X8_10 rfl rfl (by decide) rfl ?_
  refine x_cVi0 dX8_week_4 ml_X8_178 mX6_isBookFull (ct_X6_isBookFull κ.2.1 g aS aSk aSm aSp aSt aSc aSr aSe gr br cs wk z (by omega)) [2] rfl rfl 2 rfl rfl rfl (Nat.le_of_ble_eq_true rfl) (by decide) (Nat.le_refl _) (Nat.le_refl _) ?_
  refine x_if_eq dX8_week_7 (fun c7 => ?_) (fun c7 => ?_)
  · have c7 : (bfI wk) = 0 := c7
    exact absurd c7 (by rw [bfI, if_neg (by omega)]; decide)
  · have c7 : ¬ ((bfI wk) = 0) := c7
    refine x_aload_n dX8_week_10 rfl ?_
    refine x_iconst 1 dX8_week_11 (by decide) ?_
    refine x_cVi (ws' := [(aM, .inr (8, [.ref aS, .ref aK, .ref aL, .ref aC, .ref aW, .ref aR, .ref aT, .ref aH, .ref aF, .int (nI ts), .int kp])), (aF, .inl (g.2.1 0, 7, .inl (nIf (updN fi 1 (fi 1 + 1))))), (aS, .inr (6, [.ref aSk, .ref aSm, .ref aSp, .ref aSt, .ref aSc, .ref aSr, .ref aSe, .int (nI gr), .int (nI br), .int (nI cs), .int (nI wk), .int z]))]) dX8_week_12 ml_X8_79 mX8_tell (ct_X8_tell κ.2.1 g aM aS aK aL aC aW aR aT aH aF ts kp fi 1 (by decide)) [0, 1] rfl rfl 0 rfl rfl rfl (Nat.le_of_ble_eq_true rfl) (by decide) (Nat.le_refl _) (Nat.le_refl _) (rfl : [aM, aF] = [aM, aF]) rfl ?_
    rw [← hQ]
    refine x_iret dX8_week_15 rfl (Nat.le_of_ble_eq_true rfl) (Nat.le_of_ble_eq_true rfl) ?_
    exact ⟨rfl, rfl⟩

-- == week_o ==
set_option maxRecDepth 100000 in
set_option maxHeartbeats 4000000 in
theorem ct_week_o (l : Launch) (g : XG) (aM aK aW aR aT aH aF ts : Nat) (kp : Int32) (aC aS aL aV aO aCs aCl aCh aCw aCc aCb tot lat : Nat) (se sw : Int32) (aLb aLp aVs aSk aSm aSp aSt aSc aSr aSe gr br cs wk : Nat) (z : Int32) (sd li cr ki ma bp bt : Nat → Nat) (co ce sk : Nat → Int32) (V : Nat → Int32) (L : Nat) (ru by_ : Nat → Nat) (K : Nat) (hgr : gr ≤ 12) (hbr : br ≤ 40) (hcs : cs ≤ 60) (hwk : wk ≤ 40) (hki : ∀ j, ki j ≤ 7) (hma : ∀ j, ma j ≤ 99999) (hbp : ∀ j, bp j < 495) (hlat : latI ce wk = nI L) (hL : L < 4096) (hV : cs ≠ 0 → ∀ p, p < 495 → evR (nmI wk L p) (cdF co 0 cs) [] = some [V p]) (hse : se = 0 ∨ (se = 1 ∧ sd = sdF cs V ∧ cr = crF gr ki ma bp bt br L (sdF cs V) ∧ tot = totF gr ki ma bp bt br L (sdF cs V) ∧ lat = L)) (hw4 : wk < 40) (hK1 : K ≤ 300000) (hK2 : ∀ j, j < K → popN (dT z j) < 4) (hK3 : 4 ≤ popN (dT z K)) : Ct l g 10 0 0 yX8_week cX8_week 2 (some .int) [.ref aM] [(aM, .inr (8, [.ref aS, .ref aK, .ref aL, .ref aC, .ref aW, .ref aR, .ref aT, .ref aH, .ref aF, .int (nI ts), .int kp])), (aC, .inr (0, [.ref aS, .ref aL, .ref aV, .ref aO, .ref aCs, .ref aCl, .ref aCh, .ref aCw, .ref aCc, .ref aCb, .int (nI tot), .int (nI lat), .int se, .int sw])), (aCs, .inl (g.2.1 0, 495, .inl (nIf sd))), (aCl, .inl (g.2.1 0, 495, .inl (nIf li))), (aCc, .inl (g.2.1 0, 495, .inl (nIf cr))), (aL, .inr (5, [.ref aLb, .ref aLp])), (aLb, .inl (g.2.1 0, 495, .inl (nIf rowB))), (aLp, .inl (g.2.1 0, 495, .inl (nIf packB))), (aV, .inr (2, [.ref aS, .ref aVs])), (aVs, .inl (g.2.1 0, 60, .inl sk)), (aS, .inr (6, [.ref aSk, .ref aSm, .ref aSp, .ref aSt, .ref aSc, .ref aSr, .ref aSe, .int (nI gr), .int (nI br), .int (nI cs), .int (nI wk), .int z])), (aSk, .inl (g.2.1 0, 12, .inl (nIf ki))), (aSm, .inl (g.2.1 0, 12, .inl (nIf ma))), (aSp, .inl (g.2.1 0, 40, .inl (nIf bp))), (aSt, .inl (g.2.1 0, 40, .inl (nIf bt))), (aSc, .inl (g.2.1 0, 60, .inl co)), (aSe, .inl (g.2.1 0, 320, .inl ce)), (aSr, .inl (g.2.1 0, 8, .inl (nIf ru))), (aCb, .inl (g.2.1 0, 5, .inl (nIf by_)))] (fun vv_ ww_ => ∃ (li2 : Nat → Nat) (sk2 : Nat → Int32), vv_ = some (.int (nI (dT z K))) ∧ ww_ = [(aM, .inr (8, [.ref aS, .ref aK, .ref aL, .ref aC, .ref aW, .ref aR, .ref aT, .ref aH, .ref aF, .int (nI ts), .int kp])), (aC, .inr (0, [.ref aS, .ref aL, .ref aV, .ref aO, .ref aCs, .ref aCl, .ref aCh, .ref aCw, .ref aCc, .ref aCb, .int (nI (totF gr ki ma bp bt br L (sdF cs V))), .int (nI L), .int 0, .int 0])), (aCs, .inl (g.2.1 0, 495, .inl (nIf (sdF cs V)))), (aCl, .inl (g.2.1 0, 495, .inl (nIf li2))), (aCc, .inl (g.2.1 0, 495, .inl (nIf (crF gr ki ma bp bt br L (sdF cs V))))), (aL, .inr (5, [.ref aLb, .ref aLp])), (aLb, .inl (g.2.1 0, 495, .inl (nIf rowB))), (aLp, .inl (g.2.1 0, 495, .inl (nIf packB))), (aV, .inr (2, [.ref aS, .ref aVs])), (aVs, .inl (g.2.1 0, 60, .inl sk2)), (aS, .inr (6, [.ref aSk, .ref aSm, .ref aSp, .ref aSt, .ref aSc, .ref aSr, .ref aSe, .int (nI gr), .int (nI br), .int (nI cs), .int (nI (wk + 1)), .int (zT z K)])), (aSk, .inl (g.2.1 0, 12, .inl (nIf ki))), (aSm, .inl (g.2.1 0, 12, .inl (nIf ma))), (aSp, .inl (g.2.1 0, 40, .inl (nIf bp))), (aSt, .inl (g.2.1 0, 40, .inl (nIf bt))), (aSc, .inl (g.2.1 0, 60, .inl co)), (aSe, .inl (g.2.1 0, 320, .inl (wkCells ce wk ru (totF gr ki ma bp bt br L (sdF cs V)) (crF gr ki ma bp bt br L (sdF cs V)) (dT z K)))), (aSr, .inl (g.2.1 0, 8, .inl (nIf (updN ru 7 (potE (wkLeft ru (totF gr ki ma bp bt br L (sdF cs V)) (crF gr ki ma bp bt br L (sdF cs V)) (dT z K))))))), (aCb, .inl (g.2.1 0, 5, .inl (nIf (winN (crF gr ki ma bp bt br L (sdF cs V)) (dT z K)))))]) := by
  refine Ct.ofX (lv := [some (.ref aM), none]) (by decide) rfl (Nat.le_of_ble_eq_true rfl) (fun κ => ?_)
  generalize hQ : xQ κ g 0 0 _ = Q
  refine x_aload_n dX8_week_0 rfl ?_
  refine x_get dX8_week_1 0 0 inX8 fl_X8_10 rfl rfl (by decide) rfl ?_
  refine x_cVi0 dX8_week_4 ml_X8_178 mX6_isBookFull (ct_X6_isBookFull κ.2.1 g aS aSk aSm aSp aSt aSc aSr aSe gr br cs wk z (hwk)) [10] rfl rfl 10 rfl rfl rfl (Nat.le_of_ble_eq_true rfl) (by decide) (Nat.le_refl _) (Nat.le_refl _) ?_
  refine x_if_eq dX8_week_7 (fun c7 => ?_) (fun c7 => ?_)
  · have c7 : (bfI wk) = 0 := c7
    refine x_aload_n dX8_week_16 rfl ?_
    refine x_cVi (ws' := [(aM, .inr (8, [.ref aS, .ref aK, .ref aL, .ref aC, .ref aW, .ref aR, .ref aT, .ref aH, .ref aF, .int (nI ts), .int kp])), (aC, .inr (0, [.ref aS, .ref aL, .ref aV, .ref aO, .ref aCs, .ref aCl, .ref aCh, .ref aCw, .ref aCc, .ref aCb, .int (nI tot), .int (nI lat), .int se, .int sw])), (aCs, .inl (g.2.1 0, 495, .inl (nIf sd))), (aCl, .inl (g.2.1 0, 495, .inl (nIf li))), (aCc, .inl (g.2.1 0, 495, .inl (nIf cr))), (aL, .inr (5, [.ref aLb, .ref aLp])), (aLb, .inl (g.2.1 0, 495, .inl (nIf rowB))), (aLp, .inl (g.2.1 0, 495, .inl (nIf packB))), (aV, .inr (2, [.ref aS, .ref aVs])), (aVs, .inl (g.2.1 0, 60, .inl sk)), (aS, .inr (6, [.ref aSk, .ref aSm, .ref aSp, .ref aSt, .ref aSc, .ref aSr, .ref aSe, .int (nI gr), .int (nI br), .int (nI cs), .int (nI wk), .int (zT z K)])), (aSk, .inl (g.2.1 0, 12, .inl (nIf ki))), (aSm, .inl (g.2.1 0, 12, .inl (nIf ma))), (aSp, .inl (g.2.1 0, 40, .inl (nIf bp))), (aSt, .inl (g.2.1 0, 40, .inl (nIf bt))), (aSc, .inl (g.2.1 0, 60, .inl co)), (aSe, .inl (g.2.1 0, 320, .inl ce)), (aSr, .inl (g.2.1 0, 8, .inl (nIf ru))), (aCb, .inl (g.2.1 0, 5, .inl (nIf by_)))]) dX8_week_17 ml_X8_181 mX8_drawByLots (ct_X8_drawByLots κ.2.1 g aM aS aK aL aC aW aR aT aH aF ts kp aSk aSm aSp aSt aSc aSr aSe gr br cs wk z K (hK1) (hK2) (hK3)) [0, 10] rfl rfl 0 rfl rfl rfl (Nat.le_of_ble_eq_true rfl) (by decide) (Nat.le_refl _) (Nat.le_refl _) (rfl : [aM, aS] = [aM, aS]) rfl ?_
    refine x_istore_n (lv' := [some (.ref aM), some (.int (nI (dT z K)))]) dX8_week_20 (xlt rfl) rfl ?_
    refine x_aload_n dX8_week_21 rfl ?_
    refine x_iload_n dX8_week_22 rfl ?_
    refine x_callV dX8_week_23 ml_X8_185 mX8_holdWeek (ct_X8_holdWeek κ.2.1 g aM aK aW aR aT aH aF ts kp aC aS aL aV aO aCs aCl aCh aCw aCc aCb tot lat se sw aLb aLp aVs aSk aSm aSp aSt aSc aSr aSe gr br cs wk (zT z K) sd li cr ki ma bp bt co ce sk V L ru by_ (dT z K) (hgr) (hbr) (hcs) (hwk) (hki) (hma) (hbp) (hlat) (hL) (hV) (hse) (hw4) (dT_lt z K)) [0, 1, 2, 3, 4, 5, 6, 7, 8, 9, 10, 11, 12, 13, 14, 15, 16, 17, 18] rfl rfl 0 rfl rfl rfl (Nat.le_of_ble_eq_true rfl) (by decide) (Nat.le_refl _) (Nat.le_refl _) (fun vv ww hp => ?_)
    obtain ⟨z1, z2, rfl, rfl⟩ := hp
    refine ⟨(rfl : [aM, aC, aCs, aCl, aCc, aL, aLb, aLp, aV, aVs, aS, aSk, aSm, aSp, aSt, aSc, aSe, aSr, aCb] = [aM, aC, aCs, aCl, aCc, aL, aLb, aLp, aV, aVs, aS, aSk, aSm, aSp, aSt, aSc, aSe, aSr, aCb]), x_eq (lv' := [some (.ref aM), some (.int (nI (dT z K)))]) (st' := []) (ws' := [(aM, .inr (8, [.ref aS, .ref aK, .ref aL, .ref aC, .ref aW, .ref aR, .ref aT, .ref aH, .ref aF, .int (nI ts), .int kp])), (aC, .inr (0, [.ref aS, .ref aL, .ref aV, .ref aO, .ref aCs, .ref aCl, .ref aCh, .ref aCw, .ref aCc, .ref aCb, .int (nI (totF gr ki ma bp bt br L (sdF cs V))), .int (nI L), .int 0, .int 0])), (aCs, .inl (g.2.1 0, 495, .inl (nIf (sdF cs V)))), (aCl, .inl (g.2.1 0, 495, .inl (nIf z1))), (aCc, .inl (g.2.1 0, 495, .inl (nIf (crF gr ki ma bp bt br L (sdF cs V))))), (aL, .inr (5, [.ref aLb, .ref aLp])), (aLb, .inl (g.2.1 0, 495, .inl (nIf rowB))), (aLp, .inl (g.2.1 0, 495, .inl (nIf packB))), (aV, .inr (2, [.ref aS, .ref aVs])), (aVs, .inl (g.2.1 0, 60, .inl z2)), (aS, .inr (6, [.ref aSk, .ref aSm, .ref aSp, .ref aSt, .ref aSc, .ref aSr, .ref aSe, .int (nI gr), .int (nI br), .int (nI cs), .int (nI (wk + 1)), .int (zT z K)])), (aSk, .inl (g.2.1 0, 12, .inl (nIf ki))), (aSm, .inl (g.2.1 0, 12, .inl (nIf ma))), (aSp, .inl (g.2.1 0, 40, .inl (nIf bp))), (aSt, .inl (g.2.1 0, 40, .inl (nIf bt))), (aSc, .inl (g.2.1 0, 60, .inl co)), (aSe, .inl (g.2.1 0, 320, .inl (wkCells ce wk ru (totF gr ki ma bp bt br L (sdF cs V)) (crF gr ki ma bp bt br L (sdF cs V)) (dT z K)))), (aSr, .inl (g.2.1 0, 8, .inl (nIf (updN ru 7 (potE (wkLeft ru (totF gr ki ma bp bt br L (sdF cs V)) (crF gr ki ma bp bt br L (sdF cs V)) (dT z K))))))), (aCb, .inl (g.2.1 0, 5, .inl (nIf (winN (crF gr ki ma bp bt br L (sdF cs V)) (dT z K)))))]) ?_ rfl rfl rfl⟩
    refine x_iload_n dX8_week_26 rfl ?_
    rw [← hQ]
    refine x_iret dX8_week_27 rfl (Nat.le_of_ble_eq_true rfl) (Nat.le_of_ble_eq_true rfl) ?_
    exact ⟨_, _, rfl, rfl⟩
  · have c7 : ¬ ((bfI wk) = 0) := c7
    exact absurd (show bfI wk = 0 from if_pos hw4) c7

-- == told_b ==
theorem dX8_told_0 : xd cX8_told 0 (.iload_n 1) 1 1 := ⟨by decide +kernel, rfl⟩
theorem dX8_told_1 : xd cX8_told 1 .i2l 1 2 := ⟨by decide +kernel, rfl⟩
theorem dX8_told_2 : xd cX8_told 2 (.invokestatic 71) 3 5 := ⟨by decide +kernel, rfl⟩
theorem dX8_told_5 : xj cX8_told 5 (.ifCond .ne) 8 14 := ⟨9, by decide +kernel, rfl, by decide⟩
theorem dX8_told_8 : xd cX8_told 8 (.aload_n 0) 1 9 := ⟨by decide +kernel, rfl⟩
theorem dX8_told_9 : xd cX8_told 9 (.iconst 0) 1 10 := ⟨by decide +kernel, rfl⟩
theorem dX8_told_10 : xd cX8_told 10 (.invokevirtual 79) 3 13 := ⟨by decide +kernel, rfl⟩
theorem dX8_told_13 : xd cX8_told 13 .ireturn 1 14 := ⟨by decide +kernel, rfl⟩
theorem dX8_told_14 : xd cX8_told 14 (.aload_n 0) 1 15 := ⟨by decide +kernel, rfl⟩
theorem dX8_told_15 : xd cX8_told 15 (.getfield 10) 3 18 := ⟨by decide +kernel, rfl⟩
theorem dX8_told_18 : xd cX8_told 18 (.invokevirtual 178) 3 21 := ⟨by decide +kernel, rfl⟩
theorem dX8_told_21 : xj cX8_told 21 (.ifCond .eq) 24 30 := ⟨9, by decide +kernel, rfl, by decide⟩
theorem dX8_told_24 : xd cX8_told 24 (.aload_n 0) 1 25 := ⟨by decide +kernel, rfl⟩
theorem dX8_told_25 : xd cX8_told 25 (.iconst 1) 1 26 := ⟨by decide +kernel, rfl⟩
theorem dX8_told_26 : xd cX8_told 26 (.invokevirtual 79) 3 29 := ⟨by decide +kernel, rfl⟩
theorem dX8_told_29 : xd cX8_told 29 .ireturn 1 30 := ⟨by decide +kernel, rfl⟩
theorem dX8_told_30 : xd cX8_told 30 (.aload_n 0) 1 31 := ⟨by decide +kernel, rfl⟩
theorem dX8_told_31 : xd cX8_told 31 (.iload_n 1) 1 32 := ⟨by decide +kernel, rfl⟩
theorem dX8_told_32 : xd cX8_told 32 (.invokevirtual 185) 3 35 := ⟨by decide +kernel, rfl⟩
theorem dX8_told_35 : xd cX8_told 35 (.aload_n 0) 1 36 := ⟨by decide +kernel, rfl⟩
theorem dX8_told_36 : xd cX8_told 36 (.getfield 10) 3 39 := ⟨by decide +kernel, rfl⟩
theorem dX8_told_39 : xd cX8_told 39 (.aload_n 0) 1 40 := ⟨by decide +kernel, rfl⟩
theorem dX8_told_40 : xd cX8_told 40 (.getfield 10) 3 43 := ⟨by decide +kernel, rfl⟩
theorem dX8_told_43 : xd cX8_told 43 (.getfield 189) 3 46 := ⟨by decide +kernel, rfl⟩
theorem dX8_told_46 : xd cX8_told 46 (.iconst 1) 1 47 := ⟨by decide +kernel, rfl⟩
theorem dX8_told_47 : xd cX8_told 47 .isub 1 48 := ⟨by decide +kernel, rfl⟩
theorem dX8_told_48 : xd cX8_told 48 (.iconst 1) 1 49 := ⟨by decide +kernel, rfl⟩
theorem dX8_told_49 : xd cX8_told 49 (.invokevirtual 192) 3 52 := ⟨by decide +kernel, rfl⟩
theorem dX8_told_52 : xd cX8_told 52 .ireturn 1 53 := ⟨by decide +kernel, rfl⟩

set_option maxRecDepth 100000 in
set_option maxHeartbeats 4000000 in
theorem ct_told_b (l : Launch) (g : XG) (aM aS aK aL aC aW aR aT aH aF : Nat) (ts : Nat) (kp : Int32) (aSk aSm aSp aSt aSc aSr aSe gr br cs wk : Nat) (z : Int32) (fi : Nat → Nat) (dw : Int32) (hb : isRowI dw.toInt64 = 0) : Ct l g 10 0 0 yX8_told cX8_told 2 (some .int) [.ref aM, .int dw] [(aM, .inr (8, [.ref aS, .ref aK, .ref aL, .ref aC, .ref aW, .ref aR, .ref aT, .ref aH, .ref aF, .int (nI ts), .int kp])), (aF, .inl (g.2.1 0, 7, .inl (nIf fi))), (aS, .inr (6, [.ref aSk, .ref aSm, .ref aSp, .ref aSt, .ref aSc, .ref aSr, .ref aSe, .int (nI gr), .int (nI br), .int (nI cs), .int (nI wk), .int z]))] (xpi (fndI 0) [(aM, .inr (8, [.ref aS, .ref aK, .ref aL, .ref aC, .ref aW, .ref aR, .ref aT, .ref aH, .ref aF, .int (nI ts), .int kp])), (aF, .inl (g.2.1 0, 7, .inl (nIf (updN fi 0 (fi 0 + 1))))), (aS, .inr (6, [.ref aSk, .ref aSm, .ref aSp, .ref aSt, .ref aSc, .ref aSr, .ref aSe, .int (nI gr), .int (nI br), .int (nI cs), .int (nI wk), .int z]))]) := by
  refine Ct.ofX (lv := [some (.ref aM), some (.int dw)]) (by decide) rfl (Nat.le_of_ble_eq_true rfl) (fun κ => ?_)
  generalize hQ : xQ κ g 0 0 _ = Q
  refine x_iload_n dX8_told_0 rfl ?_
  refine x_i2l dX8_told_1 ?_
  refine x_cSi dX8_told_2 ml_X8_71 mX8_isRow (ct_X8_isRow κ.2.1 g dw.toInt64) rfl (Nat.le_of_ble_eq_true rfl) (by decide) (Nat.le_refl _) (Nat.le_refl _) ?_
  refine x_if_ne dX8_told_5 (fun c5 => ?_) (fun c5 => ?_)
  · have c5 : ¬ ((isRowI dw.toInt64) = 0) := c5
    exact absurd hb c5
  · have c5 : (isRowI dw.toInt64) = 0 := c5
    refine x_aload_n dX8_told_8 rfl ?_
    refine x_iconst 0 dX8_told_9 (by decide) ?_
    refine x_cVi (ws' := [(aM, .inr (8, [.ref aS, .ref aK, .ref aL, .ref aC, .ref aW, .ref aR, .ref aT, .ref aH, .ref aF, .int (nI ts), .int kp])), (aF, .inl (g.2.1 0, 7, .inl (nIf (updN fi 0 (fi 0 + 1))))), (aS, .inr (6, [.ref aSk, .ref aSm, .ref aSp, .ref aSt, .ref aSc, .ref aSr, .ref aSe, .int (nI gr), .int (nI br), .int (nI cs), .int (nI wk), .int z]))]) dX8_told_10 ml_X8_79 mX8_tell (ct_X8_tell κ.2.1 g aM aS aK aL aC aW aR aT aH aF ts kp fi 0 (by decide)) [0, 1] rfl rfl 0 rfl rfl rfl (Nat.le_of_ble_eq_true rfl) (by decide) (Nat.le_refl _) (Nat.le_refl _) (rfl : [aM, aF] = [aM, aF]) rfl ?_
    rw [← hQ]
    refine x_iret dX8_told_13 rfl (Nat.le_of_ble_eq_true rfl) (Nat.le_of_ble_eq_true rfl) ?_
    exact ⟨rfl, rfl⟩

-- == told_f ==
set_option maxRecDepth 100000 in
set_option maxHeartbeats 4000000 in
theorem ct_told_f (l : Launch) (g : XG) (aM aS aK aL aC aW aR aT aH aF : Nat) (ts : Nat) (kp : Int32) (aSk aSm aSp aSt aSc aSr aSe gr br cs wk : Nat) (z : Int32) (fi : Nat → Nat) (d : Nat) (ho : isRowI (nI d).toInt64 = 1) (hw : wk = 40) : Ct l g 10 0 0 yX8_told cX8_told 2 (some .int) [.ref aM, .int (nI d)] [(aM, .inr (8, [.ref aS, .ref aK, .ref aL, .ref aC, .ref aW, .ref aR, .ref aT, .ref aH, .ref aF, .int (nI ts), .int kp])), (aF, .inl (g.2.1 0, 7, .inl (nIf fi))), (aS, .inr (6, [.ref aSk, .ref aSm, .ref aSp, .ref aSt, .ref aSc, .ref aSr, .ref aSe, .int (nI gr), .int (nI br), .int (nI cs), .int (nI wk), .int z]))] (xpi (fndI 1) [(aM, .inr (8, [.ref aS, .ref aK, .ref aL, .ref aC, .ref aW, .ref aR, .ref aT, .ref aH, .ref aF, .int (nI ts), .int kp])), (aF, .inl (g.2.1 0, 7, .inl (nIf (updN fi 1 (fi 1 + 1))))), (aS, .inr (6, [.ref aSk, .ref aSm, .ref aSp, .ref aSt, .ref aSc, .ref aSr, .ref aSe, .int (nI gr), .int (nI br), .int (nI cs), .int (nI wk), .int z]))]) := by
  refine Ct.ofX (lv := [some (.ref aM), some (.int (nI d))]) (by decide) rfl (Nat.le_of_ble_eq_true rfl) (fun κ => ?_)
  generalize hQ : xQ κ g 0 0 _ = Q
  refine x_iload_n dX8_told_0 rfl ?_
  refine x_i2l dX8_told_1 ?_
  refine x_cSi dX8_told_2 ml_X8_71 mX8_isRow (ct_X8_isRow κ.2.1 g ((nI d).toInt64)) rfl (Nat.le_of_ble_eq_true rfl) (by decide) (Nat.le_refl _) (Nat.le_refl _) ?_
  refine x_rei (1) (ho) ?_
  refine x_if_ne dX8_told_5 (fun c5 => ?_) (fun c5 => ?_)
  rotate_left
  · exact absurd c5 (by decide)
  refine x_aload_n dX8_told_14 rfl ?_
  refine x_get dX8_told_15 0 0 inX8 fl_X8_10 rfl rfl (by decide) rfl ?_
  refine x_cVi0 dX8_told_18 ml_X8_178 mX6_isBookFull (ct_X6_isBookFull κ.2.1 g aS aSk aSm aSp aSt aSc aSr aSe gr br cs wk z (by omega)) [2] rfl rfl 2 rfl rfl rfl (Nat.le_of_ble_eq_true rfl) (by decide) (Nat.le_refl _) (Nat.le_refl _) ?_
  refine x_if_eq dX8_told_21 (fun c21 => ?_) (fun c21 => ?_)
  · have c21 : (bfI wk) = 0 := c21
    exact absurd c21 (by rw [bfI, if_neg (by omega)]; decide)
  · have c21 : ¬ ((bfI wk) = 0) := c21
    refine x_aload_n dX8_told_24 rfl ?_
    refine x_iconst 1 dX8_told_25 (by decide) ?_
    refine x_cVi (ws' := [(aM, .inr (8, [.ref aS, .ref aK, .ref aL, .ref aC, .ref aW, .ref aR, .ref aT, .ref aH, .ref aF, .int (nI ts), .int kp])), (aF, .inl (g.2.1 0, 7, .inl (nIf (updN fi 1 (fi 1 + 1))))), (aS, .inr (6, [.ref aSk, .ref aSm, .ref aSp, .ref aSt, .ref aSc, .ref aSr, .ref aSe, .int (nI gr), .int (nI br), .int (nI cs), .int (nI wk), .int z]))]) dX8_told_26 ml_X8_79 mX8_tell (ct_X8_tell κ.2.1 g aM aS aK aL aC aW aR aT aH aF ts kp fi 1 (by decide)) [0, 1] rfl rfl 0 rfl rfl rfl (Nat.le_of_ble_eq_true rfl) (by decide) (Nat.le_refl _) (Nat.le_refl _) (rfl : [aM, aF] = [aM, aF]) rfl ?_
    rw [← hQ]
    refine x_iret dX8_told_29 rfl (Nat.le_of_ble_eq_true rfl) (Nat.le_of_ble_eq_true rfl) ?_
    exact ⟨rfl, rfl⟩

-- == told_o ==
set_option maxRecDepth 100000 in
set_option maxHeartbeats 4000000 in
theorem ct_told_o (l : Launch) (g : XG) (aM aK aW aR aT aH aF ts : Nat) (kp : Int32) (aC aS aL aV aO aCs aCl aCh aCw aCc aCb tot lat : Nat) (se sw : Int32) (aLb aLp aVs aSk aSm aSp aSt aSc aSr aSe gr br cs wk : Nat) (z : Int32) (sd li cr ki ma bp bt : Nat → Nat) (co ce sk : Nat → Int32) (V : Nat → Int32) (L : Nat) (ru by_ : Nat → Nat) (d : Nat) (hgr : gr ≤ 12) (hbr : br ≤ 40) (hcs : cs ≤ 60) (hwk : wk ≤ 40) (hki : ∀ j, ki j ≤ 7) (hma : ∀ j, ma j ≤ 99999) (hbp : ∀ j, bp j < 495) (hlat : latI ce wk = nI L) (hL : L < 4096) (hV : cs ≠ 0 → ∀ p, p < 495 → evR (nmI wk L p) (cdF co 0 cs) [] = some [V p]) (hse : se = 0 ∨ (se = 1 ∧ sd = sdF cs V ∧ cr = crF gr ki ma bp bt br L (sdF cs V) ∧ tot = totF gr ki ma bp bt br L (sdF cs V) ∧ lat = L)) (hw4 : wk < 40) (hd : d < 4096) (ho : isRowI (nI d).toInt64 = 1) : Ct l g 10 0 0 yX8_told cX8_told 2 (some .int) [.ref aM, .int (nI d)] [(aM, .inr (8, [.ref aS, .ref aK, .ref aL, .ref aC, .ref aW, .ref aR, .ref aT, .ref aH, .ref aF, .int (nI ts), .int kp])), (aC, .inr (0, [.ref aS, .ref aL, .ref aV, .ref aO, .ref aCs, .ref aCl, .ref aCh, .ref aCw, .ref aCc, .ref aCb, .int (nI tot), .int (nI lat), .int se, .int sw])), (aCs, .inl (g.2.1 0, 495, .inl (nIf sd))), (aCl, .inl (g.2.1 0, 495, .inl (nIf li))), (aCc, .inl (g.2.1 0, 495, .inl (nIf cr))), (aL, .inr (5, [.ref aLb, .ref aLp])), (aLb, .inl (g.2.1 0, 495, .inl (nIf rowB))), (aLp, .inl (g.2.1 0, 495, .inl (nIf packB))), (aV, .inr (2, [.ref aS, .ref aVs])), (aVs, .inl (g.2.1 0, 60, .inl sk)), (aS, .inr (6, [.ref aSk, .ref aSm, .ref aSp, .ref aSt, .ref aSc, .ref aSr, .ref aSe, .int (nI gr), .int (nI br), .int (nI cs), .int (nI wk), .int z])), (aSk, .inl (g.2.1 0, 12, .inl (nIf ki))), (aSm, .inl (g.2.1 0, 12, .inl (nIf ma))), (aSp, .inl (g.2.1 0, 40, .inl (nIf bp))), (aSt, .inl (g.2.1 0, 40, .inl (nIf bt))), (aSc, .inl (g.2.1 0, 60, .inl co)), (aSe, .inl (g.2.1 0, 320, .inl ce)), (aSr, .inl (g.2.1 0, 8, .inl (nIf ru))), (aCb, .inl (g.2.1 0, 5, .inl (nIf by_)))] (fun vv_ ww_ => ∃ (li2 : Nat → Nat) (sk2 : Nat → Int32), vv_ = some (.int (wkCells ce wk ru (totF gr ki ma bp bt br L (sdF cs V)) (crF gr ki ma bp bt br L (sdF cs V)) d ((wk + 1 - 1) * 8 + 1))) ∧ ww_ = [(aM, .inr (8, [.ref aS, .ref aK, .ref aL, .ref aC, .ref aW, .ref aR, .ref aT, .ref aH, .ref aF, .int (nI ts), .int kp])), (aC, .inr (0, [.ref aS, .ref aL, .ref aV, .ref aO, .ref aCs, .ref aCl, .ref aCh, .ref aCw, .ref aCc, .ref aCb, .int (nI (totF gr ki ma bp bt br L (sdF cs V))), .int (nI L), .int 0, .int 0])), (aCs, .inl (g.2.1 0, 495, .inl (nIf (sdF cs V)))), (aCl, .inl (g.2.1 0, 495, .inl (nIf li2))), (aCc, .inl (g.2.1 0, 495, .inl (nIf (crF gr ki ma bp bt br L (sdF cs V))))), (aL, .inr (5, [.ref aLb, .ref aLp])), (aLb, .inl (g.2.1 0, 495, .inl (nIf rowB))), (aLp, .inl (g.2.1 0, 495, .inl (nIf packB))), (aV, .inr (2, [.ref aS, .ref aVs])), (aVs, .inl (g.2.1 0, 60, .inl sk2)), (aS, .inr (6, [.ref aSk, .ref aSm, .ref aSp, .ref aSt, .ref aSc, .ref aSr, .ref aSe, .int (nI gr), .int (nI br), .int (nI cs), .int (nI (wk + 1)), .int z])), (aSk, .inl (g.2.1 0, 12, .inl (nIf ki))), (aSm, .inl (g.2.1 0, 12, .inl (nIf ma))), (aSp, .inl (g.2.1 0, 40, .inl (nIf bp))), (aSt, .inl (g.2.1 0, 40, .inl (nIf bt))), (aSc, .inl (g.2.1 0, 60, .inl co)), (aSe, .inl (g.2.1 0, 320, .inl (wkCells ce wk ru (totF gr ki ma bp bt br L (sdF cs V)) (crF gr ki ma bp bt br L (sdF cs V)) d))), (aSr, .inl (g.2.1 0, 8, .inl (nIf (updN ru 7 (potE (wkLeft ru (totF gr ki ma bp bt br L (sdF cs V)) (crF gr ki ma bp bt br L (sdF cs V)) d)))))), (aCb, .inl (g.2.1 0, 5, .inl (nIf (winN (crF gr ki ma bp bt br L (sdF cs V)) d))))]) := by
  refine Ct.ofX (lv := [some (.ref aM), some (.int (nI d))]) (by decide) rfl (Nat.le_of_ble_eq_true rfl) (fun κ => ?_)
  generalize hQ : xQ κ g 0 0 _ = Q
  refine x_iload_n dX8_told_0 rfl ?_
  refine x_i2l dX8_told_1 ?_
  refine x_cSi dX8_told_2 ml_X8_71 mX8_isRow (ct_X8_isRow κ.2.1 g ((nI d).toInt64)) rfl (Nat.le_of_ble_eq_true rfl) (by decide) (Nat.le_refl _) (Nat.le_refl _) ?_
  refine x_rei (1) (ho) ?_
  refine x_if_ne dX8_told_5 (fun c5 => ?_) (fun c5 => ?_)
  rotate_left
  · exact absurd c5 (by decide)
  refine x_aload_n dX8_told_14 rfl ?_
  refine x_get dX8_told_15 0 0 inX8 fl_X8_10 rfl rfl (by decide) rfl ?_
  refine x_cVi0 dX8_told_18 ml_X8_178 mX6_isBookFull (ct_X6_isBookFull κ.2.1 g aS aSk aSm aSp aSt aSc aSr aSe gr br cs wk z (hwk)) [10] rfl rfl 10 rfl rfl rfl (Nat.le_of_ble_eq_true rfl) (by decide) (Nat.le_refl _) (Nat.le_refl _) ?_
  refine x_if_eq dX8_told_21 (fun c21 => ?_) (fun c21 => ?_)
  · have c21 : (bfI wk) = 0 := c21
    refine x_aload_n dX8_told_30 rfl ?_
    refine x_iload_n dX8_told_31 rfl ?_
    refine x_callV dX8_told_32 ml_X8_185 mX8_holdWeek (ct_X8_holdWeek κ.2.1 g aM aK aW aR aT aH aF ts kp aC aS aL aV aO aCs aCl aCh aCw aCc aCb tot lat se sw aLb aLp aVs aSk aSm aSp aSt aSc aSr aSe gr br cs wk z sd li cr ki ma bp bt co ce sk V L ru by_ d (hgr) (hbr) (hcs) (hwk) (hki) (hma) (hbp) (hlat) (hL) (hV) (hse) (hw4) (hd)) [0, 1, 2, 3, 4, 5, 6, 7, 8, 9, 10, 11, 12, 13, 14, 15, 16, 17, 18] rfl rfl 0 rfl rfl rfl (Nat.le_of_ble_eq_true rfl) (by decide) (Nat.le_refl _) (Nat.le_refl _) (fun vv ww hp => ?_)
    obtain ⟨z1, z2, rfl, rfl⟩ := hp
    refine ⟨(rfl : [aM, aC, aCs, aCl, aCc, aL, aLb, aLp, aV, aVs, aS, aSk, aSm, aSp, aSt, aSc, aSe, aSr, aCb] = [aM, aC, aCs, aCl, aCc, aL, aLb, aLp, aV, aVs, aS, aSk, aSm, aSp, aSt, aSc, aSe, aSr, aCb]), x_eq (lv' := [some (.ref aM), some (.int (nI d))]) (st' := []) (ws' := [(aM, .inr (8, [.ref aS, .ref aK, .ref aL, .ref aC, .ref aW, .ref aR, .ref aT, .ref aH, .ref aF, .int (nI ts), .int kp])), (aC, .inr (0, [.ref aS, .ref aL, .ref aV, .ref aO, .ref aCs, .ref aCl, .ref aCh, .ref aCw, .ref aCc, .ref aCb, .int (nI (totF gr ki ma bp bt br L (sdF cs V))), .int (nI L), .int 0, .int 0])), (aCs, .inl (g.2.1 0, 495, .inl (nIf (sdF cs V)))), (aCl, .inl (g.2.1 0, 495, .inl (nIf z1))), (aCc, .inl (g.2.1 0, 495, .inl (nIf (crF gr ki ma bp bt br L (sdF cs V))))), (aL, .inr (5, [.ref aLb, .ref aLp])), (aLb, .inl (g.2.1 0, 495, .inl (nIf rowB))), (aLp, .inl (g.2.1 0, 495, .inl (nIf packB))), (aV, .inr (2, [.ref aS, .ref aVs])), (aVs, .inl (g.2.1 0, 60, .inl z2)), (aS, .inr (6, [.ref aSk, .ref aSm, .ref aSp, .ref aSt, .ref aSc, .ref aSr, .ref aSe, .int (nI gr), .int (nI br), .int (nI cs), .int (nI (wk + 1)), .int z])), (aSk, .inl (g.2.1 0, 12, .inl (nIf ki))), (aSm, .inl (g.2.1 0, 12, .inl (nIf ma))), (aSp, .inl (g.2.1 0, 40, .inl (nIf bp))), (aSt, .inl (g.2.1 0, 40, .inl (nIf bt))), (aSc, .inl (g.2.1 0, 60, .inl co)), (aSe, .inl (g.2.1 0, 320, .inl (wkCells ce wk ru (totF gr ki ma bp bt br L (sdF cs V)) (crF gr ki ma bp bt br L (sdF cs V)) d))), (aSr, .inl (g.2.1 0, 8, .inl (nIf (updN ru 7 (potE (wkLeft ru (totF gr ki ma bp bt br L (sdF cs V)) (crF gr ki ma bp bt br L (sdF cs V)) d)))))), (aCb, .inl (g.2.1 0, 5, .inl (nIf (winN (crF gr ki ma bp bt br L (sdF cs V)) d))))]) ?_ rfl rfl rfl⟩
    refine x_aload_n dX8_told_35 rfl ?_
    refine x_get dX8_told_36 0 0 inX8 fl_X8_10 rfl rfl (by decide) rfl ?_
    refine x_aload_n dX8_told_39 rfl ?_
    refine x_get dX8_told_40 0 0 inX8 fl_X8_10 rfl rfl (by decide) rfl ?_
    refine x_get dX8_told_43 10 10 inX6 fl_X8_189 rfl rfl (by decide) rfl ?_
    refine x_iconst 1 dX8_told_46 (by decide) ?_
    refine x_isub dX8_told_47 ?_
    refine x_rei (nI ((wk + 1) - 1)) (nI_isub (wk + 1) 1 (by omega)) ?_
    refine x_iconst 1 dX8_told_48 (by decide) ?_
    refine x_cVi0 dX8_told_49 ml_X8_192 mX6_bookCell (ct_X6_bookCell κ.2.1 g aS aSk aSm aSp aSt aSc aSr aSe gr br cs (wk + 1) z (wkCells ce wk ru (totF gr ki ma bp bt br L (sdF cs V)) (crF gr ki ma bp bt br L (sdF cs V)) d) ((wk + 1) - 1) 1 (by omega) (by decide)) [10, 16] rfl rfl 10 rfl rfl rfl (Nat.le_of_ble_eq_true rfl) (by decide) (Nat.le_refl _) (Nat.le_refl _) ?_
    rw [← hQ]
    refine x_iret dX8_told_52 rfl (Nat.le_of_ble_eq_true rfl) (Nat.le_of_ble_eq_true rfl) ?_
    exact ⟨_, _, rfl, rfl⟩
  · have c21 : ¬ ((bfI wk) = 0) := c21
    exact absurd (show bfI wk = 0 from if_pos hw4) c21

-- == book_b ==
theorem dX8_book_0 : xd cX8_book 0 (.iload_n 1) 1 1 := ⟨by decide +kernel, rfl⟩
theorem dX8_book_1 : xd cX8_book 1 (.iconst 0) 1 2 := ⟨by decide +kernel, rfl⟩
theorem dX8_book_2 : xd cX8_book 2 (.aload_n 0) 1 3 := ⟨by decide +kernel, rfl⟩
theorem dX8_book_3 : xd cX8_book 3 (.getfield 10) 3 6 := ⟨by decide +kernel, rfl⟩
theorem dX8_book_6 : xd cX8_book 6 (.getfield 189) 3 9 := ⟨by decide +kernel, rfl⟩
theorem dX8_book_9 : xd cX8_book 9 (.iconst 1) 1 10 := ⟨by decide +kernel, rfl⟩
theorem dX8_book_10 : xd cX8_book 10 .isub 1 11 := ⟨by decide +kernel, rfl⟩
theorem dX8_book_11 : xd cX8_book 11 (.invokestatic 89) 3 14 := ⟨by decide +kernel, rfl⟩
theorem dX8_book_14 : xj cX8_book 14 (.ifCond .eq) 17 27 := ⟨13, by decide +kernel, rfl, by decide⟩
theorem dX8_book_17 : xd cX8_book 17 (.iload_n 2) 1 18 := ⟨by decide +kernel, rfl⟩
theorem dX8_book_18 : xd cX8_book 18 (.iconst 0) 1 19 := ⟨by decide +kernel, rfl⟩
theorem dX8_book_19 : xd cX8_book 19 (.bipush 7) 2 21 := ⟨by decide +kernel, rfl⟩
theorem dX8_book_21 : xd cX8_book 21 (.invokestatic 89) 3 24 := ⟨by decide +kernel, rfl⟩
theorem dX8_book_24 : xj cX8_book 24 (.ifCond .ne) 27 33 := ⟨9, by decide +kernel, rfl, by decide⟩
theorem dX8_book_27 : xd cX8_book 27 (.aload_n 0) 1 28 := ⟨by decide +kernel, rfl⟩
theorem dX8_book_28 : xd cX8_book 28 (.iconst 0) 1 29 := ⟨by decide +kernel, rfl⟩
theorem dX8_book_29 : xd cX8_book 29 (.invokevirtual 79) 3 32 := ⟨by decide +kernel, rfl⟩
theorem dX8_book_32 : xd cX8_book 32 .ireturn 1 33 := ⟨by decide +kernel, rfl⟩
theorem dX8_book_33 : xd cX8_book 33 (.aload_n 0) 1 34 := ⟨by decide +kernel, rfl⟩
theorem dX8_book_34 : xd cX8_book 34 (.getfield 10) 3 37 := ⟨by decide +kernel, rfl⟩
theorem dX8_book_37 : xd cX8_book 37 (.iload_n 1) 1 38 := ⟨by decide +kernel, rfl⟩
theorem dX8_book_38 : xd cX8_book 38 (.iload_n 2) 1 39 := ⟨by decide +kernel, rfl⟩
theorem dX8_book_39 : xd cX8_book 39 (.invokevirtual 192) 3 42 := ⟨by decide +kernel, rfl⟩
theorem dX8_book_42 : xd cX8_book 42 .ireturn 1 43 := ⟨by decide +kernel, rfl⟩

set_option maxRecDepth 100000 in
set_option maxHeartbeats 4000000 in
theorem ct_book_b (l : Launch) (g : XG) (aM aS aK aL aC aW aR aT aH aF : Nat) (ts : Nat) (kp : Int32) (aSk aSm aSp aSt aSc aSr aSe gr br cs wk : Nat) (z : Int32) (fi : Nat → Nat) (wq wh : Int32) (hb : wI wq 0 (nI wk - 1) = 0 ∨ wI wh 0 7 = 0) : Ct l g 10 0 0 yX8_book cX8_book 3 (some .int) [.ref aM, .int wq, .int wh] [(aM, .inr (8, [.ref aS, .ref aK, .ref aL, .ref aC, .ref aW, .ref aR, .ref aT, .ref aH, .ref aF, .int (nI ts), .int kp])), (aF, .inl (g.2.1 0, 7, .inl (nIf fi))), (aS, .inr (6, [.ref aSk, .ref aSm, .ref aSp, .ref aSt, .ref aSc, .ref aSr, .ref aSe, .int (nI gr), .int (nI br), .int (nI cs), .int (nI wk), .int z]))] (xpi (fndI 0) [(aM, .inr (8, [.ref aS, .ref aK, .ref aL, .ref aC, .ref aW, .ref aR, .ref aT, .ref aH, .ref aF, .int (nI ts), .int kp])), (aF, .inl (g.2.1 0, 7, .inl (nIf (updN fi 0 (fi 0 + 1))))), (aS, .inr (6, [.ref aSk, .ref aSm, .ref aSp, .ref aSt, .ref aSc, .ref aSr, .ref aSe, .int (nI gr), .int (nI br), .int (nI cs), .int (nI wk), .int z]))]) := by
  refine Ct.ofX (lv := [some (.ref aM), some (.int wq), some (.int wh)]) (by decide) rfl (Nat.le_of_ble_eq_true rfl) (fun κ => ?_)
  generalize hQ : xQ κ g 0 0 _ = Q
  refine x_iload_n dX8_book_0 rfl ?_
  refine x_iconst 0 dX8_book_1 (by decide) ?_
  refine x_aload_n dX8_book_2 rfl ?_
  refine x_get dX8_book_3 0 0 inX8 fl_X8_10 rfl rfl (by decide) rfl ?_
  refine x_get dX8_book_6 2 10 inX6 fl_X8_189 rfl rfl (by decide) rfl ?_
  refine x_iconst 1 dX8_book_9 (by decide) ?_
  refine x_isub dX8_book_10 ?_
  refine x_cSi dX8_book_11 ml_X8_89 mX8_within (ct_X8_within κ.2.1 g wq 0 ((nI wk) - 1)) rfl (Nat.le_of_ble_eq_true rfl) (by decide) (Nat.le_refl _) (Nat.le_refl _) ?_
  refine x_if_eq dX8_book_14 (fun c14 => ?_) (fun c14 => ?_)
  · have c14 : (wI wq 0 ((nI wk) - 1)) = 0 := c14
    refine x_aload_n dX8_book_27 rfl ?_
    refine x_iconst 0 dX8_book_28 (by decide) ?_
    refine x_cVi (ws' := [(aM, .inr (8, [.ref aS, .ref aK, .ref aL, .ref aC, .ref aW, .ref aR, .ref aT, .ref aH, .ref aF, .int (nI ts), .int kp])), (aF, .inl (g.2.1 0, 7, .inl (nIf (updN fi 0 (fi 0 + 1))))), (aS, .inr (6, [.ref aSk, .ref aSm, .ref aSp, .ref aSt, .ref aSc, .ref aSr, .ref aSe, .int (nI gr), .int (nI br), .int (nI cs), .int (nI wk), .int z]))]) dX8_book_29 ml_X8_79 mX8_tell (ct_X8_tell κ.2.1 g aM aS aK aL aC aW aR aT aH aF ts kp fi 0 (by decide)) [0, 1] rfl rfl 0 rfl rfl rfl (Nat.le_of_ble_eq_true rfl) (by decide) (Nat.le_refl _) (Nat.le_refl _) (rfl : [aM, aF] = [aM, aF]) rfl ?_
    rw [← hQ]
    refine x_iret dX8_book_32 rfl (Nat.le_of_ble_eq_true rfl) (Nat.le_of_ble_eq_true rfl) ?_
    exact ⟨rfl, rfl⟩
  · have c14 : ¬ ((wI wq 0 ((nI wk) - 1)) = 0) := c14
    refine x_iload_n dX8_book_17 rfl ?_
    refine x_iconst 0 dX8_book_18 (by decide) ?_
    refine x_bipush 7 dX8_book_19 (by decide) ?_
    refine x_cSi dX8_book_21 ml_X8_89 mX8_within (ct_X8_within κ.2.1 g wh 0 7) rfl (Nat.le_of_ble_eq_true rfl) (by decide) (Nat.le_refl _) (Nat.le_refl _) ?_
    refine x_if_ne dX8_book_24 (fun c24 => ?_) (fun c24 => ?_)
    · have c24 : ¬ ((wI wh 0 7) = 0) := c24
      exact absurd (hb.resolve_left c14) c24
    · have c24 : (wI wh 0 7) = 0 := c24
      refine x_aload_n dX8_book_27 rfl ?_
      refine x_iconst 0 dX8_book_28 (by decide) ?_
      refine x_cVi (ws' := [(aM, .inr (8, [.ref aS, .ref aK, .ref aL, .ref aC, .ref aW, .ref aR, .ref aT, .ref aH, .ref aF, .int (nI ts), .int kp])), (aF, .inl (g.2.1 0, 7, .inl (nIf (updN fi 0 (fi 0 + 1))))), (aS, .inr (6, [.ref aSk, .ref aSm, .ref aSp, .ref aSt, .ref aSc, .ref aSr, .ref aSe, .int (nI gr), .int (nI br), .int (nI cs), .int (nI wk), .int z]))]) dX8_book_29 ml_X8_79 mX8_tell (ct_X8_tell κ.2.1 g aM aS aK aL aC aW aR aT aH aF ts kp fi 0 (by decide)) [0, 1] rfl rfl 0 rfl rfl rfl (Nat.le_of_ble_eq_true rfl) (by decide) (Nat.le_refl _) (Nat.le_refl _) (rfl : [aM, aF] = [aM, aF]) rfl ?_
      rw [← hQ]
      refine x_iret dX8_book_32 rfl (Nat.le_of_ble_eq_true rfl) (Nat.le_of_ble_eq_true rfl) ?_
      exact ⟨rfl, rfl⟩

-- == book_o ==
set_option maxRecDepth 100000 in
set_option maxHeartbeats 4000000 in
theorem ct_book_o (l : Launch) (g : XG) (aM aS aK aL aC aW aR aT aH aF : Nat) (ts : Nat) (kp : Int32) (aSk aSm aSp aSt aSc aSr aSe gr br cs wk : Nat) (z : Int32) (fi : Nat → Nat) (ce : Nat → Int32) (w q : Nat) (hw : w < wk ∧ wk ≤ 40) (hq : q < 8) : Ct l g 10 0 0 yX8_book cX8_book 3 (some .int) [.ref aM, .int (nI w), .int (nI q)] [(aM, .inr (8, [.ref aS, .ref aK, .ref aL, .ref aC, .ref aW, .ref aR, .ref aT, .ref aH, .ref aF, .int (nI ts), .int kp])), (aF, .inl (g.2.1 0, 7, .inl (nIf fi))), (aS, .inr (6, [.ref aSk, .ref aSm, .ref aSp, .ref aSt, .ref aSc, .ref aSr, .ref aSe, .int (nI gr), .int (nI br), .int (nI cs), .int (nI wk), .int z])), (aSe, .inl (g.2.1 0, 320, .inl ce))] (xpi (ce (w * 8 + q)) [(aM, .inr (8, [.ref aS, .ref aK, .ref aL, .ref aC, .ref aW, .ref aR, .ref aT, .ref aH, .ref aF, .int (nI ts), .int kp])), (aF, .inl (g.2.1 0, 7, .inl (nIf fi))), (aS, .inr (6, [.ref aSk, .ref aSm, .ref aSp, .ref aSt, .ref aSc, .ref aSr, .ref aSe, .int (nI gr), .int (nI br), .int (nI cs), .int (nI wk), .int z])), (aSe, .inl (g.2.1 0, 320, .inl ce))]) := by
  refine Ct.ofX (lv := [some (.ref aM), some (.int (nI w)), some (.int (nI q))]) (by decide) rfl (Nat.le_of_ble_eq_true rfl) (fun κ => ?_)
  generalize hQ : xQ κ g 0 0 _ = Q
  refine x_iload_n dX8_book_0 rfl ?_
  refine x_iconst 0 dX8_book_1 (by decide) ?_
  refine x_aload_n dX8_book_2 rfl ?_
  refine x_get dX8_book_3 0 0 inX8 fl_X8_10 rfl rfl (by decide) rfl ?_
  refine x_get dX8_book_6 2 10 inX6 fl_X8_189 rfl rfl (by decide) rfl ?_
  refine x_iconst 1 dX8_book_9 (by decide) ?_
  refine x_isub dX8_book_10 ?_
  refine x_rei (nI (wk - 1)) (nI_isub wk 1 (by omega)) ?_
  refine x_cSi dX8_book_11 ml_X8_89 mX8_within (ct_within_n κ.2.1 g w 0 (wk - 1) (⟨by omega, by omega, by omega, by omega⟩)) rfl (Nat.le_of_ble_eq_true rfl) (by decide) (Nat.le_refl _) (Nat.le_refl _) ?_
  refine x_if_eq dX8_book_14 (fun c14 => ?_) (fun c14 => ?_)
  · exact absurd c14 (by decide)
  refine x_iload_n dX8_book_17 rfl ?_
  refine x_iconst 0 dX8_book_18 (by decide) ?_
  refine x_bipush 7 dX8_book_19 (by decide) ?_
  refine x_cSi dX8_book_21 ml_X8_89 mX8_within (ct_within_n κ.2.1 g q 0 7 (⟨by omega, by omega, by omega, by omega⟩)) rfl (Nat.le_of_ble_eq_true rfl) (by decide) (Nat.le_refl _) (Nat.le_refl _) ?_
  refine x_if_ne dX8_book_24 (fun c24 => ?_) (fun c24 => ?_)
  rotate_left
  · exact absurd c24 (by decide)
  refine x_aload_n dX8_book_33 rfl ?_
  refine x_get dX8_book_34 0 0 inX8 fl_X8_10 rfl rfl (by decide) rfl ?_
  refine x_iload_n dX8_book_37 rfl ?_
  refine x_iload_n dX8_book_38 rfl ?_
  refine x_cVi0 dX8_book_39 ml_X8_192 mX6_bookCell (ct_X6_bookCell κ.2.1 g aS aSk aSm aSp aSt aSc aSr aSe gr br cs wk z ce w q (by omega) (hq)) [2, 3] rfl rfl 2 rfl rfl rfl (Nat.le_of_ble_eq_true rfl) (by decide) (Nat.le_refl _) (Nat.le_refl _) ?_
  rw [← hQ]
  refine x_iret dX8_book_42 rfl (Nat.le_of_ble_eq_true rfl) (Nat.le_of_ble_eq_true rfl) ?_
  exact ⟨rfl, rfl⟩

-- == now_o ==
theorem dX8_now_0 : xd cX8_now 0 (.aload_n 0) 1 1 := ⟨by decide +kernel, rfl⟩
theorem dX8_now_1 : xd cX8_now 1 (.getfield 36) 3 4 := ⟨by decide +kernel, rfl⟩
theorem dX8_now_4 : xd cX8_now 4 (.invokevirtual 114) 3 7 := ⟨by decide +kernel, rfl⟩
theorem dX8_now_7 : xd cX8_now 7 (.aload_n 0) 1 8 := ⟨by decide +kernel, rfl⟩
theorem dX8_now_8 : xd cX8_now 8 (.getfield 10) 3 11 := ⟨by decide +kernel, rfl⟩
theorem dX8_now_11 : xd cX8_now 11 (.aload_n 0) 1 12 := ⟨by decide +kernel, rfl⟩
theorem dX8_now_12 : xd cX8_now 12 (.getfield 10) 3 15 := ⟨by decide +kernel, rfl⟩
theorem dX8_now_15 : xd cX8_now 15 (.getfield 172) 3 18 := ⟨by decide +kernel, rfl⟩
theorem dX8_now_18 : xd cX8_now 18 (.bipush 7) 2 20 := ⟨by decide +kernel, rfl⟩
theorem dX8_now_20 : xd cX8_now 20 .iaload 1 21 := ⟨by decide +kernel, rfl⟩
theorem dX8_now_21 : xd cX8_now 21 .i2l 1 22 := ⟨by decide +kernel, rfl⟩
theorem dX8_now_22 : xd cX8_now 22 (.aload_n 0) 1 23 := ⟨by decide +kernel, rfl⟩
theorem dX8_now_23 : xd cX8_now 23 (.getfield 36) 3 26 := ⟨by decide +kernel, rfl⟩
theorem dX8_now_26 : xd cX8_now 26 (.getfield 195) 3 29 := ⟨by decide +kernel, rfl⟩
theorem dX8_now_29 : xd cX8_now 29 .i2l 1 30 := ⟨by decide +kernel, rfl⟩
theorem dX8_now_30 : xd cX8_now 30 (.invokevirtual 198) 3 33 := ⟨by decide +kernel, rfl⟩
theorem dX8_now_33 : xd cX8_now 33 .l2i 1 34 := ⟨by decide +kernel, rfl⟩
theorem dX8_now_34 : xd cX8_now 34 .ireturn 1 35 := ⟨by decide +kernel, rfl⟩

set_option maxRecDepth 100000 in
set_option maxHeartbeats 4000000 in
theorem ct_now_o (l : Launch) (g : XG) (aM aK aW aR aT aH aF ts : Nat) (kp : Int32) (aC aS aL aV aO aCs aCl aCh aCw aCc aCb tot lat : Nat) (se sw : Int32) (aLb aLp aVs aSk aSm aSp aSt aSc aSr aSe gr br cs wk : Nat) (z : Int32) (sd li cr ki ma bp bt : Nat → Nat) (co ce sk : Nat → Int32) (V : Nat → Int32) (L : Nat) (ru : Nat → Nat) (hgr : gr ≤ 12) (hbr : br ≤ 40) (hcs : cs ≤ 60) (hwk : wk ≤ 40) (hki : ∀ j, ki j ≤ 7) (hma : ∀ j, ma j ≤ 99999) (hbp : ∀ j, bp j < 495) (hlat : latI ce wk = nI L) (hL : L < 4096) (hV : cs ≠ 0 → ∀ p, p < 495 → evR (nmI wk L p) (cdF co 0 cs) [] = some [V p]) (hse : se = 0 ∨ (se = 1 ∧ sd = sdF cs V ∧ cr = crF gr ki ma bp bt br L (sdF cs V) ∧ tot = totF gr ki ma bp bt br L (sdF cs V) ∧ lat = L)) : Ct l g 10 0 0 yX8_now cX8_now 1 (some .int) [.ref aM] [(aM, .inr (8, [.ref aS, .ref aK, .ref aL, .ref aC, .ref aW, .ref aR, .ref aT, .ref aH, .ref aF, .int (nI ts), .int kp])), (aC, .inr (0, [.ref aS, .ref aL, .ref aV, .ref aO, .ref aCs, .ref aCl, .ref aCh, .ref aCw, .ref aCc, .ref aCb, .int (nI tot), .int (nI lat), .int se, .int sw])), (aCs, .inl (g.2.1 0, 495, .inl (nIf sd))), (aCl, .inl (g.2.1 0, 495, .inl (nIf li))), (aCc, .inl (g.2.1 0, 495, .inl (nIf cr))), (aL, .inr (5, [.ref aLb, .ref aLp])), (aLb, .inl (g.2.1 0, 495, .inl (nIf rowB))), (aLp, .inl (g.2.1 0, 495, .inl (nIf packB))), (aV, .inr (2, [.ref aS, .ref aVs])), (aVs, .inl (g.2.1 0, 60, .inl sk)), (aS, .inr (6, [.ref aSk, .ref aSm, .ref aSp, .ref aSt, .ref aSc, .ref aSr, .ref aSe, .int (nI gr), .int (nI br), .int (nI cs), .int (nI wk), .int z])), (aSk, .inl (g.2.1 0, 12, .inl (nIf ki))), (aSm, .inl (g.2.1 0, 12, .inl (nIf ma))), (aSp, .inl (g.2.1 0, 40, .inl (nIf bp))), (aSt, .inl (g.2.1 0, 40, .inl (nIf bt))), (aSc, .inl (g.2.1 0, 60, .inl co)), (aSe, .inl (g.2.1 0, 320, .inl ce)), (aSr, .inl (g.2.1 0, 8, .inl (nIf ru)))] (fun vv_ ww_ => ∃ (li2 : Nat → Nat) (sk2 : Nat → Int32), vv_ = some (.int ((wkPot ru (totF gr ki ma bp bt br L (sdF cs V))).toInt32)) ∧ ww_ = [(aM, .inr (8, [.ref aS, .ref aK, .ref aL, .ref aC, .ref aW, .ref aR, .ref aT, .ref aH, .ref aF, .int (nI ts), .int kp])), (aC, .inr (0, [.ref aS, .ref aL, .ref aV, .ref aO, .ref aCs, .ref aCl, .ref aCh, .ref aCw, .ref aCc, .ref aCb, .int (nI (totF gr ki ma bp bt br L (sdF cs V))), .int (nI L), .int 1, .int sw])), (aCs, .inl (g.2.1 0, 495, .inl (nIf (sdF cs V)))), (aCl, .inl (g.2.1 0, 495, .inl (nIf li2))), (aCc, .inl (g.2.1 0, 495, .inl (nIf (crF gr ki ma bp bt br L (sdF cs V))))), (aL, .inr (5, [.ref aLb, .ref aLp])), (aLb, .inl (g.2.1 0, 495, .inl (nIf rowB))), (aLp, .inl (g.2.1 0, 495, .inl (nIf packB))), (aV, .inr (2, [.ref aS, .ref aVs])), (aVs, .inl (g.2.1 0, 60, .inl sk2)), (aS, .inr (6, [.ref aSk, .ref aSm, .ref aSp, .ref aSt, .ref aSc, .ref aSr, .ref aSe, .int (nI gr), .int (nI br), .int (nI cs), .int (nI wk), .int z])), (aSk, .inl (g.2.1 0, 12, .inl (nIf ki))), (aSm, .inl (g.2.1 0, 12, .inl (nIf ma))), (aSp, .inl (g.2.1 0, 40, .inl (nIf bp))), (aSt, .inl (g.2.1 0, 40, .inl (nIf bt))), (aSc, .inl (g.2.1 0, 60, .inl co)), (aSe, .inl (g.2.1 0, 320, .inl ce)), (aSr, .inl (g.2.1 0, 8, .inl (nIf ru)))]) := by
  refine Ct.ofX (lv := [some (.ref aM)]) (by decide) rfl (Nat.le_of_ble_eq_true rfl) (fun κ => ?_)
  generalize hQ : xQ κ g 0 0 _ = Q
  refine x_aload_n dX8_now_0 rfl ?_
  refine x_get dX8_now_1 0 3 inX8 fl_X8_36 rfl rfl (by decide) rfl ?_
  refine x_callV dX8_now_4 ml_X8_114 mX0_settle (ct_X0_settle κ.2.1 g aC aS aL aV aO aCs aCl aCh aCw aCc aCb tot lat se sw aLb aLp aVs aSk aSm aSp aSt aSc aSr aSe gr br cs wk z sd li cr ki ma bp bt co ce sk V L (hgr) (hbr) (hcs) (hwk) (hki) (hma) (hbp) (hlat) (hL) (hV) (hse)) [1, 2, 3, 4, 5, 6, 7, 8, 9, 10, 11, 12, 13, 14, 15, 16] rfl rfl 1 rfl rfl rfl (Nat.le_of_ble_eq_true rfl) (by decide) (Nat.le_refl _) (Nat.le_refl _) (fun vv ww hp => ?_)
  obtain ⟨z1, z2, rfl, rfl⟩ := hp
  refine ⟨(rfl : [aC, aCs, aCl, aCc, aL, aLb, aLp, aV, aVs, aS, aSk, aSm, aSp, aSt, aSc, aSe] = [aC, aCs, aCl, aCc, aL, aLb, aLp, aV, aVs, aS, aSk, aSm, aSp, aSt, aSc, aSe]), x_eq (lv' := [some (.ref aM)]) (st' := []) (ws' := [(aM, .inr (8, [.ref aS, .ref aK, .ref aL, .ref aC, .ref aW, .ref aR, .ref aT, .ref aH, .ref aF, .int (nI ts), .int kp])), (aC, .inr (0, [.ref aS, .ref aL, .ref aV, .ref aO, .ref aCs, .ref aCl, .ref aCh, .ref aCw, .ref aCc, .ref aCb, .int (nI (totF gr ki ma bp bt br L (sdF cs V))), .int (nI L), .int 1, .int sw])), (aCs, .inl (g.2.1 0, 495, .inl (nIf (sdF cs V)))), (aCl, .inl (g.2.1 0, 495, .inl (nIf z1))), (aCc, .inl (g.2.1 0, 495, .inl (nIf (crF gr ki ma bp bt br L (sdF cs V))))), (aL, .inr (5, [.ref aLb, .ref aLp])), (aLb, .inl (g.2.1 0, 495, .inl (nIf rowB))), (aLp, .inl (g.2.1 0, 495, .inl (nIf packB))), (aV, .inr (2, [.ref aS, .ref aVs])), (aVs, .inl (g.2.1 0, 60, .inl z2)), (aS, .inr (6, [.ref aSk, .ref aSm, .ref aSp, .ref aSt, .ref aSc, .ref aSr, .ref aSe, .int (nI gr), .int (nI br), .int (nI cs), .int (nI wk), .int z])), (aSk, .inl (g.2.1 0, 12, .inl (nIf ki))), (aSm, .inl (g.2.1 0, 12, .inl (nIf ma))), (aSp, .inl (g.2.1 0, 40, .inl (nIf bp))), (aSt, .inl (g.2.1 0, 40, .inl (nIf bt))), (aSc, .inl (g.2.1 0, 60, .inl co)), (aSe, .inl (g.2.1 0, 320, .inl ce)), (aSr, .inl (g.2.1 0, 8, .inl (nIf ru)))]) ?_ rfl rfl rfl⟩
  refine x_aload_n dX8_now_7 rfl ?_
  refine x_get dX8_now_8 0 0 inX8 fl_X8_10 rfl rfl (by decide) rfl ?_
  refine x_aload_n dX8_now_11 rfl ?_
  refine x_get dX8_now_12 0 0 inX8 fl_X8_10 rfl rfl (by decide) rfl ?_
  refine x_get dX8_now_15 10 5 inX6 fl_X8_172 rfl rfl (by decide) rfl ?_
  refine x_bipush 7 dX8_now_18 (by decide) ?_
  refine x_iald dX8_now_20 17 7 rfl (rfl) (by decide) (by decide) ?_
  refine x_i2l dX8_now_21 ?_
  refine x_aload_n dX8_now_22 rfl ?_
  refine x_get dX8_now_23 0 3 inX8 fl_X8_36 rfl rfl (by decide) rfl ?_
  refine x_get dX8_now_26 1 10 inX0 fl_X8_195 rfl rfl (by decide) rfl ?_
  refine x_i2l dX8_now_29 ?_
  refine x_cVl0 dX8_now_30 ml_X8_198 mX6_potWithIn (ct_X6_potWithIn κ.2.1 g aS aSk aSm aSp aSt aSc aSr aSe gr br cs wk z ru ((nI (ru 7)).toInt64) ((nI (totF gr ki ma bp bt br L (sdF cs V))).toInt64)) [10, 17] rfl rfl 10 rfl rfl rfl (Nat.le_of_ble_eq_true rfl) (by decide) (Nat.le_refl _) (Nat.le_refl _) ?_
  refine x_l2i dX8_now_33 ?_
  rw [← hQ]
  refine x_iret dX8_now_34 rfl (Nat.le_of_ble_eq_true rfl) (Nat.le_of_ble_eq_true rfl) ?_
  exact ⟨_, _, rfl, rfl⟩

-- == shares_b ==
theorem dX8_shares_0 : xd cX8_shares 0 (.iload_n 1) 1 1 := ⟨by decide +kernel, rfl⟩
theorem dX8_shares_1 : xd cX8_shares 1 (.invokestatic 82) 3 4 := ⟨by decide +kernel, rfl⟩
theorem dX8_shares_4 : xj cX8_shares 4 (.ifCond .ne) 7 13 := ⟨9, by decide +kernel, rfl, by decide⟩
theorem dX8_shares_7 : xd cX8_shares 7 (.aload_n 0) 1 8 := ⟨by decide +kernel, rfl⟩
theorem dX8_shares_8 : xd cX8_shares 8 (.iconst 0) 1 9 := ⟨by decide +kernel, rfl⟩
theorem dX8_shares_9 : xd cX8_shares 9 (.invokevirtual 79) 3 12 := ⟨by decide +kernel, rfl⟩
theorem dX8_shares_12 : xd cX8_shares 12 .ireturn 1 13 := ⟨by decide +kernel, rfl⟩
theorem dX8_shares_13 : xd cX8_shares 13 (.aload_n 0) 1 14 := ⟨by decide +kernel, rfl⟩
theorem dX8_shares_14 : xd cX8_shares 14 (.getfield 36) 3 17 := ⟨by decide +kernel, rfl⟩
theorem dX8_shares_17 : xd cX8_shares 17 (.invokevirtual 114) 3 20 := ⟨by decide +kernel, rfl⟩
theorem dX8_shares_20 : xd cX8_shares 20 (.aload_n 0) 1 21 := ⟨by decide +kernel, rfl⟩
theorem dX8_shares_21 : xd cX8_shares 21 (.getfield 36) 3 24 := ⟨by decide +kernel, rfl⟩
theorem dX8_shares_24 : xd cX8_shares 24 (.getfield 121) 3 27 := ⟨by decide +kernel, rfl⟩
theorem dX8_shares_27 : xd cX8_shares 27 (.iload_n 1) 1 28 := ⟨by decide +kernel, rfl⟩
theorem dX8_shares_28 : xd cX8_shares 28 .iaload 1 29 := ⟨by decide +kernel, rfl⟩
theorem dX8_shares_29 : xd cX8_shares 29 .ireturn 1 30 := ⟨by decide +kernel, rfl⟩

set_option maxRecDepth 100000 in
set_option maxHeartbeats 4000000 in
theorem ct_shares_b (l : Launch) (g : XG) (aM aS aK aL aC aW aR aT aH aF : Nat) (ts : Nat) (kp : Int32) (aSk aSm aSp aSt aSc aSr aSe gr br cs wk : Nat) (z : Int32) (fi : Nat → Nat) (pl : Int32) (hb : wI pl 0 494 = 0) : Ct l g 10 0 0 yX8_shares cX8_shares 2 (some .int) [.ref aM, .int pl] [(aM, .inr (8, [.ref aS, .ref aK, .ref aL, .ref aC, .ref aW, .ref aR, .ref aT, .ref aH, .ref aF, .int (nI ts), .int kp])), (aF, .inl (g.2.1 0, 7, .inl (nIf fi))), (aS, .inr (6, [.ref aSk, .ref aSm, .ref aSp, .ref aSt, .ref aSc, .ref aSr, .ref aSe, .int (nI gr), .int (nI br), .int (nI cs), .int (nI wk), .int z]))] (xpi (fndI 0) [(aM, .inr (8, [.ref aS, .ref aK, .ref aL, .ref aC, .ref aW, .ref aR, .ref aT, .ref aH, .ref aF, .int (nI ts), .int kp])), (aF, .inl (g.2.1 0, 7, .inl (nIf (updN fi 0 (fi 0 + 1))))), (aS, .inr (6, [.ref aSk, .ref aSm, .ref aSp, .ref aSt, .ref aSc, .ref aSr, .ref aSe, .int (nI gr), .int (nI br), .int (nI cs), .int (nI wk), .int z]))]) := by
  refine Ct.ofX (lv := [some (.ref aM), some (.int pl)]) (by decide) rfl (Nat.le_of_ble_eq_true rfl) (fun κ => ?_)
  generalize hQ : xQ κ g 0 0 _ = Q
  refine x_iload_n dX8_shares_0 rfl ?_
  refine x_cSi dX8_shares_1 ml_X8_82 mX8_isPlace (ct_X8_isPlace κ.2.1 g pl) rfl (Nat.le_of_ble_eq_true rfl) (by decide) (Nat.le_refl _) (Nat.le_refl _) ?_
  refine x_if_ne dX8_shares_4 (fun c4 => ?_) (fun c4 => ?_)
  · have c4 : ¬ ((wI pl 0 494) = 0) := c4
    exact absurd hb c4
  · have c4 : (wI pl 0 494) = 0 := c4
    refine x_aload_n dX8_shares_7 rfl ?_
    refine x_iconst 0 dX8_shares_8 (by decide) ?_
    refine x_cVi (ws' := [(aM, .inr (8, [.ref aS, .ref aK, .ref aL, .ref aC, .ref aW, .ref aR, .ref aT, .ref aH, .ref aF, .int (nI ts), .int kp])), (aF, .inl (g.2.1 0, 7, .inl (nIf (updN fi 0 (fi 0 + 1))))), (aS, .inr (6, [.ref aSk, .ref aSm, .ref aSp, .ref aSt, .ref aSc, .ref aSr, .ref aSe, .int (nI gr), .int (nI br), .int (nI cs), .int (nI wk), .int z]))]) dX8_shares_9 ml_X8_79 mX8_tell (ct_X8_tell κ.2.1 g aM aS aK aL aC aW aR aT aH aF ts kp fi 0 (by decide)) [0, 1] rfl rfl 0 rfl rfl rfl (Nat.le_of_ble_eq_true rfl) (by decide) (Nat.le_refl _) (Nat.le_refl _) (rfl : [aM, aF] = [aM, aF]) rfl ?_
    rw [← hQ]
    refine x_iret dX8_shares_12 rfl (Nat.le_of_ble_eq_true rfl) (Nat.le_of_ble_eq_true rfl) ?_
    exact ⟨rfl, rfl⟩

-- == shares_o ==
set_option maxRecDepth 100000 in
set_option maxHeartbeats 4000000 in
theorem ct_shares_o (l : Launch) (g : XG) (aM aK aW aR aT aH aF ts : Nat) (kp : Int32) (aC aS aL aV aO aCs aCl aCh aCw aCc aCb tot lat : Nat) (se sw : Int32) (aLb aLp aVs aSk aSm aSp aSt aSc aSr aSe gr br cs wk : Nat) (z : Int32) (sd li cr ki ma bp bt : Nat → Nat) (co ce sk : Nat → Int32) (V : Nat → Int32) (L : Nat) (p : Nat) (hgr : gr ≤ 12) (hbr : br ≤ 40) (hcs : cs ≤ 60) (hwk : wk ≤ 40) (hki : ∀ j, ki j ≤ 7) (hma : ∀ j, ma j ≤ 99999) (hbp : ∀ j, bp j < 495) (hlat : latI ce wk = nI L) (hL : L < 4096) (hV : cs ≠ 0 → ∀ p, p < 495 → evR (nmI wk L p) (cdF co 0 cs) [] = some [V p]) (hse : se = 0 ∨ (se = 1 ∧ sd = sdF cs V ∧ cr = crF gr ki ma bp bt br L (sdF cs V) ∧ tot = totF gr ki ma bp bt br L (sdF cs V) ∧ lat = L)) (hp : p < 495) : Ct l g 10 0 0 yX8_shares cX8_shares 2 (some .int) [.ref aM, .int (nI p)] [(aM, .inr (8, [.ref aS, .ref aK, .ref aL, .ref aC, .ref aW, .ref aR, .ref aT, .ref aH, .ref aF, .int (nI ts), .int kp])), (aC, .inr (0, [.ref aS, .ref aL, .ref aV, .ref aO, .ref aCs, .ref aCl, .ref aCh, .ref aCw, .ref aCc, .ref aCb, .int (nI tot), .int (nI lat), .int se, .int sw])), (aCs, .inl (g.2.1 0, 495, .inl (nIf sd))), (aCl, .inl (g.2.1 0, 495, .inl (nIf li))), (aCc, .inl (g.2.1 0, 495, .inl (nIf cr))), (aL, .inr (5, [.ref aLb, .ref aLp])), (aLb, .inl (g.2.1 0, 495, .inl (nIf rowB))), (aLp, .inl (g.2.1 0, 495, .inl (nIf packB))), (aV, .inr (2, [.ref aS, .ref aVs])), (aVs, .inl (g.2.1 0, 60, .inl sk)), (aS, .inr (6, [.ref aSk, .ref aSm, .ref aSp, .ref aSt, .ref aSc, .ref aSr, .ref aSe, .int (nI gr), .int (nI br), .int (nI cs), .int (nI wk), .int z])), (aSk, .inl (g.2.1 0, 12, .inl (nIf ki))), (aSm, .inl (g.2.1 0, 12, .inl (nIf ma))), (aSp, .inl (g.2.1 0, 40, .inl (nIf bp))), (aSt, .inl (g.2.1 0, 40, .inl (nIf bt))), (aSc, .inl (g.2.1 0, 60, .inl co)), (aSe, .inl (g.2.1 0, 320, .inl ce))] (fun vv_ ww_ => ∃ (li2 : Nat → Nat) (sk2 : Nat → Int32), vv_ = some (.int (nI (crF gr ki ma bp bt br L (sdF cs V) p))) ∧ ww_ = [(aM, .inr (8, [.ref aS, .ref aK, .ref aL, .ref aC, .ref aW, .ref aR, .ref aT, .ref aH, .ref aF, .int (nI ts), .int kp])), (aC, .inr (0, [.ref aS, .ref aL, .ref aV, .ref aO, .ref aCs, .ref aCl, .ref aCh, .ref aCw, .ref aCc, .ref aCb, .int (nI (totF gr ki ma bp bt br L (sdF cs V))), .int (nI L), .int 1, .int sw])), (aCs, .inl (g.2.1 0, 495, .inl (nIf (sdF cs V)))), (aCl, .inl (g.2.1 0, 495, .inl (nIf li2))), (aCc, .inl (g.2.1 0, 495, .inl (nIf (crF gr ki ma bp bt br L (sdF cs V))))), (aL, .inr (5, [.ref aLb, .ref aLp])), (aLb, .inl (g.2.1 0, 495, .inl (nIf rowB))), (aLp, .inl (g.2.1 0, 495, .inl (nIf packB))), (aV, .inr (2, [.ref aS, .ref aVs])), (aVs, .inl (g.2.1 0, 60, .inl sk2)), (aS, .inr (6, [.ref aSk, .ref aSm, .ref aSp, .ref aSt, .ref aSc, .ref aSr, .ref aSe, .int (nI gr), .int (nI br), .int (nI cs), .int (nI wk), .int z])), (aSk, .inl (g.2.1 0, 12, .inl (nIf ki))), (aSm, .inl (g.2.1 0, 12, .inl (nIf ma))), (aSp, .inl (g.2.1 0, 40, .inl (nIf bp))), (aSt, .inl (g.2.1 0, 40, .inl (nIf bt))), (aSc, .inl (g.2.1 0, 60, .inl co)), (aSe, .inl (g.2.1 0, 320, .inl ce))]) := by
  refine Ct.ofX (lv := [some (.ref aM), some (.int (nI p))]) (by decide) rfl (Nat.le_of_ble_eq_true rfl) (fun κ => ?_)
  generalize hQ : xQ κ g 0 0 _ = Q
  refine x_iload_n dX8_shares_0 rfl ?_
  refine x_cSi dX8_shares_1 ml_X8_82 mX8_isPlace (ct_isPlace_n κ.2.1 g p (hp)) rfl (Nat.le_of_ble_eq_true rfl) (by decide) (Nat.le_refl _) (Nat.le_refl _) ?_
  refine x_if_ne dX8_shares_4 (fun c4 => ?_) (fun c4 => ?_)
  rotate_left
  · exact absurd c4 (by decide)
  refine x_aload_n dX8_shares_13 rfl ?_
  refine x_get dX8_shares_14 0 3 inX8 fl_X8_36 rfl rfl (by decide) rfl ?_
  refine x_callV dX8_shares_17 ml_X8_114 mX0_settle (ct_X0_settle κ.2.1 g aC aS aL aV aO aCs aCl aCh aCw aCc aCb tot lat se sw aLb aLp aVs aSk aSm aSp aSt aSc aSr aSe gr br cs wk z sd li cr ki ma bp bt co ce sk V L (hgr) (hbr) (hcs) (hwk) (hki) (hma) (hbp) (hlat) (hL) (hV) (hse)) [1, 2, 3, 4, 5, 6, 7, 8, 9, 10, 11, 12, 13, 14, 15, 16] rfl rfl 1 rfl rfl rfl (Nat.le_of_ble_eq_true rfl) (by decide) (Nat.le_refl _) (Nat.le_refl _) (fun vv ww hp => ?_)
  obtain ⟨z1, z2, rfl, rfl⟩ := hp
  refine ⟨(rfl : [aC, aCs, aCl, aCc, aL, aLb, aLp, aV, aVs, aS, aSk, aSm, aSp, aSt, aSc, aSe] = [aC, aCs, aCl, aCc, aL, aLb, aLp, aV, aVs, aS, aSk, aSm, aSp, aSt, aSc, aSe]), x_eq (lv' := [some (.ref aM), some (.int (nI p))]) (st' := []) (ws' := [(aM, .inr (8, [.ref aS, .ref aK, .ref aL, .ref aC, .ref aW, .ref aR, .ref aT, .ref aH, .ref aF, .int (nI ts), .int kp])), (aC, .inr (0, [.ref aS, .ref aL, .ref aV, .ref aO, .ref aCs, .ref aCl, .ref aCh, .ref aCw, .ref aCc, .ref aCb, .int (nI (totF gr ki ma bp bt br L (sdF cs V))), .int (nI L), .int 1, .int sw])), (aCs, .inl (g.2.1 0, 495, .inl (nIf (sdF cs V)))), (aCl, .inl (g.2.1 0, 495, .inl (nIf z1))), (aCc, .inl (g.2.1 0, 495, .inl (nIf (crF gr ki ma bp bt br L (sdF cs V))))), (aL, .inr (5, [.ref aLb, .ref aLp])), (aLb, .inl (g.2.1 0, 495, .inl (nIf rowB))), (aLp, .inl (g.2.1 0, 495, .inl (nIf packB))), (aV, .inr (2, [.ref aS, .ref aVs])), (aVs, .inl (g.2.1 0, 60, .inl z2)), (aS, .inr (6, [.ref aSk, .ref aSm, .ref aSp, .ref aSt, .ref aSc, .ref aSr, .ref aSe, .int (nI gr), .int (nI br), .int (nI cs), .int (nI wk), .int z])), (aSk, .inl (g.2.1 0, 12, .inl (nIf ki))), (aSm, .inl (g.2.1 0, 12, .inl (nIf ma))), (aSp, .inl (g.2.1 0, 40, .inl (nIf bp))), (aSt, .inl (g.2.1 0, 40, .inl (nIf bt))), (aSc, .inl (g.2.1 0, 60, .inl co)), (aSe, .inl (g.2.1 0, 320, .inl ce))]) ?_ rfl rfl rfl⟩
  refine x_aload_n dX8_shares_20 rfl ?_
  refine x_get dX8_shares_21 0 3 inX8 fl_X8_36 rfl rfl (by decide) rfl ?_
  refine x_get dX8_shares_24 1 8 inX0 fl_X8_121 rfl rfl (by decide) rfl ?_
  refine x_iload_n dX8_shares_27 rfl ?_
  refine x_iald dX8_shares_28 4 p rfl (rfl) (by omega) (by decide) ?_
  rw [← hQ]
  refine x_iret dX8_shares_29 rfl (Nat.le_of_ble_eq_true rfl) (Nat.le_of_ble_eq_true rfl) ?_
  exact ⟨_, _, rfl, rfl⟩

-- == seek_b ==
theorem dX8_seek_0 : xd cX8_seek 0 (.iload_n 1) 1 1 := ⟨by decide +kernel, rfl⟩
theorem dX8_seek_1 : xd cX8_seek 1 (.iconst 1) 1 2 := ⟨by decide +kernel, rfl⟩
theorem dX8_seek_2 : xd cX8_seek 2 (.sipush 200) 3 5 := ⟨by decide +kernel, rfl⟩
theorem dX8_seek_5 : xd cX8_seek 5 (.invokestatic 89) 3 8 := ⟨by decide +kernel, rfl⟩
theorem dX8_seek_8 : xj cX8_seek 8 (.ifCond .eq) 11 20 := ⟨12, by decide +kernel, rfl, by decide⟩
theorem dX8_seek_11 : xd cX8_seek 11 (.iload_n 2) 1 12 := ⟨by decide +kernel, rfl⟩
theorem dX8_seek_12 : xd cX8_seek 12 (.iconst 0) 1 13 := ⟨by decide +kernel, rfl⟩
theorem dX8_seek_13 : xd cX8_seek 13 (.iconst 1) 1 14 := ⟨by decide +kernel, rfl⟩
theorem dX8_seek_14 : xd cX8_seek 14 (.invokestatic 89) 3 17 := ⟨by decide +kernel, rfl⟩
theorem dX8_seek_17 : xj cX8_seek 17 (.ifCond .ne) 20 26 := ⟨9, by decide +kernel, rfl, by decide⟩
theorem dX8_seek_20 : xd cX8_seek 20 (.aload_n 0) 1 21 := ⟨by decide +kernel, rfl⟩
theorem dX8_seek_21 : xd cX8_seek 21 (.iconst 0) 1 22 := ⟨by decide +kernel, rfl⟩
theorem dX8_seek_22 : xd cX8_seek 22 (.invokevirtual 79) 3 25 := ⟨by decide +kernel, rfl⟩
theorem dX8_seek_25 : xd cX8_seek 25 .ireturn 1 26 := ⟨by decide +kernel, rfl⟩
theorem dX8_seek_26 : xd cX8_seek 26 (.aload_n 0) 1 27 := ⟨by decide +kernel, rfl⟩
theorem dX8_seek_27 : xd cX8_seek 27 (.getfield 36) 3 30 := ⟨by decide +kernel, rfl⟩
theorem dX8_seek_30 : xd cX8_seek 30 (.invokevirtual 114) 3 33 := ⟨by decide +kernel, rfl⟩
theorem dX8_seek_33 : xd cX8_seek 33 (.aload_n 0) 1 34 := ⟨by decide +kernel, rfl⟩
theorem dX8_seek_34 : xd cX8_seek 34 (.getfield 45) 3 37 := ⟨by decide +kernel, rfl⟩
theorem dX8_seek_37 : xd cX8_seek 37 (.iload_n 1) 1 38 := ⟨by decide +kernel, rfl⟩
theorem dX8_seek_38 : xd cX8_seek 38 (.iload_n 2) 1 39 := ⟨by decide +kernel, rfl⟩
theorem dX8_seek_39 : xd cX8_seek 39 (.iconst 1) 1 40 := ⟨by decide +kernel, rfl⟩
theorem dX8_seek_40 : xj cX8_seek 40 (.if_icmp .ne) 43 47 := ⟨7, by decide +kernel, rfl, by decide⟩
theorem dX8_seek_43 : xd cX8_seek 43 (.iconst 1) 1 44 := ⟨by decide +kernel, rfl⟩
theorem dX8_seek_44 : xj cX8_seek 44 .goto 47 48 := ⟨4, by decide +kernel, rfl, by decide⟩
theorem dX8_seek_47 : xd cX8_seek 47 (.iconst 0) 1 48 := ⟨by decide +kernel, rfl⟩
theorem dX8_seek_48 : xd cX8_seek 48 (.invokevirtual 219) 3 51 := ⟨by decide +kernel, rfl⟩
theorem dX8_seek_51 : xd cX8_seek 51 .ireturn 1 52 := ⟨by decide +kernel, rfl⟩

set_option maxRecDepth 100000 in
set_option maxHeartbeats 4000000 in
theorem ct_seek_b (l : Launch) (g : XG) (aM aS aK aL aC aW aR aT aH aF : Nat) (ts : Nat) (kp : Int32) (aSk aSm aSp aSt aSc aSr aSe gr br cs wk : Nat) (z : Int32) (fi : Nat → Nat) (m wh : Int32) (hb : wI m 1 200 = 0 ∨ wI wh 0 1 = 0) : Ct l g 10 0 0 yX8_seek cX8_seek 3 (some .int) [.ref aM, .int m, .int wh] [(aM, .inr (8, [.ref aS, .ref aK, .ref aL, .ref aC, .ref aW, .ref aR, .ref aT, .ref aH, .ref aF, .int (nI ts), .int kp])), (aF, .inl (g.2.1 0, 7, .inl (nIf fi))), (aS, .inr (6, [.ref aSk, .ref aSm, .ref aSp, .ref aSt, .ref aSc, .ref aSr, .ref aSe, .int (nI gr), .int (nI br), .int (nI cs), .int (nI wk), .int z]))] (xpi (fndI 0) [(aM, .inr (8, [.ref aS, .ref aK, .ref aL, .ref aC, .ref aW, .ref aR, .ref aT, .ref aH, .ref aF, .int (nI ts), .int kp])), (aF, .inl (g.2.1 0, 7, .inl (nIf (updN fi 0 (fi 0 + 1))))), (aS, .inr (6, [.ref aSk, .ref aSm, .ref aSp, .ref aSt, .ref aSc, .ref aSr, .ref aSe, .int (nI gr), .int (nI br), .int (nI cs), .int (nI wk), .int z]))]) := by
  refine Ct.ofX (lv := [some (.ref aM), some (.int m), some (.int wh)]) (by decide) rfl (Nat.le_of_ble_eq_true rfl) (fun κ => ?_)
  generalize hQ : xQ κ g 0 0 _ = Q
  refine x_iload_n dX8_seek_0 rfl ?_
  refine x_iconst 1 dX8_seek_1 (by decide) ?_
  refine x_sipush 200 dX8_seek_2 (by decide) ?_
  refine x_cSi dX8_seek_5 ml_X8_89 mX8_within (ct_X8_within κ.2.1 g m 1 200) rfl (Nat.le_of_ble_eq_true rfl) (by decide) (Nat.le_refl _) (Nat.le_refl _) ?_
  refine x_if_eq dX8_seek_8 (fun c8 => ?_) (fun c8 => ?_)
  · have c8 : (wI m 1 200) = 0 := c8
    refine x_aload_n dX8_seek_20 rfl ?_
    refine x_iconst 0 dX8_seek_21 (by decide) ?_
    refine x_cVi (ws' := [(aM, .inr (8, [.ref aS, .ref aK, .ref aL, .ref aC, .ref aW, .ref aR, .ref aT, .ref aH, .ref aF, .int (nI ts), .int kp])), (aF, .inl (g.2.1 0, 7, .inl (nIf (updN fi 0 (fi 0 + 1))))), (aS, .inr (6, [.ref aSk, .ref aSm, .ref aSp, .ref aSt, .ref aSc, .ref aSr, .ref aSe, .int (nI gr), .int (nI br), .int (nI cs), .int (nI wk), .int z]))]) dX8_seek_22 ml_X8_79 mX8_tell (ct_X8_tell κ.2.1 g aM aS aK aL aC aW aR aT aH aF ts kp fi 0 (by decide)) [0, 1] rfl rfl 0 rfl rfl rfl (Nat.le_of_ble_eq_true rfl) (by decide) (Nat.le_refl _) (Nat.le_refl _) (rfl : [aM, aF] = [aM, aF]) rfl ?_
    rw [← hQ]
    refine x_iret dX8_seek_25 rfl (Nat.le_of_ble_eq_true rfl) (Nat.le_of_ble_eq_true rfl) ?_
    exact ⟨rfl, rfl⟩
  · have c8 : ¬ ((wI m 1 200) = 0) := c8
    refine x_iload_n dX8_seek_11 rfl ?_
    refine x_iconst 0 dX8_seek_12 (by decide) ?_
    refine x_iconst 1 dX8_seek_13 (by decide) ?_
    refine x_cSi dX8_seek_14 ml_X8_89 mX8_within (ct_X8_within κ.2.1 g wh 0 1) rfl (Nat.le_of_ble_eq_true rfl) (by decide) (Nat.le_refl _) (Nat.le_refl _) ?_
    refine x_if_ne dX8_seek_17 (fun c17 => ?_) (fun c17 => ?_)
    · have c17 : ¬ ((wI wh 0 1) = 0) := c17
      exact absurd (hb.resolve_left c8) c17
    · have c17 : (wI wh 0 1) = 0 := c17
      refine x_aload_n dX8_seek_20 rfl ?_
      refine x_iconst 0 dX8_seek_21 (by decide) ?_
      refine x_cVi (ws' := [(aM, .inr (8, [.ref aS, .ref aK, .ref aL, .ref aC, .ref aW, .ref aR, .ref aT, .ref aH, .ref aF, .int (nI ts), .int kp])), (aF, .inl (g.2.1 0, 7, .inl (nIf (updN fi 0 (fi 0 + 1))))), (aS, .inr (6, [.ref aSk, .ref aSm, .ref aSp, .ref aSt, .ref aSc, .ref aSr, .ref aSe, .int (nI gr), .int (nI br), .int (nI cs), .int (nI wk), .int z]))]) dX8_seek_22 ml_X8_79 mX8_tell (ct_X8_tell κ.2.1 g aM aS aK aL aC aW aR aT aH aF ts kp fi 0 (by decide)) [0, 1] rfl rfl 0 rfl rfl rfl (Nat.le_of_ble_eq_true rfl) (by decide) (Nat.le_refl _) (Nat.le_refl _) (rfl : [aM, aF] = [aM, aF]) rfl ?_
      rw [← hQ]
      refine x_iret dX8_seek_25 rfl (Nat.le_of_ble_eq_true rfl) (Nat.le_of_ble_eq_true rfl) ?_
      exact ⟨rfl, rfl⟩

-- == seek_0 ==
set_option maxRecDepth 100000 in
set_option maxHeartbeats 4000000 in
theorem ct_seek_0 (l : Launch) (g : XG) (aM aK aW aWs aWt aR aT aH aF ts : Nat) (kp : Int32) (aC aS aL aV aO aCs aCl aCh aCw aCc aCb tot lat : Nat) (se sw : Int32) (aLb aLp aVs aSk aSm aSp aSt aSc aSr aSe gr br cs wk : Nat) (z : Int32) (sd li cr ki ma bp bt : Nat → Nat) (co ce sk : Nat → Int32) (V : Nat → Int32) (L : Nat) (tk : Nat → Nat) (m : Nat) (hgr : gr ≤ 12) (hbr : br ≤ 40) (hcs : cs ≤ 60) (hwk : wk ≤ 40) (hki : ∀ j, ki j ≤ 7) (hma : ∀ j, ma j ≤ 99999) (hbp : ∀ j, bp j < 495) (hlat : latI ce wk = nI L) (hL : L < 4096) (hV : cs ≠ 0 → ∀ p, p < 495 → evR (nmI wk L p) (cdF co 0 cs) [] = some [V p]) (hse : se = 0 ∨ (se = 1 ∧ sd = sdF cs V ∧ cr = crF gr ki ma bp bt br L (sdF cs V) ∧ tot = totF gr ki ma bp bt br L (sdF cs V) ∧ lat = L)) (hm : 1 ≤ m ∧ m ≤ 200) : Ct l g 10 0 0 yX8_seek cX8_seek 3 (some .int) [.ref aM, .int (nI m), .int 0] [(aM, .inr (8, [.ref aS, .ref aK, .ref aL, .ref aC, .ref aW, .ref aR, .ref aT, .ref aH, .ref aF, .int (nI ts), .int kp])), (aC, .inr (0, [.ref aS, .ref aL, .ref aV, .ref aO, .ref aCs, .ref aCl, .ref aCh, .ref aCw, .ref aCc, .ref aCb, .int (nI tot), .int (nI lat), .int se, .int sw])), (aCs, .inl (g.2.1 0, 495, .inl (nIf sd))), (aCl, .inl (g.2.1 0, 495, .inl (nIf li))), (aCc, .inl (g.2.1 0, 495, .inl (nIf cr))), (aL, .inr (5, [.ref aLb, .ref aLp])), (aLb, .inl (g.2.1 0, 495, .inl (nIf rowB))), (aLp, .inl (g.2.1 0, 495, .inl (nIf packB))), (aV, .inr (2, [.ref aS, .ref aVs])), (aVs, .inl (g.2.1 0, 60, .inl sk)), (aS, .inr (6, [.ref aSk, .ref aSm, .ref aSp, .ref aSt, .ref aSc, .ref aSr, .ref aSe, .int (nI gr), .int (nI br), .int (nI cs), .int (nI wk), .int z])), (aSk, .inl (g.2.1 0, 12, .inl (nIf ki))), (aSm, .inl (g.2.1 0, 12, .inl (nIf ma))), (aSp, .inl (g.2.1 0, 40, .inl (nIf bp))), (aSt, .inl (g.2.1 0, 40, .inl (nIf bt))), (aSc, .inl (g.2.1 0, 60, .inl co)), (aSe, .inl (g.2.1 0, 320, .inl ce)), (aW, .inr (7, [.ref aS, .ref aL, .ref aC, .ref aO, .ref aWs, .ref aWt])), (aWt, .inl (g.2.1 0, 495, .inl (nIf tk)))] (fun vv_ ww_ => ∃ (li2 : Nat → Nat) (sk2 : Nat → Int32) (tk2 : Nat → Nat), vv_ = some (.int (nI (if (0 : Int32) = 0 then skT (crF gr ki ma bp bt br L (sdF cs V)) m (lsT (skT (crF gr ki ma bp bt br L (sdF cs V)) m) 495) else dfN (crF gr ki ma bp bt br L (sdF cs V)) m))) ∧ ww_ = [(aM, .inr (8, [.ref aS, .ref aK, .ref aL, .ref aC, .ref aW, .ref aR, .ref aT, .ref aH, .ref aF, .int (nI ts), .int kp])), (aC, .inr (0, [.ref aS, .ref aL, .ref aV, .ref aO, .ref aCs, .ref aCl, .ref aCh, .ref aCw, .ref aCc, .ref aCb, .int (nI (totF gr ki ma bp bt br L (sdF cs V))), .int (nI L), .int 1, .int sw])), (aCs, .inl (g.2.1 0, 495, .inl (nIf (sdF cs V)))), (aCl, .inl (g.2.1 0, 495, .inl (nIf li2))), (aCc, .inl (g.2.1 0, 495, .inl (nIf (crF gr ki ma bp bt br L (sdF cs V))))), (aL, .inr (5, [.ref aLb, .ref aLp])), (aLb, .inl (g.2.1 0, 495, .inl (nIf rowB))), (aLp, .inl (g.2.1 0, 495, .inl (nIf packB))), (aV, .inr (2, [.ref aS, .ref aVs])), (aVs, .inl (g.2.1 0, 60, .inl sk2)), (aS, .inr (6, [.ref aSk, .ref aSm, .ref aSp, .ref aSt, .ref aSc, .ref aSr, .ref aSe, .int (nI gr), .int (nI br), .int (nI cs), .int (nI wk), .int z])), (aSk, .inl (g.2.1 0, 12, .inl (nIf ki))), (aSm, .inl (g.2.1 0, 12, .inl (nIf ma))), (aSp, .inl (g.2.1 0, 40, .inl (nIf bp))), (aSt, .inl (g.2.1 0, 40, .inl (nIf bt))), (aSc, .inl (g.2.1 0, 60, .inl co)), (aSe, .inl (g.2.1 0, 320, .inl ce)), (aW, .inr (7, [.ref aS, .ref aL, .ref aC, .ref aO, .ref aWs, .ref aWt])), (aWt, .inl (g.2.1 0, 495, .inl (nIf tk2)))]) := by
  refine Ct.ofX (lv := [some (.ref aM), some (.int (nI m)), some (.int 0)]) (by decide) rfl (Nat.le_of_ble_eq_true rfl) (fun κ => ?_)
  generalize hQ : xQ κ g 0 0 _ = Q
  refine x_iload_n dX8_seek_0 rfl ?_
  refine x_iconst 1 dX8_seek_1 (by decide) ?_
  refine x_sipush 200 dX8_seek_2 (by decide) ?_
  refine x_cSi dX8_seek_5 ml_X8_89 mX8_within (ct_within_n κ.2.1 g m 1 200 (⟨by omega, by omega, by omega, by omega⟩)) rfl (Nat.le_of_ble_eq_true rfl) (by decide) (Nat.le_refl _) (Nat.le_refl _) ?_
  refine x_if_eq dX8_seek_8 (fun c8 => ?_) (fun c8 => ?_)
  · exact absurd c8 (by decide)
  refine x_iload_n dX8_seek_11 rfl ?_
  refine x_iconst 0 dX8_seek_12 (by decide) ?_
  refine x_iconst 1 dX8_seek_13 (by decide) ?_
  refine x_cSi dX8_seek_14 ml_X8_89 mX8_within (ct_within_n κ.2.1 g 0 0 1 (⟨by omega, by omega, by omega, by omega⟩)) rfl (Nat.le_of_ble_eq_true rfl) (by decide) (Nat.le_refl _) (Nat.le_refl _) ?_
  refine x_if_ne dX8_seek_17 (fun c17 => ?_) (fun c17 => ?_)
  rotate_left
  · exact absurd c17 (by decide)
  refine x_aload_n dX8_seek_26 rfl ?_
  refine x_get dX8_seek_27 0 3 inX8 fl_X8_36 rfl rfl (by decide) rfl ?_
  refine x_callV dX8_seek_30 ml_X8_114 mX0_settle (ct_X0_settle κ.2.1 g aC aS aL aV aO aCs aCl aCh aCw aCc aCb tot lat se sw aLb aLp aVs aSk aSm aSp aSt aSc aSr aSe gr br cs wk z sd li cr ki ma bp bt co ce sk V L (hgr) (hbr) (hcs) (hwk) (hki) (hma) (hbp) (hlat) (hL) (hV) (hse)) [1, 2, 3, 4, 5, 6, 7, 8, 9, 10, 11, 12, 13, 14, 15, 16] rfl rfl 1 rfl rfl rfl (Nat.le_of_ble_eq_true rfl) (by decide) (Nat.le_refl _) (Nat.le_refl _) (fun vv ww hp => ?_)
  obtain ⟨z1, z2, rfl, rfl⟩ := hp
  refine ⟨(rfl : [aC, aCs, aCl, aCc, aL, aLb, aLp, aV, aVs, aS, aSk, aSm, aSp, aSt, aSc, aSe] = [aC, aCs, aCl, aCc, aL, aLb, aLp, aV, aVs, aS, aSk, aSm, aSp, aSt, aSc, aSe]), x_eq (lv' := [some (.ref aM), some (.int (nI m)), some (.int 0)]) (st' := []) (ws' := [(aM, .inr (8, [.ref aS, .ref aK, .ref aL, .ref aC, .ref aW, .ref aR, .ref aT, .ref aH, .ref aF, .int (nI ts), .int kp])), (aC, .inr (0, [.ref aS, .ref aL, .ref aV, .ref aO, .ref aCs, .ref aCl, .ref aCh, .ref aCw, .ref aCc, .ref aCb, .int (nI (totF gr ki ma bp bt br L (sdF cs V))), .int (nI L), .int 1, .int sw])), (aCs, .inl (g.2.1 0, 495, .inl (nIf (sdF cs V)))), (aCl, .inl (g.2.1 0, 495, .inl (nIf z1))), (aCc, .inl (g.2.1 0, 495, .inl (nIf (crF gr ki ma bp bt br L (sdF cs V))))), (aL, .inr (5, [.ref aLb, .ref aLp])), (aLb, .inl (g.2.1 0, 495, .inl (nIf rowB))), (aLp, .inl (g.2.1 0, 495, .inl (nIf packB))), (aV, .inr (2, [.ref aS, .ref aVs])), (aVs, .inl (g.2.1 0, 60, .inl z2)), (aS, .inr (6, [.ref aSk, .ref aSm, .ref aSp, .ref aSt, .ref aSc, .ref aSr, .ref aSe, .int (nI gr), .int (nI br), .int (nI cs), .int (nI wk), .int z])), (aSk, .inl (g.2.1 0, 12, .inl (nIf ki))), (aSm, .inl (g.2.1 0, 12, .inl (nIf ma))), (aSp, .inl (g.2.1 0, 40, .inl (nIf bp))), (aSt, .inl (g.2.1 0, 40, .inl (nIf bt))), (aSc, .inl (g.2.1 0, 60, .inl co)), (aSe, .inl (g.2.1 0, 320, .inl ce)), (aW, .inr (7, [.ref aS, .ref aL, .ref aC, .ref aO, .ref aWs, .ref aWt])), (aWt, .inl (g.2.1 0, 495, .inl (nIf tk)))]) ?_ rfl rfl rfl⟩
  refine x_aload_n dX8_seek_33 rfl ?_
  refine x_get dX8_seek_34 0 4 inX8 fl_X8_45 rfl rfl (by decide) rfl ?_
  refine x_iload_n dX8_seek_37 rfl ?_
  refine x_iload_n dX8_seek_38 rfl ?_
  refine x_iconst 1 dX8_seek_39 (by decide) ?_
  refine x_icmp_ne dX8_seek_40 (fun c40 => ?_) (fun c40 => ?_)
  rotate_left
  · exact absurd c40 (by decide)
  refine x_iconst 0 dX8_seek_47 (by decide) ?_
  refine x_cVi (ws' := [(aM, .inr (8, [.ref aS, .ref aK, .ref aL, .ref aC, .ref aW, .ref aR, .ref aT, .ref aH, .ref aF, .int (nI ts), .int kp])), (aC, .inr (0, [.ref aS, .ref aL, .ref aV, .ref aO, .ref aCs, .ref aCl, .ref aCh, .ref aCw, .ref aCc, .ref aCb, .int (nI (totF gr ki ma bp bt br L (sdF cs V))), .int (nI L), .int 1, .int sw])), (aCs, .inl (g.2.1 0, 495, .inl (nIf (sdF cs V)))), (aCl, .inl (g.2.1 0, 495, .inl (nIf z1))), (aCc, .inl (g.2.1 0, 495, .inl (nIf (crF gr ki ma bp bt br L (sdF cs V))))), (aL, .inr (5, [.ref aLb, .ref aLp])), (aLb, .inl (g.2.1 0, 495, .inl (nIf rowB))), (aLp, .inl (g.2.1 0, 495, .inl (nIf packB))), (aV, .inr (2, [.ref aS, .ref aVs])), (aVs, .inl (g.2.1 0, 60, .inl z2)), (aS, .inr (6, [.ref aSk, .ref aSm, .ref aSp, .ref aSt, .ref aSc, .ref aSr, .ref aSe, .int (nI gr), .int (nI br), .int (nI cs), .int (nI wk), .int z])), (aSk, .inl (g.2.1 0, 12, .inl (nIf ki))), (aSm, .inl (g.2.1 0, 12, .inl (nIf ma))), (aSp, .inl (g.2.1 0, 40, .inl (nIf bp))), (aSt, .inl (g.2.1 0, 40, .inl (nIf bt))), (aSc, .inl (g.2.1 0, 60, .inl co)), (aSe, .inl (g.2.1 0, 320, .inl ce)), (aW, .inr (7, [.ref aS, .ref aL, .ref aC, .ref aO, .ref aWs, .ref aWt])), (aWt, .inl (g.2.1 0, 495, .inl (nIf (skT (crF gr ki ma bp bt br L (sdF cs V)) m))))]) dX8_seek_48 ml_X8_219 mX7_afterSeekers (ct_X7_afterSeekers κ.2.1 g aW aS aL aC aO aWs aWt aV aCs aCl aCh aCw aCc aCb (totF gr ki ma bp bt br L (sdF cs V)) L 1 sw (crF gr ki ma bp bt br L (sdF cs V)) tk m 0 (hm.2)) [17, 1, 4, 18] rfl rfl 17 rfl rfl rfl (Nat.le_of_ble_eq_true rfl) (by decide) (Nat.le_refl _) (Nat.le_refl _) (rfl : [aW, aC, aCc, aWt] = [aW, aC, aCc, aWt]) rfl ?_
  rw [← hQ]
  refine x_iret dX8_seek_51 rfl (Nat.le_of_ble_eq_true rfl) (Nat.le_of_ble_eq_true rfl) ?_
  exact ⟨_, _, _, rfl, rfl⟩

-- == seek_1 ==
set_option maxRecDepth 100000 in
set_option maxHeartbeats 4000000 in
theorem ct_seek_1 (l : Launch) (g : XG) (aM aK aW aWs aWt aR aT aH aF ts : Nat) (kp : Int32) (aC aS aL aV aO aCs aCl aCh aCw aCc aCb tot lat : Nat) (se sw : Int32) (aLb aLp aVs aSk aSm aSp aSt aSc aSr aSe gr br cs wk : Nat) (z : Int32) (sd li cr ki ma bp bt : Nat → Nat) (co ce sk : Nat → Int32) (V : Nat → Int32) (L : Nat) (tk : Nat → Nat) (m : Nat) (hgr : gr ≤ 12) (hbr : br ≤ 40) (hcs : cs ≤ 60) (hwk : wk ≤ 40) (hki : ∀ j, ki j ≤ 7) (hma : ∀ j, ma j ≤ 99999) (hbp : ∀ j, bp j < 495) (hlat : latI ce wk = nI L) (hL : L < 4096) (hV : cs ≠ 0 → ∀ p, p < 495 → evR (nmI wk L p) (cdF co 0 cs) [] = some [V p]) (hse : se = 0 ∨ (se = 1 ∧ sd = sdF cs V ∧ cr = crF gr ki ma bp bt br L (sdF cs V) ∧ tot = totF gr ki ma bp bt br L (sdF cs V) ∧ lat = L)) (hm : 1 ≤ m ∧ m ≤ 200) : Ct l g 10 0 0 yX8_seek cX8_seek 3 (some .int) [.ref aM, .int (nI m), .int 1] [(aM, .inr (8, [.ref aS, .ref aK, .ref aL, .ref aC, .ref aW, .ref aR, .ref aT, .ref aH, .ref aF, .int (nI ts), .int kp])), (aC, .inr (0, [.ref aS, .ref aL, .ref aV, .ref aO, .ref aCs, .ref aCl, .ref aCh, .ref aCw, .ref aCc, .ref aCb, .int (nI tot), .int (nI lat), .int se, .int sw])), (aCs, .inl (g.2.1 0, 495, .inl (nIf sd))), (aCl, .inl (g.2.1 0, 495, .inl (nIf li))), (aCc, .inl (g.2.1 0, 495, .inl (nIf cr))), (aL, .inr (5, [.ref aLb, .ref aLp])), (aLb, .inl (g.2.1 0, 495, .inl (nIf rowB))), (aLp, .inl (g.2.1 0, 495, .inl (nIf packB))), (aV, .inr (2, [.ref aS, .ref aVs])), (aVs, .inl (g.2.1 0, 60, .inl sk)), (aS, .inr (6, [.ref aSk, .ref aSm, .ref aSp, .ref aSt, .ref aSc, .ref aSr, .ref aSe, .int (nI gr), .int (nI br), .int (nI cs), .int (nI wk), .int z])), (aSk, .inl (g.2.1 0, 12, .inl (nIf ki))), (aSm, .inl (g.2.1 0, 12, .inl (nIf ma))), (aSp, .inl (g.2.1 0, 40, .inl (nIf bp))), (aSt, .inl (g.2.1 0, 40, .inl (nIf bt))), (aSc, .inl (g.2.1 0, 60, .inl co)), (aSe, .inl (g.2.1 0, 320, .inl ce)), (aW, .inr (7, [.ref aS, .ref aL, .ref aC, .ref aO, .ref aWs, .ref aWt])), (aWt, .inl (g.2.1 0, 495, .inl (nIf tk)))] (fun vv_ ww_ => ∃ (li2 : Nat → Nat) (sk2 : Nat → Int32) (tk2 : Nat → Nat), vv_ = some (.int (nI (if (1 : Int32) = 0 then skT (crF gr ki ma bp bt br L (sdF cs V)) m (lsT (skT (crF gr ki ma bp bt br L (sdF cs V)) m) 495) else dfN (crF gr ki ma bp bt br L (sdF cs V)) m))) ∧ ww_ = [(aM, .inr (8, [.ref aS, .ref aK, .ref aL, .ref aC, .ref aW, .ref aR, .ref aT, .ref aH, .ref aF, .int (nI ts), .int kp])), (aC, .inr (0, [.ref aS, .ref aL, .ref aV, .ref aO, .ref aCs, .ref aCl, .ref aCh, .ref aCw, .ref aCc, .ref aCb, .int (nI (totF gr ki ma bp bt br L (sdF cs V))), .int (nI L), .int 1, .int sw])), (aCs, .inl (g.2.1 0, 495, .inl (nIf (sdF cs V)))), (aCl, .inl (g.2.1 0, 495, .inl (nIf li2))), (aCc, .inl (g.2.1 0, 495, .inl (nIf (crF gr ki ma bp bt br L (sdF cs V))))), (aL, .inr (5, [.ref aLb, .ref aLp])), (aLb, .inl (g.2.1 0, 495, .inl (nIf rowB))), (aLp, .inl (g.2.1 0, 495, .inl (nIf packB))), (aV, .inr (2, [.ref aS, .ref aVs])), (aVs, .inl (g.2.1 0, 60, .inl sk2)), (aS, .inr (6, [.ref aSk, .ref aSm, .ref aSp, .ref aSt, .ref aSc, .ref aSr, .ref aSe, .int (nI gr), .int (nI br), .int (nI cs), .int (nI wk), .int z])), (aSk, .inl (g.2.1 0, 12, .inl (nIf ki))), (aSm, .inl (g.2.1 0, 12, .inl (nIf ma))), (aSp, .inl (g.2.1 0, 40, .inl (nIf bp))), (aSt, .inl (g.2.1 0, 40, .inl (nIf bt))), (aSc, .inl (g.2.1 0, 60, .inl co)), (aSe, .inl (g.2.1 0, 320, .inl ce)), (aW, .inr (7, [.ref aS, .ref aL, .ref aC, .ref aO, .ref aWs, .ref aWt])), (aWt, .inl (g.2.1 0, 495, .inl (nIf tk2)))]) := by
  refine Ct.ofX (lv := [some (.ref aM), some (.int (nI m)), some (.int 1)]) (by decide) rfl (Nat.le_of_ble_eq_true rfl) (fun κ => ?_)
  generalize hQ : xQ κ g 0 0 _ = Q
  refine x_iload_n dX8_seek_0 rfl ?_
  refine x_iconst 1 dX8_seek_1 (by decide) ?_
  refine x_sipush 200 dX8_seek_2 (by decide) ?_
  refine x_cSi dX8_seek_5 ml_X8_89 mX8_within (ct_within_n κ.2.1 g m 1 200 (⟨by omega, by omega, by omega, by omega⟩)) rfl (Nat.le_of_ble_eq_true rfl) (by decide) (Nat.le_refl _) (Nat.le_refl _) ?_
  refine x_if_eq dX8_seek_8 (fun c8 => ?_) (fun c8 => ?_)
  · exact absurd c8 (by decide)
  refine x_iload_n dX8_seek_11 rfl ?_
  refine x_iconst 0 dX8_seek_12 (by decide) ?_
  refine x_iconst 1 dX8_seek_13 (by decide) ?_
  refine x_cSi dX8_seek_14 ml_X8_89 mX8_within (ct_within_n κ.2.1 g 1 0 1 (⟨by omega, by omega, by omega, by omega⟩)) rfl (Nat.le_of_ble_eq_true rfl) (by decide) (Nat.le_refl _) (Nat.le_refl _) ?_
  refine x_if_ne dX8_seek_17 (fun c17 => ?_) (fun c17 => ?_)
  rotate_left
  · exact absurd c17 (by decide)
  refine x_aload_n dX8_seek_26 rfl ?_
  refine x_get dX8_seek_27 0 3 inX8 fl_X8_36 rfl rfl (by decide) rfl ?_
  refine x_callV dX8_seek_30 ml_X8_114 mX0_settle (ct_X0_settle κ.2.1 g aC aS aL aV aO aCs aCl aCh aCw aCc aCb tot lat se sw aLb aLp aVs aSk aSm aSp aSt aSc aSr aSe gr br cs wk z sd li cr ki ma bp bt co ce sk V L (hgr) (hbr) (hcs) (hwk) (hki) (hma) (hbp) (hlat) (hL) (hV) (hse)) [1, 2, 3, 4, 5, 6, 7, 8, 9, 10, 11, 12, 13, 14, 15, 16] rfl rfl 1 rfl rfl rfl (Nat.le_of_ble_eq_true rfl) (by decide) (Nat.le_refl _) (Nat.le_refl _) (fun vv ww hp => ?_)
  obtain ⟨z1, z2, rfl, rfl⟩ := hp
  refine ⟨(rfl : [aC, aCs, aCl, aCc, aL, aLb, aLp, aV, aVs, aS, aSk, aSm, aSp, aSt, aSc, aSe] = [aC, aCs, aCl, aCc, aL, aLb, aLp, aV, aVs, aS, aSk, aSm, aSp, aSt, aSc, aSe]), x_eq (lv' := [some (.ref aM), some (.int (nI m)), some (.int 1)]) (st' := []) (ws' := [(aM, .inr (8, [.ref aS, .ref aK, .ref aL, .ref aC, .ref aW, .ref aR, .ref aT, .ref aH, .ref aF, .int (nI ts), .int kp])), (aC, .inr (0, [.ref aS, .ref aL, .ref aV, .ref aO, .ref aCs, .ref aCl, .ref aCh, .ref aCw, .ref aCc, .ref aCb, .int (nI (totF gr ki ma bp bt br L (sdF cs V))), .int (nI L), .int 1, .int sw])), (aCs, .inl (g.2.1 0, 495, .inl (nIf (sdF cs V)))), (aCl, .inl (g.2.1 0, 495, .inl (nIf z1))), (aCc, .inl (g.2.1 0, 495, .inl (nIf (crF gr ki ma bp bt br L (sdF cs V))))), (aL, .inr (5, [.ref aLb, .ref aLp])), (aLb, .inl (g.2.1 0, 495, .inl (nIf rowB))), (aLp, .inl (g.2.1 0, 495, .inl (nIf packB))), (aV, .inr (2, [.ref aS, .ref aVs])), (aVs, .inl (g.2.1 0, 60, .inl z2)), (aS, .inr (6, [.ref aSk, .ref aSm, .ref aSp, .ref aSt, .ref aSc, .ref aSr, .ref aSe, .int (nI gr), .int (nI br), .int (nI cs), .int (nI wk), .int z])), (aSk, .inl (g.2.1 0, 12, .inl (nIf ki))), (aSm, .inl (g.2.1 0, 12, .inl (nIf ma))), (aSp, .inl (g.2.1 0, 40, .inl (nIf bp))), (aSt, .inl (g.2.1 0, 40, .inl (nIf bt))), (aSc, .inl (g.2.1 0, 60, .inl co)), (aSe, .inl (g.2.1 0, 320, .inl ce)), (aW, .inr (7, [.ref aS, .ref aL, .ref aC, .ref aO, .ref aWs, .ref aWt])), (aWt, .inl (g.2.1 0, 495, .inl (nIf tk)))]) ?_ rfl rfl rfl⟩
  refine x_aload_n dX8_seek_33 rfl ?_
  refine x_get dX8_seek_34 0 4 inX8 fl_X8_45 rfl rfl (by decide) rfl ?_
  refine x_iload_n dX8_seek_37 rfl ?_
  refine x_iload_n dX8_seek_38 rfl ?_
  refine x_iconst 1 dX8_seek_39 (by decide) ?_
  refine x_icmp_ne dX8_seek_40 (fun c40 => ?_) (fun c40 => ?_)
  · exact absurd c40 (by decide)
  refine x_iconst 1 dX8_seek_43 (by decide) ?_
  refine x_goto dX8_seek_44 ?_
  refine x_cVi (ws' := [(aM, .inr (8, [.ref aS, .ref aK, .ref aL, .ref aC, .ref aW, .ref aR, .ref aT, .ref aH, .ref aF, .int (nI ts), .int kp])), (aC, .inr (0, [.ref aS, .ref aL, .ref aV, .ref aO, .ref aCs, .ref aCl, .ref aCh, .ref aCw, .ref aCc, .ref aCb, .int (nI (totF gr ki ma bp bt br L (sdF cs V))), .int (nI L), .int 1, .int sw])), (aCs, .inl (g.2.1 0, 495, .inl (nIf (sdF cs V)))), (aCl, .inl (g.2.1 0, 495, .inl (nIf z1))), (aCc, .inl (g.2.1 0, 495, .inl (nIf (crF gr ki ma bp bt br L (sdF cs V))))), (aL, .inr (5, [.ref aLb, .ref aLp])), (aLb, .inl (g.2.1 0, 495, .inl (nIf rowB))), (aLp, .inl (g.2.1 0, 495, .inl (nIf packB))), (aV, .inr (2, [.ref aS, .ref aVs])), (aVs, .inl (g.2.1 0, 60, .inl z2)), (aS, .inr (6, [.ref aSk, .ref aSm, .ref aSp, .ref aSt, .ref aSc, .ref aSr, .ref aSe, .int (nI gr), .int (nI br), .int (nI cs), .int (nI wk), .int z])), (aSk, .inl (g.2.1 0, 12, .inl (nIf ki))), (aSm, .inl (g.2.1 0, 12, .inl (nIf ma))), (aSp, .inl (g.2.1 0, 40, .inl (nIf bp))), (aSt, .inl (g.2.1 0, 40, .inl (nIf bt))), (aSc, .inl (g.2.1 0, 60, .inl co)), (aSe, .inl (g.2.1 0, 320, .inl ce)), (aW, .inr (7, [.ref aS, .ref aL, .ref aC, .ref aO, .ref aWs, .ref aWt])), (aWt, .inl (g.2.1 0, 495, .inl (nIf (skT (crF gr ki ma bp bt br L (sdF cs V)) m))))]) dX8_seek_48 ml_X8_219 mX7_afterSeekers (ct_X7_afterSeekers κ.2.1 g aW aS aL aC aO aWs aWt aV aCs aCl aCh aCw aCc aCb (totF gr ki ma bp bt br L (sdF cs V)) L 1 sw (crF gr ki ma bp bt br L (sdF cs V)) tk m 1 (hm.2)) [17, 1, 4, 18] rfl rfl 17 rfl rfl rfl (Nat.le_of_ble_eq_true rfl) (by decide) (Nat.le_refl _) (Nat.le_refl _) (rfl : [aW, aC, aCc, aWt] = [aW, aC, aCc, aWt]) rfl ?_
  rw [← hQ]
  refine x_iret dX8_seek_51 rfl (Nat.le_of_ble_eq_true rfl) (Nat.le_of_ble_eq_true rfl) ?_
  exact ⟨_, _, _, rfl, rfl⟩

-- == due_b ==
theorem dX8_due_0 : xd cX8_due 0 (.iload_n 1) 1 1 := ⟨by decide +kernel, rfl⟩
theorem dX8_due_1 : xd cX8_due 1 (.invokestatic 223) 3 4 := ⟨by decide +kernel, rfl⟩
theorem dX8_due_4 : xj cX8_due 4 (.ifCond .ne) 7 13 := ⟨9, by decide +kernel, rfl, by decide⟩
theorem dX8_due_7 : xd cX8_due 7 (.aload_n 0) 1 8 := ⟨by decide +kernel, rfl⟩
theorem dX8_due_8 : xd cX8_due 8 (.iconst 0) 1 9 := ⟨by decide +kernel, rfl⟩
theorem dX8_due_9 : xd cX8_due 9 (.invokevirtual 79) 3 12 := ⟨by decide +kernel, rfl⟩
theorem dX8_due_12 : xd cX8_due 12 .ireturn 1 13 := ⟨by decide +kernel, rfl⟩
theorem dX8_due_13 : xd cX8_due 13 (.iconst 0) 1 14 := ⟨by decide +kernel, rfl⟩
theorem dX8_due_14 : xd cX8_due 14 (.istore_n 2) 1 15 := ⟨by decide +kernel, rfl⟩
theorem dX8_due_15 : xd cX8_due 15 (.iload_n 2) 1 16 := ⟨by decide +kernel, rfl⟩
theorem dX8_due_16 : xd cX8_due 16 (.aload_n 0) 1 17 := ⟨by decide +kernel, rfl⟩
theorem dX8_due_17 : xd cX8_due 17 (.getfield 10) 3 20 := ⟨by decide +kernel, rfl⟩
theorem dX8_due_20 : xd cX8_due 20 (.getfield 189) 3 23 := ⟨by decide +kernel, rfl⟩
theorem dX8_due_23 : xj cX8_due 23 (.if_icmp .ge) 26 56 := ⟨33, by decide +kernel, rfl, by decide⟩
theorem dX8_due_26 : xd cX8_due 26 (.aload_n 0) 1 27 := ⟨by decide +kernel, rfl⟩
theorem dX8_due_27 : xd cX8_due 27 (.getfield 10) 3 30 := ⟨by decide +kernel, rfl⟩
theorem dX8_due_30 : xd cX8_due 30 (.aload_n 0) 1 31 := ⟨by decide +kernel, rfl⟩
theorem dX8_due_31 : xd cX8_due 31 (.getfield 10) 3 34 := ⟨by decide +kernel, rfl⟩
theorem dX8_due_34 : xd cX8_due 34 (.getfield 189) 3 37 := ⟨by decide +kernel, rfl⟩
theorem dX8_due_37 : xd cX8_due 37 (.iconst 1) 1 38 := ⟨by decide +kernel, rfl⟩
theorem dX8_due_38 : xd cX8_due 38 .isub 1 39 := ⟨by decide +kernel, rfl⟩
theorem dX8_due_39 : xd cX8_due 39 (.iload_n 2) 1 40 := ⟨by decide +kernel, rfl⟩
theorem dX8_due_40 : xd cX8_due 40 .isub 1 41 := ⟨by decide +kernel, rfl⟩
theorem dX8_due_41 : xd cX8_due 41 (.iload_n 1) 1 42 := ⟨by decide +kernel, rfl⟩
theorem dX8_due_42 : xd cX8_due 42 (.invokevirtual 226) 3 45 := ⟨by decide +kernel, rfl⟩
theorem dX8_due_45 : xj cX8_due 45 (.ifCond .eq) 48 50 := ⟨5, by decide +kernel, rfl, by decide⟩
theorem dX8_due_48 : xd cX8_due 48 (.iload_n 2) 1 49 := ⟨by decide +kernel, rfl⟩
theorem dX8_due_49 : xd cX8_due 49 .ireturn 1 50 := ⟨by decide +kernel, rfl⟩
theorem dX8_due_50 : xd cX8_due 50 (.iinc 2 1) 3 53 := ⟨by decide +kernel, rfl⟩
theorem dX8_due_53 : xj cX8_due 53 .goto 56 15 := ⟨(-38), by decide +kernel, rfl, by decide⟩
theorem dX8_due_56 : xd cX8_due 56 (.aload_n 0) 1 57 := ⟨by decide +kernel, rfl⟩
theorem dX8_due_57 : xd cX8_due 57 (.getfield 10) 3 60 := ⟨by decide +kernel, rfl⟩
theorem dX8_due_60 : xd cX8_due 60 (.getfield 189) 3 63 := ⟨by decide +kernel, rfl⟩
theorem dX8_due_63 : xd cX8_due 63 .ireturn 1 64 := ⟨by decide +kernel, rfl⟩

set_option maxRecDepth 100000 in
set_option maxHeartbeats 4000000 in
theorem ct_due_b (l : Launch) (g : XG) (aM aS aK aL aC aW aR aT aH aF : Nat) (ts : Nat) (kp : Int32) (aSk aSm aSp aSt aSc aSr aSe gr br cs wk : Nat) (z : Int32) (fi : Nat → Nat) (nb : Int32) (hb : wI nb 0 11 = 0) : Ct l g 10 0 0 yX8_due cX8_due 3 (some .int) [.ref aM, .int nb] [(aM, .inr (8, [.ref aS, .ref aK, .ref aL, .ref aC, .ref aW, .ref aR, .ref aT, .ref aH, .ref aF, .int (nI ts), .int kp])), (aF, .inl (g.2.1 0, 7, .inl (nIf fi))), (aS, .inr (6, [.ref aSk, .ref aSm, .ref aSp, .ref aSt, .ref aSc, .ref aSr, .ref aSe, .int (nI gr), .int (nI br), .int (nI cs), .int (nI wk), .int z]))] (xpi (fndI 0) [(aM, .inr (8, [.ref aS, .ref aK, .ref aL, .ref aC, .ref aW, .ref aR, .ref aT, .ref aH, .ref aF, .int (nI ts), .int kp])), (aF, .inl (g.2.1 0, 7, .inl (nIf (updN fi 0 (fi 0 + 1))))), (aS, .inr (6, [.ref aSk, .ref aSm, .ref aSp, .ref aSt, .ref aSc, .ref aSr, .ref aSe, .int (nI gr), .int (nI br), .int (nI cs), .int (nI wk), .int z]))]) := by
  refine Ct.ofX (lv := [some (.ref aM), some (.int nb), none]) (by decide) rfl (Nat.le_of_ble_eq_true rfl) (fun κ => ?_)
  generalize hQ : xQ κ g 0 0 _ = Q
  refine x_iload_n dX8_due_0 rfl ?_
  refine x_cSi dX8_due_1 ml_X8_223 mX8_isNumber (ct_X8_isNumber κ.2.1 g nb) rfl (Nat.le_of_ble_eq_true rfl) (by decide) (Nat.le_refl _) (Nat.le_refl _) ?_
  refine x_if_ne dX8_due_4 (fun c4 => ?_) (fun c4 => ?_)
  · have c4 : ¬ ((wI nb 0 11) = 0) := c4
    exact absurd hb c4
  · have c4 : (wI nb 0 11) = 0 := c4
    refine x_aload_n dX8_due_7 rfl ?_
    refine x_iconst 0 dX8_due_8 (by decide) ?_
    refine x_cVi (ws' := [(aM, .inr (8, [.ref aS, .ref aK, .ref aL, .ref aC, .ref aW, .ref aR, .ref aT, .ref aH, .ref aF, .int (nI ts), .int kp])), (aF, .inl (g.2.1 0, 7, .inl (nIf (updN fi 0 (fi 0 + 1))))), (aS, .inr (6, [.ref aSk, .ref aSm, .ref aSp, .ref aSt, .ref aSc, .ref aSr, .ref aSe, .int (nI gr), .int (nI br), .int (nI cs), .int (nI wk), .int z]))]) dX8_due_9 ml_X8_79 mX8_tell (ct_X8_tell κ.2.1 g aM aS aK aL aC aW aR aT aH aF ts kp fi 0 (by decide)) [0, 1] rfl rfl 0 rfl rfl rfl (Nat.le_of_ble_eq_true rfl) (by decide) (Nat.le_refl _) (Nat.le_refl _) (rfl : [aM, aF] = [aM, aF]) rfl ?_
    rw [← hQ]
    refine x_iret dX8_due_12 rfl (Nat.le_of_ble_eq_true rfl) (Nat.le_of_ble_eq_true rfl) ?_
    exact ⟨rfl, rfl⟩

-- == due_o ==
set_option maxRecDepth 100000 in
set_option maxHeartbeats 4000000 in
theorem ct_due_o (l : Launch) (g : XG) (aM aS aK aL aC aW aR aT aH aF : Nat) (ts : Nat) (kp : Int32) (aSk aSm aSp aSt aSc aSr aSe gr br cs wk : Nat) (z : Int32) (fi : Nat → Nat) (ce : Nat → Int32) (n : Nat) (dr : Nat → Nat) (hwk : wk ≤ 40) (hn : n < 12) (hdr : ∀ w, w < wk → ce (w * 8 + 0) = nI (dr w)) : Ct l g 10 0 0 yX8_due cX8_due 3 (some .int) [.ref aM, .int (nI n)] [(aM, .inr (8, [.ref aS, .ref aK, .ref aL, .ref aC, .ref aW, .ref aR, .ref aT, .ref aH, .ref aF, .int (nI ts), .int kp])), (aF, .inl (g.2.1 0, 7, .inl (nIf fi))), (aS, .inr (6, [.ref aSk, .ref aSm, .ref aSp, .ref aSt, .ref aSc, .ref aSr, .ref aSe, .int (nI gr), .int (nI br), .int (nI cs), .int (nI wk), .int z])), (aSe, .inl (g.2.1 0, 320, .inl ce))] (xpi (nI (dueN dr n wk)) [(aM, .inr (8, [.ref aS, .ref aK, .ref aL, .ref aC, .ref aW, .ref aR, .ref aT, .ref aH, .ref aF, .int (nI ts), .int kp])), (aF, .inl (g.2.1 0, 7, .inl (nIf fi))), (aS, .inr (6, [.ref aSk, .ref aSm, .ref aSp, .ref aSt, .ref aSc, .ref aSr, .ref aSe, .int (nI gr), .int (nI br), .int (nI cs), .int (nI wk), .int z])), (aSe, .inl (g.2.1 0, 320, .inl ce))]) := by
  refine Ct.ofX (lv := [some (.ref aM), some (.int (nI n)), none]) (by decide) rfl (Nat.le_of_ble_eq_true rfl) (fun κ => ?_)
  generalize hQ : xQ κ g 0 0 _ = Q
  refine x_iload_n dX8_due_0 rfl ?_
  refine x_cSi dX8_due_1 ml_X8_223 mX8_isNumber (ct_isNumber_n κ.2.1 g n (hn)) rfl (Nat.le_of_ble_eq_true rfl) (by decide) (Nat.le_refl _) (Nat.le_refl _) ?_
  refine x_if_ne dX8_due_4 (fun c4 => ?_) (fun c4 => ?_)
  rotate_left
  · exact absurd c4 (by decide)
  refine x_iconst 0 dX8_due_13 (by decide) ?_
  refine x_istore_n (lv' := [some (.ref aM), some (.int (nI n)), some (.int 0)]) dX8_due_14 (xlt rfl) rfl ?_
  have L15_1 : ∀ (i : Nat), i ≤ wk → (∀ k, k < i → (fun s => bitN (dr (wk - 1 - s)) n == 1) k = false) → Xs κ g 10 0 0 cX8_due yX8_due (some .int) Q 0 0 15 [some (.ref aM), some (.int (nI n)), some (.int (nI i))] [] [(aM, .inr (8, [.ref aS, .ref aK, .ref aL, .ref aC, .ref aW, .ref aR, .ref aT, .ref aH, .ref aF, .int (nI ts), .int kp])), (aF, .inl (g.2.1 0, 7, .inl (nIf fi))), (aS, .inr (6, [.ref aSk, .ref aSm, .ref aSp, .ref aSt, .ref aSc, .ref aSr, .ref aSe, .int (nI gr), .int (nI br), .int (nI cs), .int (nI wk), .int z])), (aSe, .inl (g.2.1 0, 320, .inl ce))] := by
    refine upTo wk (fun i hi15 ih15 => ?_)
    intro hno
    have hbn := bitN_lt (dr (wk - 1 - i)) n
    refine x_iload_n dX8_due_15 rfl ?_
    refine x_aload_n dX8_due_16 rfl ?_
    refine x_get dX8_due_17 0 0 inX8 fl_X8_10 rfl rfl (by decide) rfl ?_
    refine x_get dX8_due_20 2 10 inX6 fl_X8_189 rfl rfl (by decide) rfl ?_
    refine x_icmp_ge dX8_due_23 (fun c23 => ?_) (fun c23 => ?_)
    · have c23 : (nI wk) ≤ (nI i) := c23
      have c23n := (nI_leI (a := wk) (b := i) (by omega) (by omega)).mp c23
      have hxc23 : i = wk := by omega
      try rw [hxc23]
      try rw [hxc23] at hno
      refine x_aload_n dX8_due_56 rfl ?_
      refine x_get dX8_due_57 0 0 inX8 fl_X8_10 rfl rfl (by decide) rfl ?_
      refine x_get dX8_due_60 2 10 inX6 fl_X8_189 rfl rfl (by decide) rfl ?_
      rw [← hQ]
      refine x_iret dX8_due_63 rfl (Nat.le_of_ble_eq_true rfl) (Nat.le_of_ble_eq_true rfl) ?_
      exact ⟨by rw [dueN, fstNone (p := (fun s => bitN (dr (wk - 1 - s)) n == 1)) hno], rfl⟩
    · have c23 : ¬ ((nI wk) ≤ (nI i)) := c23
      have c23n := mt (nI_leI (a := wk) (b := i) (by omega) (by omega)).mpr c23
      refine x_aload_n dX8_due_26 rfl ?_
      refine x_get dX8_due_27 0 0 inX8 fl_X8_10 rfl rfl (by decide) rfl ?_
      refine x_aload_n dX8_due_30 rfl ?_
      refine x_get dX8_due_31 0 0 inX8 fl_X8_10 rfl rfl (by decide) rfl ?_
      refine x_get dX8_due_34 2 10 inX6 fl_X8_189 rfl rfl (by decide) rfl ?_
      refine x_iconst 1 dX8_due_37 (by decide) ?_
      refine x_isub dX8_due_38 ?_
      refine x_rei (nI (wk - 1)) (nI_isub wk 1 (by omega)) ?_
      refine x_iload_n dX8_due_39 rfl ?_
      refine x_isub dX8_due_40 ?_
      refine x_rei (nI ((wk - 1) - i)) (nI_isub (wk - 1) i (by omega)) ?_
      refine x_iload_n dX8_due_41 rfl ?_
      refine x_cVi0 dX8_due_42 ml_X8_226 mX6_cameIn (ct_X6_cameIn κ.2.1 g aS aSk aSm aSp aSt aSc aSr aSe gr br cs wk z ce ((wk - 1) - i) n (dr (wk - 1 - i)) (by omega) (hn) (hdr _ (by omega))) [2, 3] rfl rfl 2 rfl rfl rfl (Nat.le_of_ble_eq_true rfl) (by decide) (Nat.le_refl _) (Nat.le_refl _) ?_
      refine x_if_eq dX8_due_45 (fun c45 => ?_) (fun c45 => ?_)
      · have c45 : (nI (bitN (dr (wk - 1 - i)) n)) = 0 := c45
        have c45n := (nI_eq (a := (bitN (dr (wk - 1 - i)) n)) (b := 0) (by omega) (by omega)).mp c45
        refine x_iinc (lv' := [some (.ref aM), some (.int (nI n)), some (.int (nI (i + 1)))]) (nI (i + 1)) dX8_due_50 rfl (nI_addc i 1 rfl) rfl ?_
        refine x_goto dX8_due_53 ?_
        exact ih15 (by omega)  (allS hno (by simpa using (by omega : ¬ bitN (dr (wk - 1 - i)) n = 1)))
      · have c45 : ¬ ((nI (bitN (dr (wk - 1 - i)) n)) = 0) := c45
        have c45n := mt (nI_eq (a := (bitN (dr (wk - 1 - i)) n)) (b := 0) (by omega) (by omega)).mpr c45
        refine x_iload_n dX8_due_48 rfl ?_
        rw [← hQ]
        refine x_iret dX8_due_49 rfl (Nat.le_of_ble_eq_true rfl) (Nat.le_of_ble_eq_true rfl) ?_
        exact ⟨by rw [dueN, fstEq (p := (fun s => bitN (dr (wk - 1 - s)) n == 1)) (by omega) hno (by simpa using (by omega : bitN (dr (wk - 1 - i)) n = 1))], rfl⟩
  exact L15_1 0 (Nat.zero_le _)  (fun k hk => by omega)

-- == came_b ==
theorem dX8_came_0 : xd cX8_came 0 (.iload_n 1) 1 1 := ⟨by decide +kernel, rfl⟩
theorem dX8_came_1 : xd cX8_came 1 (.invokestatic 223) 3 4 := ⟨by decide +kernel, rfl⟩
theorem dX8_came_4 : xj cX8_came 4 (.ifCond .eq) 7 18 := ⟨14, by decide +kernel, rfl, by decide⟩
theorem dX8_came_7 : xd cX8_came 7 (.aload_n 0) 1 8 := ⟨by decide +kernel, rfl⟩
theorem dX8_came_8 : xd cX8_came 8 (.getfield 10) 3 11 := ⟨by decide +kernel, rfl⟩
theorem dX8_came_11 : xd cX8_came 11 (.iload_n 1) 1 12 := ⟨by decide +kernel, rfl⟩
theorem dX8_came_12 : xd cX8_came 12 (.invokevirtual 229) 3 15 := ⟨by decide +kernel, rfl⟩
theorem dX8_came_15 : xj cX8_came 15 .goto 18 23 := ⟨8, by decide +kernel, rfl, by decide⟩
theorem dX8_came_18 : xd cX8_came 18 (.aload_n 0) 1 19 := ⟨by decide +kernel, rfl⟩
theorem dX8_came_19 : xd cX8_came 19 (.iconst 0) 1 20 := ⟨by decide +kernel, rfl⟩
theorem dX8_came_20 : xd cX8_came 20 (.invokevirtual 79) 3 23 := ⟨by decide +kernel, rfl⟩
theorem dX8_came_23 : xd cX8_came 23 .ireturn 1 24 := ⟨by decide +kernel, rfl⟩

set_option maxRecDepth 100000 in
set_option maxHeartbeats 4000000 in
theorem ct_came_b (l : Launch) (g : XG) (aM aS aK aL aC aW aR aT aH aF : Nat) (ts : Nat) (kp : Int32) (aSk aSm aSp aSt aSc aSr aSe gr br cs wk : Nat) (z : Int32) (fi : Nat → Nat) (nb : Int32) (hb : wI nb 0 11 = 0) : Ct l g 10 0 0 yX8_came cX8_came 2 (some .int) [.ref aM, .int nb] [(aM, .inr (8, [.ref aS, .ref aK, .ref aL, .ref aC, .ref aW, .ref aR, .ref aT, .ref aH, .ref aF, .int (nI ts), .int kp])), (aF, .inl (g.2.1 0, 7, .inl (nIf fi))), (aS, .inr (6, [.ref aSk, .ref aSm, .ref aSp, .ref aSt, .ref aSc, .ref aSr, .ref aSe, .int (nI gr), .int (nI br), .int (nI cs), .int (nI wk), .int z]))] (xpi (fndI 0) [(aM, .inr (8, [.ref aS, .ref aK, .ref aL, .ref aC, .ref aW, .ref aR, .ref aT, .ref aH, .ref aF, .int (nI ts), .int kp])), (aF, .inl (g.2.1 0, 7, .inl (nIf (updN fi 0 (fi 0 + 1))))), (aS, .inr (6, [.ref aSk, .ref aSm, .ref aSp, .ref aSt, .ref aSc, .ref aSr, .ref aSe, .int (nI gr), .int (nI br), .int (nI cs), .int (nI wk), .int z]))]) := by
  refine Ct.ofX (lv := [some (.ref aM), some (.int nb)]) (by decide) rfl (Nat.le_of_ble_eq_true rfl) (fun κ => ?_)
  generalize hQ : xQ κ g 0 0 _ = Q
  refine x_iload_n dX8_came_0 rfl ?_
  refine x_cSi dX8_came_1 ml_X8_223 mX8_isNumber (ct_X8_isNumber κ.2.1 g nb) rfl (Nat.le_of_ble_eq_true rfl) (by decide) (Nat.le_refl _) (Nat.le_refl _) ?_
  refine x_if_eq dX8_came_4 (fun c4 => ?_) (fun c4 => ?_)
  · have c4 : (wI nb 0 11) = 0 := c4
    refine x_aload_n dX8_came_18 rfl ?_
    refine x_iconst 0 dX8_came_19 (by decide) ?_
    refine x_cVi (ws' := [(aM, .inr (8, [.ref aS, .ref aK, .ref aL, .ref aC, .ref aW, .ref aR, .ref aT, .ref aH, .ref aF, .int (nI ts), .int kp])), (aF, .inl (g.2.1 0, 7, .inl (nIf (updN fi 0 (fi 0 + 1))))), (aS, .inr (6, [.ref aSk, .ref aSm, .ref aSp, .ref aSt, .ref aSc, .ref aSr, .ref aSe, .int (nI gr), .int (nI br), .int (nI cs), .int (nI wk), .int z]))]) dX8_came_20 ml_X8_79 mX8_tell (ct_X8_tell κ.2.1 g aM aS aK aL aC aW aR aT aH aF ts kp fi 0 (by decide)) [0, 1] rfl rfl 0 rfl rfl rfl (Nat.le_of_ble_eq_true rfl) (by decide) (Nat.le_refl _) (Nat.le_refl _) (rfl : [aM, aF] = [aM, aF]) rfl ?_
    rw [← hQ]
    refine x_iret dX8_came_23 rfl (Nat.le_of_ble_eq_true rfl) (Nat.le_of_ble_eq_true rfl) ?_
    exact ⟨rfl, rfl⟩
  · have c4 : ¬ ((wI nb 0 11) = 0) := c4
    exact absurd hb c4

-- == came_o ==
set_option maxRecDepth 100000 in
set_option maxHeartbeats 4000000 in
theorem ct_came_o (l : Launch) (g : XG) (aM aS aK aL aC aW aR aT aH aF : Nat) (ts : Nat) (kp : Int32) (aSk aSm aSp aSt aSc aSr aSe gr br cs wk : Nat) (z : Int32) (fi : Nat → Nat) (ce : Nat → Int32) (n : Nat) (dr : Nat → Nat) (hwk : wk ≤ 40) (hn : n < 12) (hdr : ∀ w, w < wk → ce (w * 8 + 0) = nI (dr w)) : Ct l g 10 0 0 yX8_came cX8_came 2 (some .int) [.ref aM, .int (nI n)] [(aM, .inr (8, [.ref aS, .ref aK, .ref aL, .ref aC, .ref aW, .ref aR, .ref aT, .ref aH, .ref aF, .int (nI ts), .int kp])), (aF, .inl (g.2.1 0, 7, .inl (nIf fi))), (aS, .inr (6, [.ref aSk, .ref aSm, .ref aSp, .ref aSt, .ref aSc, .ref aSr, .ref aSe, .int (nI gr), .int (nI br), .int (nI cs), .int (nI wk), .int z])), (aSe, .inl (g.2.1 0, 320, .inl ce))] (xpi (nI (sumN (fun w => bitN (dr w) n) wk)) [(aM, .inr (8, [.ref aS, .ref aK, .ref aL, .ref aC, .ref aW, .ref aR, .ref aT, .ref aH, .ref aF, .int (nI ts), .int kp])), (aF, .inl (g.2.1 0, 7, .inl (nIf fi))), (aS, .inr (6, [.ref aSk, .ref aSm, .ref aSp, .ref aSt, .ref aSc, .ref aSr, .ref aSe, .int (nI gr), .int (nI br), .int (nI cs), .int (nI wk), .int z])), (aSe, .inl (g.2.1 0, 320, .inl ce))]) := by
  refine Ct.ofX (lv := [some (.ref aM), some (.int (nI n))]) (by decide) rfl (Nat.le_of_ble_eq_true rfl) (fun κ => ?_)
  generalize hQ : xQ κ g 0 0 _ = Q
  refine x_iload_n dX8_came_0 rfl ?_
  refine x_cSi dX8_came_1 ml_X8_223 mX8_isNumber (ct_isNumber_n κ.2.1 g n (hn)) rfl (Nat.le_of_ble_eq_true rfl) (by decide) (Nat.le_refl _) (Nat.le_refl _) ?_
  refine x_if_eq dX8_came_4 (fun c4 => ?_) (fun c4 => ?_)
  · exact absurd c4 (by decide)
  refine x_aload_n dX8_came_7 rfl ?_
  refine x_get dX8_came_8 0 0 inX8 fl_X8_10 rfl rfl (by decide) rfl ?_
  refine x_iload_n dX8_came_11 rfl ?_
  refine x_cVi0 dX8_came_12 ml_X8_229 mX6_timesOf (ct_X6_timesOf κ.2.1 g aS aSk aSm aSp aSt aSc aSr aSe gr br cs wk z ce n dr (hwk) (hn) (hdr)) [2, 3] rfl rfl 2 rfl rfl rfl (Nat.le_of_ble_eq_true rfl) (by decide) (Nat.le_refl _) (Nat.le_refl _) ?_
  refine x_goto dX8_came_15 ?_
  rw [← hQ]
  refine x_iret dX8_came_23 rfl (Nat.le_of_ble_eq_true rfl) (Nat.le_of_ble_eq_true rfl) ?_
  exact ⟨rfl, rfl⟩

-- == drum_o ==
theorem dX8_drum_0 : xd cX8_drum 0 (.lconst 0) 1 1 := ⟨by decide +kernel, rfl⟩
theorem dX8_drum_1 : xd cX8_drum 1 (.lstore_n 1) 1 2 := ⟨by decide +kernel, rfl⟩
theorem dX8_drum_2 : xd cX8_drum 2 (.iconst 0) 1 3 := ⟨by decide +kernel, rfl⟩
theorem dX8_drum_3 : xd cX8_drum 3 (.istore_n 3) 1 4 := ⟨by decide +kernel, rfl⟩
theorem dX8_drum_4 : xd cX8_drum 4 (.iload_n 3) 1 5 := ⟨by decide +kernel, rfl⟩
theorem dX8_drum_5 : xd cX8_drum 5 (.bipush 12) 2 7 := ⟨by decide +kernel, rfl⟩
theorem dX8_drum_7 : xj cX8_drum 7 (.if_icmp .ge) 10 52 := ⟨45, by decide +kernel, rfl, by decide⟩
theorem dX8_drum_10 : xd cX8_drum 10 (.aload_n 0) 1 11 := ⟨by decide +kernel, rfl⟩
theorem dX8_drum_11 : xd cX8_drum 11 (.getfield 10) 3 14 := ⟨by decide +kernel, rfl⟩
theorem dX8_drum_14 : xd cX8_drum 14 (.iload_n 3) 1 15 := ⟨by decide +kernel, rfl⟩
theorem dX8_drum_15 : xd cX8_drum 15 (.invokevirtual 229) 3 18 := ⟨by decide +kernel, rfl⟩
theorem dX8_drum_18 : xd cX8_drum 18 .i2l 1 19 := ⟨by decide +kernel, rfl⟩
theorem dX8_drum_19 : xd cX8_drum 19 (.ldc2_w 232) 3 22 := ⟨by decide +kernel, rfl⟩
theorem dX8_drum_22 : xd cX8_drum 22 .lmul 1 23 := ⟨by decide +kernel, rfl⟩
theorem dX8_drum_23 : xd cX8_drum 23 (.aload_n 0) 1 24 := ⟨by decide +kernel, rfl⟩
theorem dX8_drum_24 : xd cX8_drum 24 (.getfield 10) 3 27 := ⟨by decide +kernel, rfl⟩
theorem dX8_drum_27 : xd cX8_drum 27 (.getfield 189) 3 30 := ⟨by decide +kernel, rfl⟩
theorem dX8_drum_30 : xd cX8_drum 30 .i2l 1 31 := ⟨by decide +kernel, rfl⟩
theorem dX8_drum_31 : xd cX8_drum 31 (.ldc2_w 234) 3 34 := ⟨by decide +kernel, rfl⟩
theorem dX8_drum_34 : xd cX8_drum 34 .lmul 1 35 := ⟨by decide +kernel, rfl⟩
theorem dX8_drum_35 : xd cX8_drum 35 .lsub 1 36 := ⟨by decide +kernel, rfl⟩
theorem dX8_drum_36 : xd cX8_drum 36 (.lstore 4) 2 38 := ⟨by decide +kernel, rfl⟩
theorem dX8_drum_38 : xd cX8_drum 38 (.lload_n 1) 1 39 := ⟨by decide +kernel, rfl⟩
theorem dX8_drum_39 : xd cX8_drum 39 (.lload 4) 2 41 := ⟨by decide +kernel, rfl⟩
theorem dX8_drum_41 : xd cX8_drum 41 (.lload 4) 2 43 := ⟨by decide +kernel, rfl⟩
theorem dX8_drum_43 : xd cX8_drum 43 .lmul 1 44 := ⟨by decide +kernel, rfl⟩
theorem dX8_drum_44 : xd cX8_drum 44 .ladd 1 45 := ⟨by decide +kernel, rfl⟩
theorem dX8_drum_45 : xd cX8_drum 45 (.lstore_n 1) 1 46 := ⟨by decide +kernel, rfl⟩
theorem dX8_drum_46 : xd cX8_drum 46 (.iinc 3 1) 3 49 := ⟨by decide +kernel, rfl⟩
theorem dX8_drum_49 : xj cX8_drum 49 .goto 52 4 := ⟨(-45), by decide +kernel, rfl, by decide⟩
theorem dX8_drum_52 : xd cX8_drum 52 (.lload_n 1) 1 53 := ⟨by decide +kernel, rfl⟩
theorem dX8_drum_53 : xd cX8_drum 53 .lreturn 1 54 := ⟨by decide +kernel, rfl⟩

set_option maxRecDepth 100000 in
set_option maxHeartbeats 4000000 in
theorem ct_drum_o (l : Launch) (g : XG) (aM aS aK aL aC aW aR aT aH aF : Nat) (ts : Nat) (kp : Int32) (aSk aSm aSp aSt aSc aSr aSe gr br cs wk : Nat) (z : Int32) (ce : Nat → Int32) (dr : Nat → Nat) (hwk : wk ≤ 40) (hdr : ∀ w, w < wk → ce (w * 8 + 0) = nI (dr w)) : Ct l g 10 0 0 yX8_drum cX8_drum 6 (some .long) [.ref aM] [(aM, .inr (8, [.ref aS, .ref aK, .ref aL, .ref aC, .ref aW, .ref aR, .ref aT, .ref aH, .ref aF, .int (nI ts), .int kp])), (aS, .inr (6, [.ref aSk, .ref aSm, .ref aSp, .ref aSt, .ref aSc, .ref aSr, .ref aSe, .int (nI gr), .int (nI br), .int (nI cs), .int (nI wk), .int z])), (aSe, .inl (g.2.1 0, 320, .inl ce))] (xpl (drmL dr wk 12) [(aM, .inr (8, [.ref aS, .ref aK, .ref aL, .ref aC, .ref aW, .ref aR, .ref aT, .ref aH, .ref aF, .int (nI ts), .int kp])), (aS, .inr (6, [.ref aSk, .ref aSm, .ref aSp, .ref aSt, .ref aSc, .ref aSr, .ref aSe, .int (nI gr), .int (nI br), .int (nI cs), .int (nI wk), .int z])), (aSe, .inl (g.2.1 0, 320, .inl ce))]) := by
  refine Ct.ofX (lv := [some (.ref aM), none, none, none, none, none]) (by decide) rfl (Nat.le_of_ble_eq_true rfl) (fun κ => ?_)
  generalize hQ : xQ κ g 0 0 _ = Q
  refine x_lconst 0 dX8_drum_0 (by decide) ?_
  refine x_lstore_n (lv' := [some (.ref aM), some (.long 0), none, none, none, none]) dX8_drum_1 (xlt rfl) rfl ?_
  refine x_iconst 0 dX8_drum_2 (by decide) ?_
  refine x_istore_n (lv' := [some (.ref aM), some (.long 0), none, some (.int 0), none, none]) dX8_drum_3 (xlt rfl) rfl ?_
  have L4_1 : ∀ (n : Nat), n ≤ 12 → ∀ (al : Int64), al = drmL dr wk n → Xs κ g 10 0 0 cX8_drum yX8_drum (some .long) Q 0 0 4 [some (.ref aM), some (.long al), none, some (.int (nI n)), none, none] [] [(aM, .inr (8, [.ref aS, .ref aK, .ref aL, .ref aC, .ref aW, .ref aR, .ref aT, .ref aH, .ref aF, .int (nI ts), .int kp])), (aS, .inr (6, [.ref aSk, .ref aSm, .ref aSp, .ref aSt, .ref aSc, .ref aSr, .ref aSe, .int (nI gr), .int (nI br), .int (nI cs), .int (nI wk), .int z])), (aSe, .inl (g.2.1 0, 320, .inl ce))] := by
    refine upTo 12 (fun n hi4 ih4 => ?_)
    intro al eal
    subst eal
    refine x_iload_n dX8_drum_4 rfl ?_
    refine x_bipush 12 dX8_drum_5 (by decide) ?_
    refine x_icmp_ge dX8_drum_7 (fun c7 => ?_) (fun c7 => ?_)
    · have c7 : 12 ≤ (nI n) := c7
      have c7n := (nI_leI (a := 12) (b := n) (by omega) (by omega)).mp c7
      have hxc7 : n = 12 := by omega
      try rw [hxc7]
      refine x_lload_n dX8_drum_52 rfl ?_
      rw [← hQ]
      refine x_lret dX8_drum_53 rfl (Nat.le_of_ble_eq_true rfl) (Nat.le_of_ble_eq_true rfl) ?_
      exact ⟨rfl, rfl⟩
    · have c7 : ¬ (12 ≤ (nI n)) := c7
      have c7n := mt (nI_leI (a := 12) (b := n) (by omega) (by omega)).mpr c7
      refine x_aload_n dX8_drum_10 rfl ?_
      refine x_get dX8_drum_11 0 0 inX8 fl_X8_10 rfl rfl (by decide) rfl ?_
      refine x_iload_n dX8_drum_14 rfl ?_
      refine x_cVi0 dX8_drum_15 ml_X8_229 mX6_timesOf (ct_X6_timesOf κ.2.1 g aS aSk aSm aSp aSt aSc aSr aSe gr br cs wk z ce n dr (hwk) (by omega) (hdr)) [1, 2] rfl rfl 1 rfl rfl rfl (Nat.le_of_ble_eq_true rfl) (by decide) (Nat.le_refl _) (Nat.le_refl _) ?_
      refine x_i2l dX8_drum_18 ?_
      refine x_ldc2 dX8_drum_19 kl_X8_232 ?_
      refine x_lmul dX8_drum_22 ?_
      refine x_aload_n dX8_drum_23 rfl ?_
      refine x_get dX8_drum_24 0 0 inX8 fl_X8_10 rfl rfl (by decide) rfl ?_
      refine x_get dX8_drum_27 1 10 inX6 fl_X8_189 rfl rfl (by decide) rfl ?_
      refine x_i2l dX8_drum_30 ?_
      refine x_ldc2 dX8_drum_31 kl_X8_234 ?_
      refine x_lmul dX8_drum_34 ?_
      refine x_lsub dX8_drum_35 ?_
      refine x_lstore (lv' := [some (.ref aM), some (.long (drmL dr wk n)), none, some (.int (nI n)), some (.long ((((nI (sumN (fun w => bitN (dr w) n) wk)).toInt64) * 12) - (((nI wk).toInt64) * 4))), none]) dX8_drum_36 (xlt rfl) rfl ?_
      refine x_lload_n dX8_drum_38 rfl ?_
      refine x_lload dX8_drum_39 rfl ?_
      refine x_lload dX8_drum_41 rfl ?_
      refine x_lmul dX8_drum_43 ?_
      refine x_ladd dX8_drum_44 ?_
      refine x_lstore_n (lv' := [some (.ref aM), some (.long ((drmL dr wk n) + (((((nI (sumN (fun w => bitN (dr w) n) wk)).toInt64) * 12) - (((nI wk).toInt64) * 4)) * ((((nI (sumN (fun w => bitN (dr w) n) wk)).toInt64) * 12) - (((nI wk).toInt64) * 4))))), none, some (.int (nI n)), some (.long ((((nI (sumN (fun w => bitN (dr w) n) wk)).toInt64) * 12) - (((nI wk).toInt64) * 4))), none]) dX8_drum_45 (xlt rfl) rfl ?_
      refine x_iinc (lv' := [some (.ref aM), some (.long ((drmL dr wk n) + (((((nI (sumN (fun w => bitN (dr w) n) wk)).toInt64) * 12) - (((nI wk).toInt64) * 4)) * ((((nI (sumN (fun w => bitN (dr w) n) wk)).toInt64) * 12) - (((nI wk).toInt64) * 4))))), none, some (.int (nI (n + 1))), some (.long ((((nI (sumN (fun w => bitN (dr w) n) wk)).toInt64) * 12) - (((nI wk).toInt64) * 4))), none]) (nI (n + 1)) dX8_drum_46 rfl (nI_addc n 1 rfl) rfl ?_
      refine x_goto dX8_drum_49 ?_
      refine x_fgt (lv' := [some (.ref aM), some (.long ((drmL dr wk n) + (((((nI (sumN (fun w => bitN (dr w) n) wk)).toInt64) * 12) - (((nI wk).toInt64) * 4)) * ((((nI (sumN (fun w => bitN (dr w) n) wk)).toInt64) * 12) - (((nI wk).toInt64) * 4))))), none, some (.int (nI (n + 1))), none, none]) ⟨Or.inr rfl, Or.inr rfl, Or.inl rfl, Or.inr rfl, Or.inl rfl, Or.inl rfl, trivial⟩ ?_
      exact ih4 (by omega) _ (by rfl)
  exact L4_1 0 (Nat.zero_le _) _ (by rfl)

-- == felt_b ==
theorem dX8_felt_0 : xd cX8_felt 0 (.iload_n 1) 1 1 := ⟨by decide +kernel, rfl⟩
theorem dX8_felt_1 : xd cX8_felt 1 (.invokestatic 223) 3 4 := ⟨by decide +kernel, rfl⟩
theorem dX8_felt_4 : xj cX8_felt 4 (.ifCond .ne) 7 13 := ⟨9, by decide +kernel, rfl, by decide⟩
theorem dX8_felt_7 : xd cX8_felt 7 (.aload_n 0) 1 8 := ⟨by decide +kernel, rfl⟩
theorem dX8_felt_8 : xd cX8_felt 8 (.iconst 0) 1 9 := ⟨by decide +kernel, rfl⟩
theorem dX8_felt_9 : xd cX8_felt 9 (.invokevirtual 79) 3 12 := ⟨by decide +kernel, rfl⟩
theorem dX8_felt_12 : xd cX8_felt 12 .ireturn 1 13 := ⟨by decide +kernel, rfl⟩
theorem dX8_felt_13 : xd cX8_felt 13 (.aload_n 0) 1 14 := ⟨by decide +kernel, rfl⟩
theorem dX8_felt_14 : xd cX8_felt 14 (.getfield 10) 3 17 := ⟨by decide +kernel, rfl⟩
theorem dX8_felt_17 : xd cX8_felt 17 (.iload_n 1) 1 18 := ⟨by decide +kernel, rfl⟩
theorem dX8_felt_18 : xd cX8_felt 18 (.invokevirtual 229) 3 21 := ⟨by decide +kernel, rfl⟩
theorem dX8_felt_21 : xd cX8_felt 21 (.istore_n 2) 1 22 := ⟨by decide +kernel, rfl⟩
theorem dX8_felt_22 : xd cX8_felt 22 (.aload_n 0) 1 23 := ⟨by decide +kernel, rfl⟩
theorem dX8_felt_23 : xd cX8_felt 23 (.getfield 10) 3 26 := ⟨by decide +kernel, rfl⟩
theorem dX8_felt_26 : xd cX8_felt 26 (.getfield 189) 3 29 := ⟨by decide +kernel, rfl⟩
theorem dX8_felt_29 : xd cX8_felt 29 (.iload_n 2) 1 30 := ⟨by decide +kernel, rfl⟩
theorem dX8_felt_30 : xd cX8_felt 30 .isub 1 31 := ⟨by decide +kernel, rfl⟩
theorem dX8_felt_31 : xd cX8_felt 31 (.istore_n 3) 1 32 := ⟨by decide +kernel, rfl⟩
theorem dX8_felt_32 : xd cX8_felt 32 (.iload_n 2) 1 33 := ⟨by decide +kernel, rfl⟩
theorem dX8_felt_33 : xj cX8_felt 33 (.ifCond .le) 36 40 := ⟨7, by decide +kernel, rfl, by decide⟩
theorem dX8_felt_36 : xd cX8_felt 36 (.iload_n 3) 1 37 := ⟨by decide +kernel, rfl⟩
theorem dX8_felt_37 : xj cX8_felt 37 (.ifCond .gt) 40 46 := ⟨9, by decide +kernel, rfl, by decide⟩
theorem dX8_felt_40 : xd cX8_felt 40 (.aload_n 0) 1 41 := ⟨by decide +kernel, rfl⟩
theorem dX8_felt_41 : xd cX8_felt 41 (.iconst 3) 1 42 := ⟨by decide +kernel, rfl⟩
theorem dX8_felt_42 : xd cX8_felt 42 (.invokevirtual 79) 3 45 := ⟨by decide +kernel, rfl⟩
theorem dX8_felt_45 : xd cX8_felt 45 .ireturn 1 46 := ⟨by decide +kernel, rfl⟩
theorem dX8_felt_46 : xd cX8_felt 46 (.aload_n 0) 1 47 := ⟨by decide +kernel, rfl⟩
theorem dX8_felt_47 : xd cX8_felt 47 (.getfield 10) 3 50 := ⟨by decide +kernel, rfl⟩
theorem dX8_felt_50 : xd cX8_felt 50 (.iload_n 1) 1 51 := ⟨by decide +kernel, rfl⟩
theorem dX8_felt_51 : xd cX8_felt 51 (.iconst 1) 1 52 := ⟨by decide +kernel, rfl⟩
theorem dX8_felt_52 : xd cX8_felt 52 (.invokevirtual 236) 3 55 := ⟨by decide +kernel, rfl⟩
theorem dX8_felt_55 : xd cX8_felt 55 (.iload_n 2) 1 56 := ⟨by decide +kernel, rfl⟩
theorem dX8_felt_56 : xd cX8_felt 56 .idiv 1 57 := ⟨by decide +kernel, rfl⟩
theorem dX8_felt_57 : xd cX8_felt 57 (.aload_n 0) 1 58 := ⟨by decide +kernel, rfl⟩
theorem dX8_felt_58 : xd cX8_felt 58 (.getfield 10) 3 61 := ⟨by decide +kernel, rfl⟩
theorem dX8_felt_61 : xd cX8_felt 61 (.iload_n 1) 1 62 := ⟨by decide +kernel, rfl⟩
theorem dX8_felt_62 : xd cX8_felt 62 (.iconst 0) 1 63 := ⟨by decide +kernel, rfl⟩
theorem dX8_felt_63 : xd cX8_felt 63 (.invokevirtual 236) 3 66 := ⟨by decide +kernel, rfl⟩
theorem dX8_felt_66 : xd cX8_felt 66 (.iload_n 3) 1 67 := ⟨by decide +kernel, rfl⟩
theorem dX8_felt_67 : xd cX8_felt 67 .idiv 1 68 := ⟨by decide +kernel, rfl⟩
theorem dX8_felt_68 : xd cX8_felt 68 .isub 1 69 := ⟨by decide +kernel, rfl⟩
theorem dX8_felt_69 : xd cX8_felt 69 .ireturn 1 70 := ⟨by decide +kernel, rfl⟩

set_option maxRecDepth 100000 in
set_option maxHeartbeats 4000000 in
theorem ct_felt_b (l : Launch) (g : XG) (aM aS aK aL aC aW aR aT aH aF : Nat) (ts : Nat) (kp : Int32) (aSk aSm aSp aSt aSc aSr aSe gr br cs wk : Nat) (z : Int32) (fi : Nat → Nat) (nb : Int32) (hb : wI nb 0 11 = 0) : Ct l g 10 0 0 yX8_felt cX8_felt 4 (some .int) [.ref aM, .int nb] [(aM, .inr (8, [.ref aS, .ref aK, .ref aL, .ref aC, .ref aW, .ref aR, .ref aT, .ref aH, .ref aF, .int (nI ts), .int kp])), (aF, .inl (g.2.1 0, 7, .inl (nIf fi))), (aS, .inr (6, [.ref aSk, .ref aSm, .ref aSp, .ref aSt, .ref aSc, .ref aSr, .ref aSe, .int (nI gr), .int (nI br), .int (nI cs), .int (nI wk), .int z]))] (xpi (fndI 0) [(aM, .inr (8, [.ref aS, .ref aK, .ref aL, .ref aC, .ref aW, .ref aR, .ref aT, .ref aH, .ref aF, .int (nI ts), .int kp])), (aF, .inl (g.2.1 0, 7, .inl (nIf (updN fi 0 (fi 0 + 1))))), (aS, .inr (6, [.ref aSk, .ref aSm, .ref aSp, .ref aSt, .ref aSc, .ref aSr, .ref aSe, .int (nI gr), .int (nI br), .int (nI cs), .int (nI wk), .int z]))]) := by
  refine Ct.ofX (lv := [some (.ref aM), some (.int nb), none, none]) (by decide) rfl (Nat.le_of_ble_eq_true rfl) (fun κ => ?_)
  generalize hQ : xQ κ g 0 0 _ = Q
  refine x_iload_n dX8_felt_0 rfl ?_
  refine x_cSi dX8_felt_1 ml_X8_223 mX8_isNumber (ct_X8_isNumber κ.2.1 g nb) rfl (Nat.le_of_ble_eq_true rfl) (by decide) (Nat.le_refl _) (Nat.le_refl _) ?_
  refine x_if_ne dX8_felt_4 (fun c4 => ?_) (fun c4 => ?_)
  · have c4 : ¬ ((wI nb 0 11) = 0) := c4
    exact absurd hb c4
  · have c4 : (wI nb 0 11) = 0 := c4
    refine x_aload_n dX8_felt_7 rfl ?_
    refine x_iconst 0 dX8_felt_8 (by decide) ?_
    refine x_cVi (ws' := [(aM, .inr (8, [.ref aS, .ref aK, .ref aL, .ref aC, .ref aW, .ref aR, .ref aT, .ref aH, .ref aF, .int (nI ts), .int kp])), (aF, .inl (g.2.1 0, 7, .inl (nIf (updN fi 0 (fi 0 + 1))))), (aS, .inr (6, [.ref aSk, .ref aSm, .ref aSp, .ref aSt, .ref aSc, .ref aSr, .ref aSe, .int (nI gr), .int (nI br), .int (nI cs), .int (nI wk), .int z]))]) dX8_felt_9 ml_X8_79 mX8_tell (ct_X8_tell κ.2.1 g aM aS aK aL aC aW aR aT aH aF ts kp fi 0 (by decide)) [0, 1] rfl rfl 0 rfl rfl rfl (Nat.le_of_ble_eq_true rfl) (by decide) (Nat.le_refl _) (Nat.le_refl _) (rfl : [aM, aF] = [aM, aF]) rfl ?_
    rw [← hQ]
    refine x_iret dX8_felt_12 rfl (Nat.le_of_ble_eq_true rfl) (Nat.le_of_ble_eq_true rfl) ?_
    exact ⟨rfl, rfl⟩

-- == felt_n ==
set_option maxRecDepth 100000 in
set_option maxHeartbeats 4000000 in
theorem ct_felt_n (l : Launch) (g : XG) (aM aS aK aL aC aW aR aT aH aF : Nat) (ts : Nat) (kp : Int32) (aSk aSm aSp aSt aSc aSr aSe gr br cs wk : Nat) (z : Int32) (fi : Nat → Nat) (ce : Nat → Int32) (n : Nat) (dr : Nat → Nat) (hwk : wk ≤ 40) (hn : n < 12) (hdr : ∀ w, w < wk → ce (w * 8 + 0) = nI (dr w)) (hs : sumN (fun w => bitN (dr w) n) wk = 0 ∨ sumN (fun w => bitN (dr w) n) wk = wk) : Ct l g 10 0 0 yX8_felt cX8_felt 4 (some .int) [.ref aM, .int (nI n)] [(aM, .inr (8, [.ref aS, .ref aK, .ref aL, .ref aC, .ref aW, .ref aR, .ref aT, .ref aH, .ref aF, .int (nI ts), .int kp])), (aF, .inl (g.2.1 0, 7, .inl (nIf fi))), (aS, .inr (6, [.ref aSk, .ref aSm, .ref aSp, .ref aSt, .ref aSc, .ref aSr, .ref aSe, .int (nI gr), .int (nI br), .int (nI cs), .int (nI wk), .int z])), (aSe, .inl (g.2.1 0, 320, .inl ce))] (xpi (fndI 3) [(aM, .inr (8, [.ref aS, .ref aK, .ref aL, .ref aC, .ref aW, .ref aR, .ref aT, .ref aH, .ref aF, .int (nI ts), .int kp])), (aF, .inl (g.2.1 0, 7, .inl (nIf (updN fi 3 (fi 3 + 1))))), (aS, .inr (6, [.ref aSk, .ref aSm, .ref aSp, .ref aSt, .ref aSc, .ref aSr, .ref aSe, .int (nI gr), .int (nI br), .int (nI cs), .int (nI wk), .int z])), (aSe, .inl (g.2.1 0, 320, .inl ce))]) := by
  refine Ct.ofX (lv := [some (.ref aM), some (.int (nI n)), none, none]) (by decide) rfl (Nat.le_of_ble_eq_true rfl) (fun κ => ?_)
  generalize hQ : xQ κ g 0 0 _ = Q
  have htl := sumB_le dr n wk
  refine x_iload_n dX8_felt_0 rfl ?_
  refine x_cSi dX8_felt_1 ml_X8_223 mX8_isNumber (ct_isNumber_n κ.2.1 g n (hn)) rfl (Nat.le_of_ble_eq_true rfl) (by decide) (Nat.le_refl _) (Nat.le_refl _) ?_
  refine x_if_ne dX8_felt_4 (fun c4 => ?_) (fun c4 => ?_)
  rotate_left
  · exact absurd c4 (by decide)
  refine x_aload_n dX8_felt_13 rfl ?_
  refine x_get dX8_felt_14 0 0 inX8 fl_X8_10 rfl rfl (by decide) rfl ?_
  refine x_iload_n dX8_felt_17 rfl ?_
  refine x_cVi0 dX8_felt_18 ml_X8_229 mX6_timesOf (ct_X6_timesOf κ.2.1 g aS aSk aSm aSp aSt aSc aSr aSe gr br cs wk z ce n dr (hwk) (hn) (hdr)) [2, 3] rfl rfl 2 rfl rfl rfl (Nat.le_of_ble_eq_true rfl) (by decide) (Nat.le_refl _) (Nat.le_refl _) ?_
  refine x_istore_n (lv' := [some (.ref aM), some (.int (nI n)), some (.int (nI (sumN (fun w => bitN (dr w) n) wk))), none]) dX8_felt_21 (xlt rfl) rfl ?_
  refine x_aload_n dX8_felt_22 rfl ?_
  refine x_get dX8_felt_23 0 0 inX8 fl_X8_10 rfl rfl (by decide) rfl ?_
  refine x_get dX8_felt_26 2 10 inX6 fl_X8_189 rfl rfl (by decide) rfl ?_
  refine x_iload_n dX8_felt_29 rfl ?_
  refine x_isub dX8_felt_30 ?_
  refine x_rei (nI (wk - (sumN (fun w => bitN (dr w) n) wk))) (nI_isub wk (sumN (fun w => bitN (dr w) n) wk) (by omega)) ?_
  refine x_istore_n (lv' := [some (.ref aM), some (.int (nI n)), some (.int (nI (sumN (fun w => bitN (dr w) n) wk))), some (.int (nI (wk - (sumN (fun w => bitN (dr w) n) wk))))]) dX8_felt_31 (xlt rfl) rfl ?_
  refine x_iload_n dX8_felt_32 rfl ?_
  refine x_if_le dX8_felt_33 (fun c33 => ?_) (fun c33 => ?_)
  · have c33 : (nI (sumN (fun w => bitN (dr w) n) wk)) ≤ 0 := c33
    have c33n := (nI_leI (a := (sumN (fun w => bitN (dr w) n) wk)) (b := 0) (by omega) (by omega)).mp c33
    refine x_aload_n dX8_felt_40 rfl ?_
    refine x_iconst 3 dX8_felt_41 (by decide) ?_
    refine x_cVi (ws' := [(aM, .inr (8, [.ref aS, .ref aK, .ref aL, .ref aC, .ref aW, .ref aR, .ref aT, .ref aH, .ref aF, .int (nI ts), .int kp])), (aF, .inl (g.2.1 0, 7, .inl (nIf (updN fi 3 (fi 3 + 1))))), (aS, .inr (6, [.ref aSk, .ref aSm, .ref aSp, .ref aSt, .ref aSc, .ref aSr, .ref aSe, .int (nI gr), .int (nI br), .int (nI cs), .int (nI wk), .int z])), (aSe, .inl (g.2.1 0, 320, .inl ce))]) dX8_felt_42 ml_X8_79 mX8_tell (ct_X8_tell κ.2.1 g aM aS aK aL aC aW aR aT aH aF ts kp fi 3 (by decide)) [0, 1] rfl rfl 0 rfl rfl rfl (Nat.le_of_ble_eq_true rfl) (by decide) (Nat.le_refl _) (Nat.le_refl _) (rfl : [aM, aF] = [aM, aF]) rfl ?_
    rw [← hQ]
    refine x_iret dX8_felt_45 rfl (Nat.le_of_ble_eq_true rfl) (Nat.le_of_ble_eq_true rfl) ?_
    exact ⟨rfl, rfl⟩
  · have c33 : ¬ ((nI (sumN (fun w => bitN (dr w) n) wk)) ≤ 0) := c33
    have c33n := mt (nI_leI (a := (sumN (fun w => bitN (dr w) n) wk)) (b := 0) (by omega) (by omega)).mpr c33
    refine x_iload_n dX8_felt_36 rfl ?_
    refine x_if_gt dX8_felt_37 (fun c37 => ?_) (fun c37 => ?_)
    · have c37 : 0 < (nI (wk - (sumN (fun w => bitN (dr w) n) wk))) := c37
      have c37n := (nI_ltI (a := 0) (b := (wk - (sumN (fun w => bitN (dr w) n) wk))) (by omega) (by omega)).mp c37
      exact absurd hs (by omega)
    · have c37 : ¬ (0 < (nI (wk - (sumN (fun w => bitN (dr w) n) wk)))) := c37
      have c37n := mt (nI_ltI (a := 0) (b := (wk - (sumN (fun w => bitN (dr w) n) wk))) (by omega) (by omega)).mpr c37
      refine x_aload_n dX8_felt_40 rfl ?_
      refine x_iconst 3 dX8_felt_41 (by decide) ?_
      refine x_cVi (ws' := [(aM, .inr (8, [.ref aS, .ref aK, .ref aL, .ref aC, .ref aW, .ref aR, .ref aT, .ref aH, .ref aF, .int (nI ts), .int kp])), (aF, .inl (g.2.1 0, 7, .inl (nIf (updN fi 3 (fi 3 + 1))))), (aS, .inr (6, [.ref aSk, .ref aSm, .ref aSp, .ref aSt, .ref aSc, .ref aSr, .ref aSe, .int (nI gr), .int (nI br), .int (nI cs), .int (nI wk), .int z])), (aSe, .inl (g.2.1 0, 320, .inl ce))]) dX8_felt_42 ml_X8_79 mX8_tell (ct_X8_tell κ.2.1 g aM aS aK aL aC aW aR aT aH aF ts kp fi 3 (by decide)) [0, 1] rfl rfl 0 rfl rfl rfl (Nat.le_of_ble_eq_true rfl) (by decide) (Nat.le_refl _) (Nat.le_refl _) (rfl : [aM, aF] = [aM, aF]) rfl ?_
      rw [← hQ]
      refine x_iret dX8_felt_45 rfl (Nat.le_of_ble_eq_true rfl) (Nat.le_of_ble_eq_true rfl) ?_
      exact ⟨rfl, rfl⟩

-- == felt_o ==
set_option maxRecDepth 100000 in
set_option maxHeartbeats 4000000 in
theorem ct_felt_o (l : Launch) (g : XG) (aM aS aK aL aC aW aR aT aH aF : Nat) (ts : Nat) (kp : Int32) (aSk aSm aSp aSt aSc aSr aSe gr br cs wk : Nat) (z : Int32) (fi : Nat → Nat) (ce : Nat → Int32) (n : Nat) (dr : Nat → Nat) (hwk : wk ≤ 40) (hn : n < 12) (hdr : ∀ w, w < wk → ce (w * 8 + 0) = nI (dr w)) (hs : ¬ sumN (fun w => bitN (dr w) n) wk = 0 ∧ ¬ sumN (fun w => bitN (dr w) n) wk = wk) : Ct l g 10 0 0 yX8_felt cX8_felt 4 (some .int) [.ref aM, .int (nI n)] [(aM, .inr (8, [.ref aS, .ref aK, .ref aL, .ref aC, .ref aW, .ref aR, .ref aT, .ref aH, .ref aF, .int (nI ts), .int kp])), (aF, .inl (g.2.1 0, 7, .inl (nIf fi))), (aS, .inr (6, [.ref aSk, .ref aSm, .ref aSp, .ref aSt, .ref aSc, .ref aSr, .ref aSe, .int (nI gr), .int (nI br), .int (nI cs), .int (nI wk), .int z])), (aSe, .inl (g.2.1 0, 320, .inl ce))] (xpi (rtwI ce dr n wk 1 / nI (sumN (fun w => bitN (dr w) n) wk) - rtwI ce dr n wk 0 / nI (wk - sumN (fun w => bitN (dr w) n) wk)) [(aM, .inr (8, [.ref aS, .ref aK, .ref aL, .ref aC, .ref aW, .ref aR, .ref aT, .ref aH, .ref aF, .int (nI ts), .int kp])), (aF, .inl (g.2.1 0, 7, .inl (nIf fi))), (aS, .inr (6, [.ref aSk, .ref aSm, .ref aSp, .ref aSt, .ref aSc, .ref aSr, .ref aSe, .int (nI gr), .int (nI br), .int (nI cs), .int (nI wk), .int z])), (aSe, .inl (g.2.1 0, 320, .inl ce))]) := by
  refine Ct.ofX (lv := [some (.ref aM), some (.int (nI n)), none, none]) (by decide) rfl (Nat.le_of_ble_eq_true rfl) (fun κ => ?_)
  generalize hQ : xQ κ g 0 0 _ = Q
  have htl := sumB_le dr n wk
  refine x_iload_n dX8_felt_0 rfl ?_
  refine x_cSi dX8_felt_1 ml_X8_223 mX8_isNumber (ct_isNumber_n κ.2.1 g n (hn)) rfl (Nat.le_of_ble_eq_true rfl) (by decide) (Nat.le_refl _) (Nat.le_refl _) ?_
  refine x_if_ne dX8_felt_4 (fun c4 => ?_) (fun c4 => ?_)
  rotate_left
  · exact absurd c4 (by decide)
  refine x_aload_n dX8_felt_13 rfl ?_
  refine x_get dX8_felt_14 0 0 inX8 fl_X8_10 rfl rfl (by decide) rfl ?_
  refine x_iload_n dX8_felt_17 rfl ?_
  refine x_cVi0 dX8_felt_18 ml_X8_229 mX6_timesOf (ct_X6_timesOf κ.2.1 g aS aSk aSm aSp aSt aSc aSr aSe gr br cs wk z ce n dr (hwk) (hn) (hdr)) [2, 3] rfl rfl 2 rfl rfl rfl (Nat.le_of_ble_eq_true rfl) (by decide) (Nat.le_refl _) (Nat.le_refl _) ?_
  refine x_istore_n (lv' := [some (.ref aM), some (.int (nI n)), some (.int (nI (sumN (fun w => bitN (dr w) n) wk))), none]) dX8_felt_21 (xlt rfl) rfl ?_
  refine x_aload_n dX8_felt_22 rfl ?_
  refine x_get dX8_felt_23 0 0 inX8 fl_X8_10 rfl rfl (by decide) rfl ?_
  refine x_get dX8_felt_26 2 10 inX6 fl_X8_189 rfl rfl (by decide) rfl ?_
  refine x_iload_n dX8_felt_29 rfl ?_
  refine x_isub dX8_felt_30 ?_
  refine x_rei (nI (wk - (sumN (fun w => bitN (dr w) n) wk))) (nI_isub wk (sumN (fun w => bitN (dr w) n) wk) (by omega)) ?_
  refine x_istore_n (lv' := [some (.ref aM), some (.int (nI n)), some (.int (nI (sumN (fun w => bitN (dr w) n) wk))), some (.int (nI (wk - (sumN (fun w => bitN (dr w) n) wk))))]) dX8_felt_31 (xlt rfl) rfl ?_
  refine x_iload_n dX8_felt_32 rfl ?_
  refine x_if_le dX8_felt_33 (fun c33 => ?_) (fun c33 => ?_)
  · have c33 : (nI (sumN (fun w => bitN (dr w) n) wk)) ≤ 0 := c33
    have c33n := (nI_leI (a := (sumN (fun w => bitN (dr w) n) wk)) (b := 0) (by omega) (by omega)).mp c33
    exact absurd c33n (by omega)
  · have c33 : ¬ ((nI (sumN (fun w => bitN (dr w) n) wk)) ≤ 0) := c33
    have c33n := mt (nI_leI (a := (sumN (fun w => bitN (dr w) n) wk)) (b := 0) (by omega) (by omega)).mpr c33
    refine x_iload_n dX8_felt_36 rfl ?_
    refine x_if_gt dX8_felt_37 (fun c37 => ?_) (fun c37 => ?_)
    · have c37 : 0 < (nI (wk - (sumN (fun w => bitN (dr w) n) wk))) := c37
      have c37n := (nI_ltI (a := 0) (b := (wk - (sumN (fun w => bitN (dr w) n) wk))) (by omega) (by omega)).mp c37
      refine x_aload_n dX8_felt_46 rfl ?_
      refine x_get dX8_felt_47 0 0 inX8 fl_X8_10 rfl rfl (by decide) rfl ?_
      refine x_iload_n dX8_felt_50 rfl ?_
      refine x_iconst 1 dX8_felt_51 (by decide) ?_
      refine x_cVi0 dX8_felt_52 ml_X8_236 mX6_rankTwoWinners (ct_X6_rankTwoWinners κ.2.1 g aS aSk aSm aSp aSt aSc aSr aSe gr br cs wk z ce n 1 dr (hwk) (hn) (hdr)) [2, 3] rfl rfl 2 rfl rfl rfl (Nat.le_of_ble_eq_true rfl) (by decide) (Nat.le_refl _) (Nat.le_refl _) ?_
      refine x_iload_n dX8_felt_55 rfl ?_
      refine x_idiv dX8_felt_56 (nI_ne0 (by omega) (by omega)) ?_
      refine x_aload_n dX8_felt_57 rfl ?_
      refine x_get dX8_felt_58 0 0 inX8 fl_X8_10 rfl rfl (by decide) rfl ?_
      refine x_iload_n dX8_felt_61 rfl ?_
      refine x_iconst 0 dX8_felt_62 (by decide) ?_
      refine x_cVi0 dX8_felt_63 ml_X8_236 mX6_rankTwoWinners (ct_X6_rankTwoWinners κ.2.1 g aS aSk aSm aSp aSt aSc aSr aSe gr br cs wk z ce n 0 dr (hwk) (hn) (hdr)) [2, 3] rfl rfl 2 rfl rfl rfl (Nat.le_of_ble_eq_true rfl) (by decide) (Nat.le_refl _) (Nat.le_refl _) ?_
      refine x_iload_n dX8_felt_66 rfl ?_
      refine x_idiv dX8_felt_67 (nI_ne0 (by omega) (by omega)) ?_
      refine x_isub dX8_felt_68 ?_
      rw [← hQ]
      refine x_iret dX8_felt_69 rfl (Nat.le_of_ble_eq_true rfl) (Nat.le_of_ble_eq_true rfl) ?_
      exact ⟨rfl, rfl⟩
    · have c37 : ¬ (0 < (nI (wk - (sumN (fun w => bitN (dr w) n) wk)))) := c37
      have c37n := mt (nI_ltI (a := 0) (b := (wk - (sumN (fun w => bitN (dr w) n) wk))) (by omega) (by omega)).mpr c37
      exact absurd c37n (by omega)

