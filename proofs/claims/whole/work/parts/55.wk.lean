
-- == weeks_b ==
theorem dX8_weeks_0 : xd cX8_weeks 0 (.iload_n 1) 1 1 := ⟨by decide +kernel, rfl⟩
theorem dX8_weeks_1 : xd cX8_weeks 1 (.invokestatic 239) 3 4 := ⟨by decide +kernel, rfl⟩
theorem dX8_weeks_4 : xj cX8_weeks 4 (.ifCond .ne) 7 13 := ⟨9, by decide +kernel, rfl, by decide⟩
theorem dX8_weeks_7 : xd cX8_weeks 7 (.aload_n 0) 1 8 := ⟨by decide +kernel, rfl⟩
theorem dX8_weeks_8 : xd cX8_weeks 8 (.iconst 0) 1 9 := ⟨by decide +kernel, rfl⟩
theorem dX8_weeks_9 : xd cX8_weeks 9 (.invokevirtual 79) 3 12 := ⟨by decide +kernel, rfl⟩
theorem dX8_weeks_12 : xd cX8_weeks 12 .ireturn 1 13 := ⟨by decide +kernel, rfl⟩
theorem dX8_weeks_13 : xd cX8_weeks 13 (.aload_n 0) 1 14 := ⟨by decide +kernel, rfl⟩
theorem dX8_weeks_14 : xd cX8_weeks 14 (.getfield 62) 3 17 := ⟨by decide +kernel, rfl⟩
theorem dX8_weeks_17 : xd cX8_weeks 17 (.iload_n 1) 1 18 := ⟨by decide +kernel, rfl⟩
theorem dX8_weeks_18 : xd cX8_weeks 18 .aaload 1 19 := ⟨by decide +kernel, rfl⟩
theorem dX8_weeks_19 : xd cX8_weeks 19 (.astore_n 2) 1 20 := ⟨by decide +kernel, rfl⟩
theorem dX8_weeks_20 : xd cX8_weeks 20 (.aload_n 2) 1 21 := ⟨by decide +kernel, rfl⟩
theorem dX8_weeks_21 : xd cX8_weeks 21 (.getfield 248) 3 24 := ⟨by decide +kernel, rfl⟩
theorem dX8_weeks_24 : xj cX8_weeks 24 (.ifCond .ne) 27 33 := ⟨9, by decide +kernel, rfl, by decide⟩
theorem dX8_weeks_27 : xd cX8_weeks 27 (.aload_n 0) 1 28 := ⟨by decide +kernel, rfl⟩
theorem dX8_weeks_28 : xd cX8_weeks 28 (.iconst 5) 1 29 := ⟨by decide +kernel, rfl⟩
theorem dX8_weeks_29 : xd cX8_weeks 29 (.invokevirtual 79) 3 32 := ⟨by decide +kernel, rfl⟩
theorem dX8_weeks_32 : xd cX8_weeks 32 .ireturn 1 33 := ⟨by decide +kernel, rfl⟩
theorem dX8_weeks_33 : xd cX8_weeks 33 (.aload_n 0) 1 34 := ⟨by decide +kernel, rfl⟩
theorem dX8_weeks_34 : xd cX8_weeks 34 (.getfield 10) 3 37 := ⟨by decide +kernel, rfl⟩
theorem dX8_weeks_37 : xd cX8_weeks 37 (.getfield 189) 3 40 := ⟨by decide +kernel, rfl⟩
theorem dX8_weeks_40 : xd cX8_weeks 40 (.istore_n 3) 1 41 := ⟨by decide +kernel, rfl⟩
theorem dX8_weeks_41 : xd cX8_weeks 41 (.iconst 0) 1 42 := ⟨by decide +kernel, rfl⟩
theorem dX8_weeks_42 : xd cX8_weeks 42 (.istore 4) 2 44 := ⟨by decide +kernel, rfl⟩
theorem dX8_weeks_44 : xd cX8_weeks 44 (.iload 4) 2 46 := ⟨by decide +kernel, rfl⟩
theorem dX8_weeks_46 : xd cX8_weeks 46 (.aload_n 2) 1 47 := ⟨by decide +kernel, rfl⟩
theorem dX8_weeks_47 : xd cX8_weeks 47 (.getfield 250) 3 50 := ⟨by decide +kernel, rfl⟩
theorem dX8_weeks_50 : xj cX8_weeks 50 (.if_icmp .ge) 53 94 := ⟨44, by decide +kernel, rfl, by decide⟩
theorem dX8_weeks_53 : xd cX8_weeks 53 (.aload_n 0) 1 54 := ⟨by decide +kernel, rfl⟩
theorem dX8_weeks_54 : xd cX8_weeks 54 (.getfield 10) 3 57 := ⟨by decide +kernel, rfl⟩
theorem dX8_weeks_57 : xd cX8_weeks 57 (.invokevirtual 178) 3 60 := ⟨by decide +kernel, rfl⟩
theorem dX8_weeks_60 : xj cX8_weeks 60 (.ifCond .ne) 63 94 := ⟨34, by decide +kernel, rfl, by decide⟩
theorem dX8_weeks_63 : xd cX8_weeks 63 (.aload_n 2) 1 64 := ⟨by decide +kernel, rfl⟩
theorem dX8_weeks_64 : xd cX8_weeks 64 (.getfield 253) 3 67 := ⟨by decide +kernel, rfl⟩
theorem dX8_weeks_67 : xd cX8_weeks 67 (.iload 4) 2 69 := ⟨by decide +kernel, rfl⟩
theorem dX8_weeks_69 : xd cX8_weeks 69 .laload 1 70 := ⟨by decide +kernel, rfl⟩
theorem dX8_weeks_70 : xd cX8_weeks 70 (.invokestatic 71) 3 73 := ⟨by decide +kernel, rfl⟩
theorem dX8_weeks_73 : xj cX8_weeks 73 (.ifCond .eq) 76 88 := ⟨15, by decide +kernel, rfl, by decide⟩
theorem dX8_weeks_76 : xd cX8_weeks 76 (.aload_n 0) 1 77 := ⟨by decide +kernel, rfl⟩
theorem dX8_weeks_77 : xd cX8_weeks 77 (.aload_n 2) 1 78 := ⟨by decide +kernel, rfl⟩
theorem dX8_weeks_78 : xd cX8_weeks 78 (.getfield 253) 3 81 := ⟨by decide +kernel, rfl⟩
theorem dX8_weeks_81 : xd cX8_weeks 81 (.iload 4) 2 83 := ⟨by decide +kernel, rfl⟩
theorem dX8_weeks_83 : xd cX8_weeks 83 .laload 1 84 := ⟨by decide +kernel, rfl⟩
theorem dX8_weeks_84 : xd cX8_weeks 84 .l2i 1 85 := ⟨by decide +kernel, rfl⟩
theorem dX8_weeks_85 : xd cX8_weeks 85 (.invokevirtual 185) 3 88 := ⟨by decide +kernel, rfl⟩
theorem dX8_weeks_88 : xd cX8_weeks 88 (.iinc 4 1) 3 91 := ⟨by decide +kernel, rfl⟩
theorem dX8_weeks_91 : xj cX8_weeks 91 .goto 94 44 := ⟨(-47), by decide +kernel, rfl, by decide⟩
theorem dX8_weeks_94 : xd cX8_weeks 94 (.aload_n 0) 1 95 := ⟨by decide +kernel, rfl⟩
theorem dX8_weeks_95 : xd cX8_weeks 95 (.getfield 10) 3 98 := ⟨by decide +kernel, rfl⟩
theorem dX8_weeks_98 : xd cX8_weeks 98 (.getfield 189) 3 101 := ⟨by decide +kernel, rfl⟩
theorem dX8_weeks_101 : xd cX8_weeks 101 (.iload_n 3) 1 102 := ⟨by decide +kernel, rfl⟩
theorem dX8_weeks_102 : xd cX8_weeks 102 .isub 1 103 := ⟨by decide +kernel, rfl⟩
theorem dX8_weeks_103 : xd cX8_weeks 103 .ireturn 1 104 := ⟨by decide +kernel, rfl⟩

set_option maxRecDepth 100000 in
set_option maxHeartbeats 4000000 in
theorem ct_weeks_b (l : Launch) (g : XG) (aM aS aK aL aC aW aR aT aH aF : Nat) (ts : Nat) (kp : Int32) (fi : Nat → Nat) (s : Int32) (hb : wI s 0 3 = 0) : Ct l g 32 0 0 yX8_weeks cX8_weeks 5 (some .int) [.ref aM, .int s] [(aM, .inr (8, [.ref aS, .ref aK, .ref aL, .ref aC, .ref aW, .ref aR, .ref aT, .ref aH, .ref aF, .int (nI ts), .int kp])), (aF, .inl (g.2.1 0, 7, .inl (nIf fi)))] (xpi (fndI 0) [(aM, .inr (8, [.ref aS, .ref aK, .ref aL, .ref aC, .ref aW, .ref aR, .ref aT, .ref aH, .ref aF, .int (nI ts), .int kp])), (aF, .inl (g.2.1 0, 7, .inl (nIf (updN fi 0 (fi 0 + 1)))))]) := by
  refine Ct.ofX (lv := [some (.ref aM), some (.int s), none, none, none]) (by decide) rfl (Nat.le_of_ble_eq_true rfl) (fun κ => ?_)
  generalize hQ : xQ κ g 0 0 _ = Q
  refine x_iload_n dX8_weeks_0 rfl ?_
  refine x_cSi dX8_weeks_1 ml_X8_239 mX8_isSheet (ct_X8_isSheet κ.2.1 g s) rfl (Nat.le_of_ble_eq_true rfl) (by decide) (Nat.le_refl _) (Nat.le_refl _) ?_
  refine x_if_ne dX8_weeks_4 (fun c4 => ?_) (fun c4 => ?_)
  · have c4 : ¬ ((wI s 0 3) = 0) := c4
    exact absurd hb c4
  · have c4 : (wI s 0 3) = 0 := c4
    refine x_aload_n dX8_weeks_7 rfl ?_
    refine x_iconst 0 dX8_weeks_8 (by decide) ?_
    refine x_cVi (ws' := [(aM, .inr (8, [.ref aS, .ref aK, .ref aL, .ref aC, .ref aW, .ref aR, .ref aT, .ref aH, .ref aF, .int (nI ts), .int kp])), (aF, .inl (g.2.1 0, 7, .inl (nIf (updN fi 0 (fi 0 + 1)))))]) dX8_weeks_9 ml_X8_79 mX8_tell (ct_X8_tell κ.2.1 g aM aS aK aL aC aW aR aT aH aF ts kp fi 0 (by decide)) [0, 1] rfl rfl 0 rfl rfl rfl (Nat.le_of_ble_eq_true rfl) (by decide) (Nat.le_refl _) (Nat.le_refl _) (rfl : [aM, aF] = [aM, aF]) rfl ?_
    rw [← hQ]
    refine x_iret dX8_weeks_12 rfl (Nat.le_of_ble_eq_true rfl) (Nat.le_of_ble_eq_true rfl) ?_
    exact ⟨rfl, rfl⟩

-- == weeks_m ==
set_option maxRecDepth 100000 in
set_option maxHeartbeats 4000000 in
theorem ct_weeks_m (l : Launch) (g : XG) (aM aS aK aL aC aW aR aT aH aF : Nat) (ts : Nat) (kp : Int32) (fi : Nat → Nat) (s : Nat) (aA aAn n0 : Nat) (nu : Nat → Int64) (shF : Nat → Option Nat) (hs4 : s < 4) (hs : shF s = some aA) : Ct l g 32 0 0 yX8_weeks cX8_weeks 5 (some .int) [.ref aM, .int (nI s)] [(aM, .inr (8, [.ref aS, .ref aK, .ref aL, .ref aC, .ref aW, .ref aR, .ref aT, .ref aH, .ref aF, .int (nI ts), .int kp])), (aF, .inl (g.2.1 0, 7, .inl (nIf fi))), (aH, .inl (g.2.1 4, 4, .inr (.inr (.inr (.inr shF))))), (aA, .inr (4, [.ref aAn, .int 0, .int (nI n0)])), (aAn, .inl (g.2.1 2, 40, .inr (.inl nu)))] (xpi (fndI 5) [(aM, .inr (8, [.ref aS, .ref aK, .ref aL, .ref aC, .ref aW, .ref aR, .ref aT, .ref aH, .ref aF, .int (nI ts), .int kp])), (aF, .inl (g.2.1 0, 7, .inl (nIf (updN fi 5 (fi 5 + 1))))), (aH, .inl (g.2.1 4, 4, .inr (.inr (.inr (.inr shF))))), (aA, .inr (4, [.ref aAn, .int 0, .int (nI n0)])), (aAn, .inl (g.2.1 2, 40, .inr (.inl nu)))]) := by
  refine Ct.ofX (lv := [some (.ref aM), some (.int (nI s)), none, none, none]) (by decide) rfl (Nat.le_of_ble_eq_true rfl) (fun κ => ?_)
  generalize hQ : xQ κ g 0 0 _ = Q
  refine x_iload_n dX8_weeks_0 rfl ?_
  refine x_cSi dX8_weeks_1 ml_X8_239 mX8_isSheet (ct_isSheet_n κ.2.1 g s (hs4)) rfl (Nat.le_of_ble_eq_true rfl) (by decide) (Nat.le_refl _) (Nat.le_refl _) ?_
  refine x_if_ne dX8_weeks_4 (fun c4 => ?_) (fun c4 => ?_)
  rotate_left
  · exact absurd c4 (by decide)
  refine x_aload_n dX8_weeks_13 rfl ?_
  refine x_get dX8_weeks_14 0 7 inX8 fl_X8_62 rfl rfl (by decide) rfl ?_
  refine x_iload_n dX8_weeks_17 rfl ?_
  refine x_qald dX8_weeks_18 2 s rfl (rfl) (by omega) (by decide) (hs) ?_
  refine x_astore_n (lv' := [some (.ref aM), some (.int (nI s)), some (.ref aA), none, none]) dX8_weeks_19 (xlt rfl) rfl ?_
  refine x_aload_n dX8_weeks_20 rfl ?_
  refine x_get dX8_weeks_21 3 1 inX4 fl_X8_248 rfl rfl (by decide) rfl ?_
  refine x_if_ne dX8_weeks_24 (fun c24 => ?_) (fun c24 => ?_)
  · exact absurd c24 (by decide)
  refine x_aload_n dX8_weeks_27 rfl ?_
  refine x_iconst 5 dX8_weeks_28 (by decide) ?_
  refine x_cVi (ws' := [(aM, .inr (8, [.ref aS, .ref aK, .ref aL, .ref aC, .ref aW, .ref aR, .ref aT, .ref aH, .ref aF, .int (nI ts), .int kp])), (aF, .inl (g.2.1 0, 7, .inl (nIf (updN fi 5 (fi 5 + 1))))), (aH, .inl (g.2.1 4, 4, .inr (.inr (.inr (.inr shF))))), (aA, .inr (4, [.ref aAn, .int 0, .int (nI n0)])), (aAn, .inl (g.2.1 2, 40, .inr (.inl nu)))]) dX8_weeks_29 ml_X8_79 mX8_tell (ct_X8_tell κ.2.1 g aM aS aK aL aC aW aR aT aH aF ts kp fi 5 (by decide)) [0, 1] rfl rfl 0 rfl rfl rfl (Nat.le_of_ble_eq_true rfl) (by decide) (Nat.le_refl _) (Nat.le_refl _) (rfl : [aM, aF] = [aM, aF]) rfl ?_
  rw [← hQ]
  refine x_iret dX8_weeks_32 rfl (Nat.le_of_ble_eq_true rfl) (Nat.le_of_ble_eq_true rfl) ?_
  exact ⟨rfl, rfl⟩

-- == weeks_o ==
set_option maxRecDepth 100000 in
set_option maxHeartbeats 4000000 in
theorem ct_weeks_o (l : Launch) (g : XG) (aM aK aW aR aT aH aF ts : Nat) (kp : Int32) (aC aS aL aV aO aCs aCl aCh aCw aCc aCb tot lat : Nat) (se sw : Int32) (aLb aLp aVs aSk aSm aSp aSt aSc aSr aSe gr br cs wk : Nat) (z : Int32) (sd li cr ki ma bp bt : Nat → Nat) (co ce sk : Nat → Int32) (VV : Nat → Nat → Nat → Int32) (L : Nat) (ru by_ : Nat → Nat) (aA aAn b n0 : Nat) (nu : Nat → Int64) (shF : Nat → Option Nat) (s : Nat) (hgr : gr ≤ 12) (hbr : br ≤ 40) (hcs : cs ≤ 60) (hwk : wk ≤ 40) (hki : ∀ j, ki j ≤ 7) (hma : ∀ j, ma j ≤ 99999) (hbp : ∀ j, bp j < 495) (hlat : latI ce wk = nI L) (hL : L < 4096) (hVV : cs ≠ 0 → ∀ w L p, p < 495 → evR (nmI w L p) (cdF co 0 cs) [] = some [VV w L p]) (hse : se = 0 ∨ (se = 1 ∧ sd = sdF cs (VV wk L) ∧ cr = crF gr ki ma bp bt br L (sdF cs (VV wk L)) ∧ tot = totF gr ki ma bp bt br L (sdF cs (VV wk L)) ∧ lat = L)) (hs4 : s < 4) (hs : shF s = some aA) (hbb : b = 8 ∨ b = 16 ∨ b = 64) (hn0 : n0 ≤ 40) : Ct l g 32 0 0 yX8_weeks cX8_weeks 5 (some .int) [.ref aM, .int (nI s)] [(aM, .inr (8, [.ref aS, .ref aK, .ref aL, .ref aC, .ref aW, .ref aR, .ref aT, .ref aH, .ref aF, .int (nI ts), .int kp])), (aC, .inr (0, [.ref aS, .ref aL, .ref aV, .ref aO, .ref aCs, .ref aCl, .ref aCh, .ref aCw, .ref aCc, .ref aCb, .int (nI tot), .int (nI lat), .int se, .int sw])), (aCs, .inl (g.2.1 0, 495, .inl (nIf sd))), (aCl, .inl (g.2.1 0, 495, .inl (nIf li))), (aCc, .inl (g.2.1 0, 495, .inl (nIf cr))), (aL, .inr (5, [.ref aLb, .ref aLp])), (aLb, .inl (g.2.1 0, 495, .inl (nIf rowB))), (aLp, .inl (g.2.1 0, 495, .inl (nIf packB))), (aV, .inr (2, [.ref aS, .ref aVs])), (aVs, .inl (g.2.1 0, 60, .inl sk)), (aS, .inr (6, [.ref aSk, .ref aSm, .ref aSp, .ref aSt, .ref aSc, .ref aSr, .ref aSe, .int (nI gr), .int (nI br), .int (nI cs), .int (nI wk), .int z])), (aSk, .inl (g.2.1 0, 12, .inl (nIf ki))), (aSm, .inl (g.2.1 0, 12, .inl (nIf ma))), (aSp, .inl (g.2.1 0, 40, .inl (nIf bp))), (aSt, .inl (g.2.1 0, 40, .inl (nIf bt))), (aSc, .inl (g.2.1 0, 60, .inl co)), (aSe, .inl (g.2.1 0, 320, .inl ce)), (aSr, .inl (g.2.1 0, 8, .inl (nIf ru))), (aCb, .inl (g.2.1 0, 5, .inl (nIf by_))), (aH, .inl (g.2.1 4, 4, .inr (.inr (.inr (.inr shF))))), (aA, .inr (4, [.ref aAn, .int (nI b), .int (nI n0)])), (aAn, .inl (g.2.1 2, 40, .inr (.inl nu)))] (fun vv_ ww_ => ∃ (zwk : Nat) (zru : Nat → Nat) (zce : Nat → Int32) (zto : Nat) (zla : Nat) (zse : Int32) (zsw : Int32) (zsd : Nat → Nat) (zli : Nat → Nat) (zcr : Nat → Nat) (zsk : Nat → Int32) (zby : Nat → Nat) (zL : Nat), vv_ = some (.int (nI zwk - nI wk)) ∧ ww_ = [(aM, .inr (8, [.ref aS, .ref aK, .ref aL, .ref aC, .ref aW, .ref aR, .ref aT, .ref aH, .ref aF, .int (nI ts), .int kp])), (aC, .inr (0, [.ref aS, .ref aL, .ref aV, .ref aO, .ref aCs, .ref aCl, .ref aCh, .ref aCw, .ref aCc, .ref aCb, .int (nI zto), .int (nI zla), .int zse, .int zsw])), (aCs, .inl (g.2.1 0, 495, .inl (nIf zsd))), (aCl, .inl (g.2.1 0, 495, .inl (nIf zli))), (aCc, .inl (g.2.1 0, 495, .inl (nIf zcr))), (aL, .inr (5, [.ref aLb, .ref aLp])), (aLb, .inl (g.2.1 0, 495, .inl (nIf rowB))), (aLp, .inl (g.2.1 0, 495, .inl (nIf packB))), (aV, .inr (2, [.ref aS, .ref aVs])), (aVs, .inl (g.2.1 0, 60, .inl zsk)), (aS, .inr (6, [.ref aSk, .ref aSm, .ref aSp, .ref aSt, .ref aSc, .ref aSr, .ref aSe, .int (nI gr), .int (nI br), .int (nI cs), .int (nI zwk), .int z])), (aSk, .inl (g.2.1 0, 12, .inl (nIf ki))), (aSm, .inl (g.2.1 0, 12, .inl (nIf ma))), (aSp, .inl (g.2.1 0, 40, .inl (nIf bp))), (aSt, .inl (g.2.1 0, 40, .inl (nIf bt))), (aSc, .inl (g.2.1 0, 60, .inl co)), (aSe, .inl (g.2.1 0, 320, .inl zce)), (aSr, .inl (g.2.1 0, 8, .inl (nIf zru))), (aCb, .inl (g.2.1 0, 5, .inl (nIf zby))), (aH, .inl (g.2.1 4, 4, .inr (.inr (.inr (.inr shF))))), (aA, .inr (4, [.ref aAn, .int (nI b), .int (nI n0)])), (aAn, .inl (g.2.1 2, 40, .inr (.inl nu)))] ∧ (wsI (fun w L => crF gr ki ma bp bt br L (sdF cs (VV w L))) nu (wk, ru, ce) n0 = (zwk, zru, zce)) ∧ (zwk ≤ 40) ∧ (latI zce zwk = nI zL) ∧ (zL < 4096) ∧ ((zwk = wk ∧ zru = ru ∧ zce = ce ∧ zto = tot ∧ zla = lat ∧ zse = se ∧ zsw = sw ∧ zsd = sd ∧ zcr = cr ∧ zL = L) ∨ (zse = 0 ∧ zsw = 0))) := by
  refine Ct.ofX (lv := [some (.ref aM), some (.int (nI s)), none, none, none]) (by decide) rfl (Nat.le_of_ble_eq_true rfl) (fun κ => ?_)
  generalize hQ : xQ κ g 0 0 _ = Q
  refine x_iload_n dX8_weeks_0 rfl ?_
  refine x_cSi dX8_weeks_1 ml_X8_239 mX8_isSheet (ct_isSheet_n κ.2.1 g s (hs4)) rfl (Nat.le_of_ble_eq_true rfl) (by decide) (Nat.le_refl _) (Nat.le_refl _) ?_
  refine x_if_ne dX8_weeks_4 (fun c4 => ?_) (fun c4 => ?_)
  rotate_left
  · exact absurd c4 (by decide)
  refine x_aload_n dX8_weeks_13 rfl ?_
  refine x_get dX8_weeks_14 0 7 inX8 fl_X8_62 rfl rfl (by decide) rfl ?_
  refine x_iload_n dX8_weeks_17 rfl ?_
  refine x_qald dX8_weeks_18 19 s rfl (rfl) (by omega) (by decide) (hs) ?_
  refine x_astore_n (lv' := [some (.ref aM), some (.int (nI s)), some (.ref aA), none, none]) dX8_weeks_19 (xlt rfl) rfl ?_
  refine x_aload_n dX8_weeks_20 rfl ?_
  refine x_get dX8_weeks_21 20 1 inX4 fl_X8_248 rfl rfl (by decide) rfl ?_
  refine x_if_ne dX8_weeks_24 (fun c24 => ?_) (fun c24 => ?_)
  · have c24 : ¬ ((nI b) = 0) := c24
    have c24n := mt (nI_eq (a := b) (b := 0) (by omega) (by omega)).mpr c24
    refine x_aload_n dX8_weeks_33 rfl ?_
    refine x_get dX8_weeks_34 0 0 inX8 fl_X8_10 rfl rfl (by decide) rfl ?_
    refine x_get dX8_weeks_37 10 10 inX6 fl_X8_189 rfl rfl (by decide) rfl ?_
    refine x_istore_n (lv' := [some (.ref aM), some (.int (nI s)), some (.ref aA), some (.int (nI wk)), none]) dX8_weeks_40 (xlt rfl) rfl ?_
    refine x_iconst 0 dX8_weeks_41 (by decide) ?_
    refine x_istore (lv' := [some (.ref aM), some (.int (nI s)), some (.ref aA), some (.int (nI wk)), some (.int 0)]) dX8_weeks_42 (xlt rfl) rfl ?_
    have L44_1 : ∀ (i : Nat), i ≤ n0 → ∀ (wq : Nat), ∀ (rq : Nat → Nat), ∀ (cq : Nat → Int32), ∀ (tq : Nat), ∀ (lq : Nat), ∀ (eq_ : Int32), ∀ (wnq : Int32), ∀ (sq : Nat → Nat), ∀ (iq : Nat → Nat), ∀ (xq : Nat → Nat), ∀ (kq : Nat → Int32), ∀ (bq : Nat → Nat), ∀ (Lq : Nat), wq ≤ 40 → wsI (fun w L => crF gr ki ma bp bt br L (sdF cs (VV w L))) nu (wk, ru, ce) i = (wq, rq, cq) → latI cq wq = nI Lq → Lq < 4096 → (wq = wk ∧ rq = ru ∧ cq = ce ∧ tq = tot ∧ lq = lat ∧ eq_ = se ∧ wnq = sw ∧ sq = sd ∧ xq = cr ∧ Lq = L) ∨ (eq_ = 0 ∧ wnq = 0) → Xs κ g 32 0 0 cX8_weeks yX8_weeks (some .int) Q 0 0 44 [some (.ref aM), some (.int (nI s)), some (.ref aA), some (.int (nI wk)), some (.int (nI i))] [] [(aM, .inr (8, [.ref aS, .ref aK, .ref aL, .ref aC, .ref aW, .ref aR, .ref aT, .ref aH, .ref aF, .int (nI ts), .int kp])), (aC, .inr (0, [.ref aS, .ref aL, .ref aV, .ref aO, .ref aCs, .ref aCl, .ref aCh, .ref aCw, .ref aCc, .ref aCb, .int (nI tq), .int (nI lq), .int eq_, .int wnq])), (aCs, .inl (g.2.1 0, 495, .inl (nIf sq))), (aCl, .inl (g.2.1 0, 495, .inl (nIf iq))), (aCc, .inl (g.2.1 0, 495, .inl (nIf xq))), (aL, .inr (5, [.ref aLb, .ref aLp])), (aLb, .inl (g.2.1 0, 495, .inl (nIf rowB))), (aLp, .inl (g.2.1 0, 495, .inl (nIf packB))), (aV, .inr (2, [.ref aS, .ref aVs])), (aVs, .inl (g.2.1 0, 60, .inl kq)), (aS, .inr (6, [.ref aSk, .ref aSm, .ref aSp, .ref aSt, .ref aSc, .ref aSr, .ref aSe, .int (nI gr), .int (nI br), .int (nI cs), .int (nI wq), .int z])), (aSk, .inl (g.2.1 0, 12, .inl (nIf ki))), (aSm, .inl (g.2.1 0, 12, .inl (nIf ma))), (aSp, .inl (g.2.1 0, 40, .inl (nIf bp))), (aSt, .inl (g.2.1 0, 40, .inl (nIf bt))), (aSc, .inl (g.2.1 0, 60, .inl co)), (aSe, .inl (g.2.1 0, 320, .inl cq)), (aSr, .inl (g.2.1 0, 8, .inl (nIf rq))), (aCb, .inl (g.2.1 0, 5, .inl (nIf bq))), (aH, .inl (g.2.1 4, 4, .inr (.inr (.inr (.inr shF))))), (aA, .inr (4, [.ref aAn, .int (nI b), .int (nI n0)])), (aAn, .inl (g.2.1 2, 40, .inr (.inl nu)))] := by
      refine upTo n0 (fun i hi44 ih44 => ?_)
      intro wq
      intro rq
      intro cq
      intro tq
      intro lq
      intro eq_
      intro wnq
      intro sq
      intro iq
      intro xq
      intro kq
      intro bq
      intro Lq
      intro h1 h2 h3 h4 hse5
      refine x_iload dX8_weeks_44 rfl ?_
      refine x_aload_n dX8_weeks_46 rfl ?_
      refine x_get dX8_weeks_47 20 2 inX4 fl_X8_250 rfl rfl (by decide) rfl ?_
      refine x_icmp_ge dX8_weeks_50 (fun c50 => ?_) (fun c50 => ?_)
      · have c50 : (nI n0) ≤ (nI i) := c50
        have c50n := (nI_leI (a := n0) (b := i) (by omega) (by omega)).mp c50
        have hxc50 : i = n0 := by omega
        try rw [hxc50]
        try rw [hxc50] at h1
        try rw [hxc50] at h2
        try rw [hxc50] at h3
        try rw [hxc50] at h4
        try rw [hxc50] at hse5
        refine x_aload_n dX8_weeks_94 rfl ?_
        refine x_get dX8_weeks_95 0 0 inX8 fl_X8_10 rfl rfl (by decide) rfl ?_
        refine x_get dX8_weeks_98 10 10 inX6 fl_X8_189 rfl rfl (by decide) rfl ?_
        refine x_iload_n dX8_weeks_101 rfl ?_
        refine x_isub dX8_weeks_102 ?_
        rw [← hQ]
        refine x_iret dX8_weeks_103 rfl (Nat.le_of_ble_eq_true rfl) (Nat.le_of_ble_eq_true rfl) ?_
        exact ⟨_, _, _, _, _, _, _, _, _, _, _, _, _, rfl, rfl, by first | exact h2 | exact wsI_fullN h2 (bfI_1 c60) (by omega), h1, h3, h4, hse5⟩
      · have c50 : ¬ ((nI n0) ≤ (nI i)) := c50
        have c50n := mt (nI_leI (a := n0) (b := i) (by omega) (by omega)).mpr c50
        refine x_aload_n dX8_weeks_53 rfl ?_
        refine x_get dX8_weeks_54 0 0 inX8 fl_X8_10 rfl rfl (by decide) rfl ?_
        refine x_cVi0 dX8_weeks_57 ml_X8_178 mX6_isBookFull (ct_X6_isBookFull κ.2.1 g aS aSk aSm aSp aSt aSc aSr aSe gr br cs wq z (h1)) [10] rfl rfl 10 rfl rfl rfl (Nat.le_of_ble_eq_true rfl) (by decide) (Nat.le_refl _) (Nat.le_refl _) ?_
        refine x_if_ne dX8_weeks_60 (fun c60 => ?_) (fun c60 => ?_)
        · have c60 : ¬ ((bfI wq) = 0) := c60
          refine x_aload_n dX8_weeks_94 rfl ?_
          refine x_get dX8_weeks_95 0 0 inX8 fl_X8_10 rfl rfl (by decide) rfl ?_
          refine x_get dX8_weeks_98 10 10 inX6 fl_X8_189 rfl rfl (by decide) rfl ?_
          refine x_iload_n dX8_weeks_101 rfl ?_
          refine x_isub dX8_weeks_102 ?_
          rw [← hQ]
          refine x_iret dX8_weeks_103 rfl (Nat.le_of_ble_eq_true rfl) (Nat.le_of_ble_eq_true rfl) ?_
          exact ⟨_, _, _, _, _, _, _, _, _, _, _, _, _, rfl, rfl, by first | exact h2 | exact wsI_fullN h2 (bfI_1 c60) (by omega), h1, h3, h4, hse5⟩
        · have c60 : (bfI wq) = 0 := c60
          refine x_aload_n dX8_weeks_63 rfl ?_
          refine x_get dX8_weeks_64 20 0 inX4 fl_X8_253 rfl rfl (by decide) rfl ?_
          refine x_iload dX8_weeks_67 rfl ?_
          refine x_lald dX8_weeks_69 21 i rfl (rfl) (by omega) (by decide) ?_
          refine x_cSi dX8_weeks_70 ml_X8_71 mX8_isRow (ct_X8_isRow κ.2.1 g (nu i)) rfl (Nat.le_of_ble_eq_true rfl) (by decide) (Nat.le_refl _) (Nat.le_refl _) ?_
          refine x_if_eq dX8_weeks_73 (fun c73 => ?_) (fun c73 => ?_)
          · have c73 : (isRowI (nu i)) = 0 := c73
            refine x_iinc (lv' := [some (.ref aM), some (.int (nI s)), some (.ref aA), some (.int (nI wk)), some (.int (nI (i + 1)))]) (nI (i + 1)) dX8_weeks_88 rfl (nI_addc i 1 rfl) rfl ?_
            refine x_goto dX8_weeks_91 ?_
            exact ih44 (by omega) wq rq _ tq lq _ _ sq iq xq _ bq Lq (h1) (wsI_no h2 (Or.inl c73)) (h3) (h4) (hse5)
          · have c73 : ¬ ((isRowI (nu i)) = 0) := c73
            have hr1 := (isRowI01 (nu i)).resolve_left c73
            have hrn := row_nat hr1
            have hw40 := bfI_0 c60
            refine x_aload_n dX8_weeks_76 rfl ?_
            refine x_aload_n dX8_weeks_77 rfl ?_
            refine x_get dX8_weeks_78 20 0 inX4 fl_X8_253 rfl rfl (by decide) rfl ?_
            refine x_iload dX8_weeks_81 rfl ?_
            refine x_lald dX8_weeks_83 21 i rfl (rfl) (by omega) (by decide) ?_
            refine x_l2i dX8_weeks_84 ?_
            refine x_rei (nI (rwN (nu i))) (hrn.1) ?_
            refine x_callV dX8_weeks_85 ml_X8_185 mX8_holdWeek (ct_X8_holdWeek κ.2.1 g aM aK aW aR aT aH aF ts kp aC aS aL aV aO aCs aCl aCh aCw aCc aCb tq lq eq_ wnq aLb aLp aVs aSk aSm aSp aSt aSc aSr aSe gr br cs wq z sq iq xq ki ma bp bt co cq kq (VV wq Lq) Lq rq bq (rwN (nu i)) (hgr) (hbr) (hcs) (h1) (hki) (hma) (hbp) (h3) (h4) (fun q => hVV q wq Lq) (by first | exact hse5.elim (fun q => by obtain ⟨rfl, rfl, rfl, rfl, rfl, rfl, rfl, rfl, rfl, rfl⟩ := q; exact hse) (fun q => Or.inl q.1)) (hw40) (hrn.2.1)) [0, 1, 2, 3, 4, 5, 6, 7, 8, 9, 10, 11, 12, 13, 14, 15, 16, 17, 18] rfl rfl 0 rfl rfl rfl (Nat.le_of_ble_eq_true rfl) (by decide) (Nat.le_refl _) (Nat.le_refl _) (fun vv ww hp => ?_)
            obtain ⟨z2, z3, rfl, rfl⟩ := hp
            refine ⟨(rfl : [aM, aC, aCs, aCl, aCc, aL, aLb, aLp, aV, aVs, aS, aSk, aSm, aSp, aSt, aSc, aSe, aSr, aCb] = [aM, aC, aCs, aCl, aCc, aL, aLb, aLp, aV, aVs, aS, aSk, aSm, aSp, aSt, aSc, aSe, aSr, aCb]), x_eq (lv' := [some (.ref aM), some (.int (nI s)), some (.ref aA), some (.int (nI wk)), some (.int (nI i))]) (st' := []) (ws' := [(aM, .inr (8, [.ref aS, .ref aK, .ref aL, .ref aC, .ref aW, .ref aR, .ref aT, .ref aH, .ref aF, .int (nI ts), .int kp])), (aC, .inr (0, [.ref aS, .ref aL, .ref aV, .ref aO, .ref aCs, .ref aCl, .ref aCh, .ref aCw, .ref aCc, .ref aCb, .int (nI (totF gr ki ma bp bt br Lq (sdF cs (VV wq Lq)))), .int (nI Lq), .int 0, .int 0])), (aCs, .inl (g.2.1 0, 495, .inl (nIf (sdF cs (VV wq Lq))))), (aCl, .inl (g.2.1 0, 495, .inl (nIf z2))), (aCc, .inl (g.2.1 0, 495, .inl (nIf (crF gr ki ma bp bt br Lq (sdF cs (VV wq Lq)))))), (aL, .inr (5, [.ref aLb, .ref aLp])), (aLb, .inl (g.2.1 0, 495, .inl (nIf rowB))), (aLp, .inl (g.2.1 0, 495, .inl (nIf packB))), (aV, .inr (2, [.ref aS, .ref aVs])), (aVs, .inl (g.2.1 0, 60, .inl z3)), (aS, .inr (6, [.ref aSk, .ref aSm, .ref aSp, .ref aSt, .ref aSc, .ref aSr, .ref aSe, .int (nI gr), .int (nI br), .int (nI cs), .int (nI (wq + 1)), .int z])), (aSk, .inl (g.2.1 0, 12, .inl (nIf ki))), (aSm, .inl (g.2.1 0, 12, .inl (nIf ma))), (aSp, .inl (g.2.1 0, 40, .inl (nIf bp))), (aSt, .inl (g.2.1 0, 40, .inl (nIf bt))), (aSc, .inl (g.2.1 0, 60, .inl co)), (aSe, .inl (g.2.1 0, 320, .inl (wkCells cq wq rq (totF gr ki ma bp bt br Lq (sdF cs (VV wq Lq))) (crF gr ki ma bp bt br Lq (sdF cs (VV wq Lq))) (rwN (nu i))))), (aSr, .inl (g.2.1 0, 8, .inl (nIf (updN rq 7 (potE (wkLeft rq (totF gr ki ma bp bt br Lq (sdF cs (VV wq Lq))) (crF gr ki ma bp bt br Lq (sdF cs (VV wq Lq))) (rwN (nu i)))))))), (aCb, .inl (g.2.1 0, 5, .inl (nIf (winN (crF gr ki ma bp bt br Lq (sdF cs (VV wq Lq))) (rwN (nu i)))))), (aH, .inl (g.2.1 4, 4, .inr (.inr (.inr (.inr shF))))), (aA, .inr (4, [.ref aAn, .int (nI b), .int (nI n0)])), (aAn, .inl (g.2.1 2, 40, .inr (.inl nu)))]) ?_ rfl rfl (by simp only [xSet, List.set_cons_zero, List.set_cons_succ])⟩
            refine x_iinc (lv' := [some (.ref aM), some (.int (nI s)), some (.ref aA), some (.int (nI wk)), some (.int (nI (i + 1)))]) (nI (i + 1)) dX8_weeks_88 rfl (nI_addc i 1 rfl) rfl ?_
            refine x_goto dX8_weeks_91 ?_
            exact ih44 (by omega) (wq + 1) (updN rq 7 (potE (wkLeft rq (totF gr ki ma bp bt br Lq (sdF cs (VV wq Lq))) (crF gr ki ma bp bt br Lq (sdF cs (VV wq Lq))) (rwN (nu i))))) _ (totF gr ki ma bp bt br Lq (sdF cs (VV wq Lq))) Lq _ _ (sdF cs (VV wq Lq)) z2 (crF gr ki ma bp bt br Lq (sdF cs (VV wq Lq))) _ (winN (crF gr ki ma bp bt br Lq (sdF cs (VV wq Lq))) (rwN (nu i))) (rwN (nu i)) (by omega) (wsI_yes h2 h3 h4 (by omega) hr1) (lat_wk _ _ _ _ _ _) ((row_nat hr1).2.1) (Or.inr ⟨rfl, rfl⟩)
    exact L44_1 0 (Nat.zero_le _) wk ru _ tot lat _ _ sd li cr _ by_ L (hwk) (rfl) (hlat) (hL) (Or.inl ⟨rfl, rfl, rfl, rfl, rfl, rfl, rfl, rfl, rfl, rfl⟩)
  · have c24 : (nI b) = 0 := c24
    have c24n := (nI_eq (a := b) (b := 0) (by omega) (by omega)).mp c24
    exact absurd c24n (by omega)

-- == nweeks_b ==
theorem dX9_weeks_0 : xd cX9_weeks 0 (.iload_n 1) 1 1 := ⟨by decide +kernel, rfl⟩
theorem dX9_weeks_1 : xd cX9_weeks 1 (.invokestatic 258) 3 4 := ⟨by decide +kernel, rfl⟩
theorem dX9_weeks_4 : xj cX9_weeks 4 (.ifCond .ne) 7 14 := ⟨10, by decide +kernel, rfl, by decide⟩
theorem dX9_weeks_7 : xd cX9_weeks 7 (.aload_n 0) 1 8 := ⟨by decide +kernel, rfl⟩
theorem dX9_weeks_8 : xd cX9_weeks 8 (.ldc 87) 2 10 := ⟨by decide +kernel, rfl⟩
theorem dX9_weeks_10 : xd cX9_weeks 10 (.invokevirtual 88) 3 13 := ⟨by decide +kernel, rfl⟩
theorem dX9_weeks_13 : xd cX9_weeks 13 .ireturn 1 14 := ⟨by decide +kernel, rfl⟩
theorem dX9_weeks_14 : xd cX9_weeks 14 (.aload_n 0) 1 15 := ⟨by decide +kernel, rfl⟩
theorem dX9_weeks_15 : xd cX9_weeks 15 (.getfield 34) 3 18 := ⟨by decide +kernel, rfl⟩
theorem dX9_weeks_18 : xd cX9_weeks 18 (.iload_n 1) 1 19 := ⟨by decide +kernel, rfl⟩
theorem dX9_weeks_19 : xd cX9_weeks 19 .iaload 1 20 := ⟨by decide +kernel, rfl⟩
theorem dX9_weeks_20 : xj cX9_weeks 20 (.ifCond .ge) 23 31 := ⟨11, by decide +kernel, rfl, by decide⟩
theorem dX9_weeks_23 : xd cX9_weeks 23 (.aload_n 0) 1 24 := ⟨by decide +kernel, rfl⟩
theorem dX9_weeks_24 : xd cX9_weeks 24 (.ldc_w 262) 3 27 := ⟨by decide +kernel, rfl⟩
theorem dX9_weeks_27 : xd cX9_weeks 27 (.invokevirtual 88) 3 30 := ⟨by decide +kernel, rfl⟩
theorem dX9_weeks_30 : xd cX9_weeks 30 .ireturn 1 31 := ⟨by decide +kernel, rfl⟩
theorem dX9_weeks_31 : xd cX9_weeks 31 (.iconst 0) 1 32 := ⟨by decide +kernel, rfl⟩
theorem dX9_weeks_32 : xd cX9_weeks 32 (.istore_n 2) 1 33 := ⟨by decide +kernel, rfl⟩
theorem dX9_weeks_33 : xd cX9_weeks 33 (.iconst 0) 1 34 := ⟨by decide +kernel, rfl⟩
theorem dX9_weeks_34 : xd cX9_weeks 34 (.istore_n 3) 1 35 := ⟨by decide +kernel, rfl⟩
theorem dX9_weeks_35 : xd cX9_weeks 35 (.iload_n 3) 1 36 := ⟨by decide +kernel, rfl⟩
theorem dX9_weeks_36 : xd cX9_weeks 36 (.aload_n 0) 1 37 := ⟨by decide +kernel, rfl⟩
theorem dX9_weeks_37 : xd cX9_weeks 37 (.getfield 37) 3 40 := ⟨by decide +kernel, rfl⟩
theorem dX9_weeks_40 : xd cX9_weeks 40 (.iload_n 1) 1 41 := ⟨by decide +kernel, rfl⟩
theorem dX9_weeks_41 : xd cX9_weeks 41 .iaload 1 42 := ⟨by decide +kernel, rfl⟩
theorem dX9_weeks_42 : xj cX9_weeks 42 (.if_icmp .ge) 45 108 := ⟨66, by decide +kernel, rfl, by decide⟩
theorem dX9_weeks_45 : xd cX9_weeks 45 (.aload_n 0) 1 46 := ⟨by decide +kernel, rfl⟩
theorem dX9_weeks_46 : xd cX9_weeks 46 (.getfield 40) 3 49 := ⟨by decide +kernel, rfl⟩
theorem dX9_weeks_49 : xd cX9_weeks 49 (.bipush 40) 2 51 := ⟨by decide +kernel, rfl⟩
theorem dX9_weeks_51 : xd cX9_weeks 51 (.iload_n 1) 1 52 := ⟨by decide +kernel, rfl⟩
theorem dX9_weeks_52 : xd cX9_weeks 52 .imul 1 53 := ⟨by decide +kernel, rfl⟩
theorem dX9_weeks_53 : xd cX9_weeks 53 (.iload_n 3) 1 54 := ⟨by decide +kernel, rfl⟩
theorem dX9_weeks_54 : xd cX9_weeks 54 .iadd 1 55 := ⟨by decide +kernel, rfl⟩
theorem dX9_weeks_55 : xd cX9_weeks 55 .laload 1 56 := ⟨by decide +kernel, rfl⟩
theorem dX9_weeks_56 : xd cX9_weeks 56 (.lstore 4) 2 58 := ⟨by decide +kernel, rfl⟩
theorem dX9_weeks_58 : xd cX9_weeks 58 (.lload 4) 2 60 := ⟨by decide +kernel, rfl⟩
theorem dX9_weeks_60 : xd cX9_weeks 60 (.lconst 0) 1 61 := ⟨by decide +kernel, rfl⟩
theorem dX9_weeks_61 : xd cX9_weeks 61 (.ldc2_w 266) 3 64 := ⟨by decide +kernel, rfl⟩
theorem dX9_weeks_64 : xd cX9_weeks 64 (.invokestatic 98) 3 67 := ⟨by decide +kernel, rfl⟩
theorem dX9_weeks_67 : xj cX9_weeks 67 (.ifCond .eq) 70 102 := ⟨35, by decide +kernel, rfl, by decide⟩
theorem dX9_weeks_70 : xd cX9_weeks 70 (.aload_n 0) 1 71 := ⟨by decide +kernel, rfl⟩
theorem dX9_weeks_71 : xd cX9_weeks 71 (.getfield 22) 3 74 := ⟨by decide +kernel, rfl⟩
theorem dX9_weeks_74 : xd cX9_weeks 74 (.lload 4) 2 76 := ⟨by decide +kernel, rfl⟩
theorem dX9_weeks_76 : xd cX9_weeks 76 .l2i 1 77 := ⟨by decide +kernel, rfl⟩
theorem dX9_weeks_77 : xd cX9_weeks 77 .iaload 1 78 := ⟨by decide +kernel, rfl⟩
theorem dX9_weeks_78 : xj cX9_weeks 78 (.ifCond .lt) 81 102 := ⟨24, by decide +kernel, rfl, by decide⟩
theorem dX9_weeks_81 : xd cX9_weeks 81 (.aload_n 0) 1 82 := ⟨by decide +kernel, rfl⟩
theorem dX9_weeks_82 : xd cX9_weeks 82 (.getfield 7) 3 85 := ⟨by decide +kernel, rfl⟩
theorem dX9_weeks_85 : xd cX9_weeks 85 (.iconst 1) 1 86 := ⟨by decide +kernel, rfl⟩
theorem dX9_weeks_86 : xd cX9_weeks 86 .iaload 1 87 := ⟨by decide +kernel, rfl⟩
theorem dX9_weeks_87 : xd cX9_weeks 87 (.bipush 40) 2 89 := ⟨by decide +kernel, rfl⟩
theorem dX9_weeks_89 : xj cX9_weeks 89 (.if_icmp .ge) 92 102 := ⟨13, by decide +kernel, rfl, by decide⟩
theorem dX9_weeks_92 : xd cX9_weeks 92 (.aload_n 0) 1 93 := ⟨by decide +kernel, rfl⟩
theorem dX9_weeks_93 : xd cX9_weeks 93 (.lload 4) 2 95 := ⟨by decide +kernel, rfl⟩
theorem dX9_weeks_95 : xd cX9_weeks 95 .l2i 1 96 := ⟨by decide +kernel, rfl⟩
theorem dX9_weeks_96 : xd cX9_weeks 96 (.invokevirtual 219) 3 99 := ⟨by decide +kernel, rfl⟩
theorem dX9_weeks_99 : xd cX9_weeks 99 (.iinc 2 1) 3 102 := ⟨by decide +kernel, rfl⟩
theorem dX9_weeks_102 : xd cX9_weeks 102 (.iinc 3 1) 3 105 := ⟨by decide +kernel, rfl⟩
theorem dX9_weeks_105 : xj cX9_weeks 105 .goto 108 35 := ⟨(-70), by decide +kernel, rfl, by decide⟩
theorem dX9_weeks_108 : xd cX9_weeks 108 (.iload_n 2) 1 109 := ⟨by decide +kernel, rfl⟩
theorem dX9_weeks_109 : xd cX9_weeks 109 .ireturn 1 110 := ⟨by decide +kernel, rfl⟩

set_option maxRecDepth 100000 in
set_option maxHeartbeats 4000000 in
theorem ct_nweeks_b (l : Launch) (g : XG) (aN aNs aNk aNf aNr aNp aNb aNa aNt aNbo aNsz aNnu aNl aNal aNlo aNw aNtr aNis aNbg aNow nts nta nop npr nac : Nat) (nkp nbd ntp nnw nsn nwn : Int32) (fi : Nat → Nat) (nbo : Nat → Int32) (nsz : Nat → Nat) (s : Int32) (hb : wI s 0 3 = 0) : Ct l g 34 0 0 yX9_weeks cX9_weeks 6 (some .int) [.ref aN, .int s] [(aN, .inr (9, [.ref aNs, .ref aNk, .int nkp, .ref aNf, .ref aNr, .ref aNp, .ref aNb, .ref aNa, .ref aNt, .int (nI nts), .ref aNbo, .ref aNsz, .ref aNnu, .int (nI nta), .int (nI nop), .int nbd, .int ntp, .int (nI npr), .int nnw, .int nsn, .int nwn, .ref aNl, .ref aNal, .ref aNlo, .int (nI nac), .ref aNw, .ref aNtr, .ref aNis, .ref aNbg, .ref aNow])), (aNf, .inl (g.2.1 0, 8, .inl (nIf (fnF fi)))), (aNbo, .inl (g.2.1 0, 4, .inl nbo)), (aNsz, .inl (g.2.1 0, 4, .inl (nIf nsz)))] (xpi (fndI 0) [(aN, .inr (9, [.ref aNs, .ref aNk, .int nkp, .ref aNf, .ref aNr, .ref aNp, .ref aNb, .ref aNa, .ref aNt, .int (nI nts), .ref aNbo, .ref aNsz, .ref aNnu, .int (nI nta), .int (nI nop), .int nbd, .int ntp, .int (nI npr), .int nnw, .int nsn, .int nwn, .ref aNl, .ref aNal, .ref aNlo, .int (nI nac), .ref aNw, .ref aNtr, .ref aNis, .ref aNbg, .ref aNow])), (aNf, .inl (g.2.1 0, 8, .inl (nIf (fnF (updN fi 0 (fi 0 + 1)))))), (aNbo, .inl (g.2.1 0, 4, .inl nbo)), (aNsz, .inl (g.2.1 0, 4, .inl (nIf nsz)))]) := by
  refine Ct.ofX (lv := [some (.ref aN), some (.int s), none, none, none, none]) (by decide) rfl (Nat.le_of_ble_eq_true rfl) (fun κ => ?_)
  generalize hQ : xQ κ g 0 0 _ = Q
  refine x_iload_n dX9_weeks_0 rfl ?_
  refine x_cSi dX9_weeks_1 ml_X9_258 mX9_isSheet (ct_X9_isSheet κ.2.1 g s) rfl (Nat.le_of_ble_eq_true rfl) (by decide) (Nat.le_refl _) (Nat.le_refl _) ?_
  refine x_if_ne dX9_weeks_4 (fun c4 => ?_) (fun c4 => ?_)
  · have c4 : ¬ ((wI s 0 3) = 0) := c4
    exact absurd hb c4
  · have c4 : (wI s 0 3) = 0 := c4
    refine x_aload_n dX9_weeks_7 rfl ?_
    refine x_ldc dX9_weeks_8 k_X9_87 ?_
    refine x_cVi (ws' := [(aN, .inr (9, [.ref aNs, .ref aNk, .int nkp, .ref aNf, .ref aNr, .ref aNp, .ref aNb, .ref aNa, .ref aNt, .int (nI nts), .ref aNbo, .ref aNsz, .ref aNnu, .int (nI nta), .int (nI nop), .int nbd, .int ntp, .int (nI npr), .int nnw, .int nsn, .int nwn, .ref aNl, .ref aNal, .ref aNlo, .int (nI nac), .ref aNw, .ref aNtr, .ref aNis, .ref aNbg, .ref aNow])), (aNf, .inl (g.2.1 0, 8, .inl (nIf (fnF (updN fi 0 (fi 0 + 1)))))), (aNbo, .inl (g.2.1 0, 4, .inl nbo)), (aNsz, .inl (g.2.1 0, 4, .inl (nIf nsz)))]) dX9_weeks_10 ml_X9_88 mX9_finds (ct_finds_0 κ.2.1 g aN aNs aNk aNf aNr aNp aNb aNa aNt aNbo aNsz aNnu aNl aNal aNlo aNw aNtr aNis aNbg aNow nts nta nop npr nac nkp nbd ntp nnw nsn nwn fi) [0, 1] rfl rfl 0 rfl rfl rfl (Nat.le_of_ble_eq_true rfl) (by decide) (Nat.le_refl _) (Nat.le_refl _) (rfl : [aN, aNf] = [aN, aNf]) rfl ?_
    rw [← hQ]
    refine x_iret dX9_weeks_13 rfl (Nat.le_of_ble_eq_true rfl) (Nat.le_of_ble_eq_true rfl) ?_
    exact ⟨rfl, rfl⟩

-- == nweeks_m ==
set_option maxRecDepth 100000 in
set_option maxHeartbeats 4000000 in
theorem ct_nweeks_m (l : Launch) (g : XG) (aN aNs aNk aNf aNr aNp aNb aNa aNt aNbo aNsz aNnu aNl aNal aNlo aNw aNtr aNis aNbg aNow nts nta nop npr nac : Nat) (nkp nbd ntp nnw nsn nwn : Int32) (fi : Nat → Nat) (nbo : Nat → Int32) (nsz : Nat → Nat) (s : Nat) (hs4 : s < 4) (hm : nbo s = -1) : Ct l g 34 0 0 yX9_weeks cX9_weeks 6 (some .int) [.ref aN, .int (nI s)] [(aN, .inr (9, [.ref aNs, .ref aNk, .int nkp, .ref aNf, .ref aNr, .ref aNp, .ref aNb, .ref aNa, .ref aNt, .int (nI nts), .ref aNbo, .ref aNsz, .ref aNnu, .int (nI nta), .int (nI nop), .int nbd, .int ntp, .int (nI npr), .int nnw, .int nsn, .int nwn, .ref aNl, .ref aNal, .ref aNlo, .int (nI nac), .ref aNw, .ref aNtr, .ref aNis, .ref aNbg, .ref aNow])), (aNf, .inl (g.2.1 0, 8, .inl (nIf (fnF fi)))), (aNbo, .inl (g.2.1 0, 4, .inl nbo)), (aNsz, .inl (g.2.1 0, 4, .inl (nIf nsz)))] (xpi (fndI 5) [(aN, .inr (9, [.ref aNs, .ref aNk, .int nkp, .ref aNf, .ref aNr, .ref aNp, .ref aNb, .ref aNa, .ref aNt, .int (nI nts), .ref aNbo, .ref aNsz, .ref aNnu, .int (nI nta), .int (nI nop), .int nbd, .int ntp, .int (nI npr), .int nnw, .int nsn, .int nwn, .ref aNl, .ref aNal, .ref aNlo, .int (nI nac), .ref aNw, .ref aNtr, .ref aNis, .ref aNbg, .ref aNow])), (aNf, .inl (g.2.1 0, 8, .inl (nIf (fnF (updN fi 5 (fi 5 + 1)))))), (aNbo, .inl (g.2.1 0, 4, .inl nbo)), (aNsz, .inl (g.2.1 0, 4, .inl (nIf nsz)))]) := by
  refine Ct.ofX (lv := [some (.ref aN), some (.int (nI s)), none, none, none, none]) (by decide) rfl (Nat.le_of_ble_eq_true rfl) (fun κ => ?_)
  generalize hQ : xQ κ g 0 0 _ = Q
  refine x_iload_n dX9_weeks_0 rfl ?_
  refine x_cSi dX9_weeks_1 ml_X9_258 mX9_isSheet (ct_nSheet_n κ.2.1 g s (hs4)) rfl (Nat.le_of_ble_eq_true rfl) (by decide) (Nat.le_refl _) (Nat.le_refl _) ?_
  refine x_if_ne dX9_weeks_4 (fun c4 => ?_) (fun c4 => ?_)
  rotate_left
  · exact absurd c4 (by decide)
  refine x_aload_n dX9_weeks_14 rfl ?_
  refine x_get dX9_weeks_15 0 10 inX9 fl_X9_34 rfl rfl (by decide) rfl ?_
  refine x_iload_n dX9_weeks_18 rfl ?_
  refine x_iald dX9_weeks_19 2 s rfl (rfl) (by omega) (by decide) ?_
  refine x_rei ((-1)) (hm) ?_
  refine x_if_ge dX9_weeks_20 (fun c20 => ?_) (fun c20 => ?_)
  · exact absurd c20 (by decide)
  refine x_aload_n dX9_weeks_23 rfl ?_
  refine x_ldcw dX9_weeks_24 k_X9_262 ?_
  refine x_cVi (ws' := [(aN, .inr (9, [.ref aNs, .ref aNk, .int nkp, .ref aNf, .ref aNr, .ref aNp, .ref aNb, .ref aNa, .ref aNt, .int (nI nts), .ref aNbo, .ref aNsz, .ref aNnu, .int (nI nta), .int (nI nop), .int nbd, .int ntp, .int (nI npr), .int nnw, .int nsn, .int nwn, .ref aNl, .ref aNal, .ref aNlo, .int (nI nac), .ref aNw, .ref aNtr, .ref aNis, .ref aNbg, .ref aNow])), (aNf, .inl (g.2.1 0, 8, .inl (nIf (fnF (updN fi 5 (fi 5 + 1)))))), (aNbo, .inl (g.2.1 0, 4, .inl nbo)), (aNsz, .inl (g.2.1 0, 4, .inl (nIf nsz)))]) dX9_weeks_27 ml_X9_88 mX9_finds (ct_finds_5 κ.2.1 g aN aNs aNk aNf aNr aNp aNb aNa aNt aNbo aNsz aNnu aNl aNal aNlo aNw aNtr aNis aNbg aNow nts nta nop npr nac nkp nbd ntp nnw nsn nwn fi) [0, 1] rfl rfl 0 rfl rfl rfl (Nat.le_of_ble_eq_true rfl) (by decide) (Nat.le_refl _) (Nat.le_refl _) (rfl : [aN, aNf] = [aN, aNf]) rfl ?_
  rw [← hQ]
  refine x_iret dX9_weeks_30 rfl (Nat.le_of_ble_eq_true rfl) (Nat.le_of_ble_eq_true rfl) ?_
  exact ⟨rfl, rfl⟩

-- == nweeks_o ==
set_option maxRecDepth 100000 in
set_option maxHeartbeats 4000000 in
theorem ct_nweeks_o (l : Launch) (g : XG) (aN aNs aNk aNf aNr aNp aNb aNa aNt aNbo aNsz aNnu aNl aNal aNlo aNw aNtr aNis aNbg aNow nts nta nop npr nac : Nat) (nkp nbd nnw nsn nwn : Int32) (gr wk lk sz br : Nat) (z : Int32) (ru ki ma bb hd : Nat → Nat) (ce : Nat → Int32) (tb nli nal nlo : Nat → Nat) (SD : Nat → Nat → Nat → Nat) (L : Nat) (nbo : Nat → Int32) (nsz : Nat → Nat) (nnu : Nat → Int64) (s b : Nat) (hgr : gr ≤ 12) (hki : ∀ j, ki j ≤ 7) (hma : ∀ j, ma j ≤ 99999) (hwk : wk ≤ 40) (hlat : latI ce wk = nI L) (hL : L < 4096) (hsz : sz ≤ 60) (hbb : ∀ j, bb j < 256) (hlk : lk ≤ 1) (hSD : ∀ w L p, SD w L p ≤ 99) (hSV : ∀ w L p, p < 495 → SD w L p = if lk = 1 then clN (txV bb sz w L p) else 1) (hwo : (nnw = 1 ∧ (nsn = 1 ∨ (nsn = 0 ∧ nli = (SD wk L)))) ∨ (nnw = 0 ∧ nsn = 0 ∧ nli = (SD wk L) ∧ nal = crH gr ki ma hd L (SD wk L) ∧ nac = toH gr ki ma hd L (SD wk L) ∧ ∀ q, q < gr → nlo q = laN (ki q) (ma q) L (SD wk L))) (htot : ∀ w L, L < 4096 → toH gr ki ma hd L (SD w L) < 2 ^ 30) (hs4 : s < 4) (hm : nbo s = nI b ∧ b < 2 ^ 31) (hz : nsz s ≤ 40) : Ct l g 34 0 0 yX9_weeks cX9_weeks 6 (some .int) [.ref aN, .int (nI s)] [(aN, .inr (9, [.ref aNs, .ref aNk, .int nkp, .ref aNf, .ref aNr, .ref aNp, .ref aNb, .ref aNa, .ref aNt, .int (nI nts), .ref aNbo, .ref aNsz, .ref aNnu, .int (nI nta), .int (nI nop), .int nbd, .int 0, .int (nI npr), .int nnw, .int nsn, .int nwn, .ref aNl, .ref aNal, .ref aNlo, .int (nI nac), .ref aNw, .ref aNtr, .ref aNis, .ref aNbg, .ref aNow])), (aNs, .inl (g.2.1 0, 919, .inl (msF gr wk z lk sz br ru ki ma bb ce hd))), (aNt, .inl (g.2.1 0, 60, .inl (nIf tb))), (aNa, .inl (g.2.1 0, 2475, .inl (nIf fcN))), (aNr, .inl (g.2.1 0, 495, .inl (nIf rowB))), (aNb, .inl (g.2.1 0, 4096, .inl (nIf popN))), (aNl, .inl (g.2.1 0, 495, .inl (nIf nli))), (aNal, .inl (g.2.1 0, 495, .inl (nIf nal))), (aNlo, .inl (g.2.1 0, 12, .inl (nIf nlo))), (aNp, .inl (g.2.1 0, 4096, .inl plI)), (aNbo, .inl (g.2.1 0, 4, .inl nbo)), (aNsz, .inl (g.2.1 0, 4, .inl (nIf nsz))), (aNnu, .inl (g.2.1 2, 160, .inr (.inl nnu)))] (fun vv_ ww_ => ∃ (zwk : Nat) (zru : Nat → Nat) (zce : Nat → Int32) (zat : Nat) (zop : Nat) (zbd : Int32) (zpr : Nat) (znw : Int32) (zsn : Int32) (zwn : Int32) (zac : Nat) (zli : Nat → Nat) (zal : Nat → Nat) (zlo : Nat → Nat) (zL : Nat), vv_ = some (.int (nI (zwk - wk))) ∧ ww_ = [(aN, .inr (9, [.ref aNs, .ref aNk, .int nkp, .ref aNf, .ref aNr, .ref aNp, .ref aNb, .ref aNa, .ref aNt, .int (nI nts), .ref aNbo, .ref aNsz, .ref aNnu, .int (nI zat), .int (nI zop), .int zbd, .int 0, .int (nI zpr), .int znw, .int zsn, .int zwn, .ref aNl, .ref aNal, .ref aNlo, .int (nI zac), .ref aNw, .ref aNtr, .ref aNis, .ref aNbg, .ref aNow])), (aNs, .inl (g.2.1 0, 919, .inl (msF gr zwk z lk sz br zru ki ma bb zce hd))), (aNt, .inl (g.2.1 0, 60, .inl (nIf tb))), (aNa, .inl (g.2.1 0, 2475, .inl (nIf fcN))), (aNr, .inl (g.2.1 0, 495, .inl (nIf rowB))), (aNb, .inl (g.2.1 0, 4096, .inl (nIf popN))), (aNl, .inl (g.2.1 0, 495, .inl (nIf zli))), (aNal, .inl (g.2.1 0, 495, .inl (nIf zal))), (aNlo, .inl (g.2.1 0, 12, .inl (nIf zlo))), (aNp, .inl (g.2.1 0, 4096, .inl plI)), (aNbo, .inl (g.2.1 0, 4, .inl nbo)), (aNsz, .inl (g.2.1 0, 4, .inl (nIf nsz))), (aNnu, .inl (g.2.1 2, 160, .inr (.inl nnu)))] ∧ (wsI (fun w L => crH gr ki ma hd L (SD w L)) (fun j => nnu (40 * s + j)) (wk, ru, ce) (nsz s) = (zwk, zru, zce)) ∧ (zwk ≤ 40) ∧ (wk ≤ zwk) ∧ (latI zce zwk = nI zL) ∧ (zL < 4096) ∧ ((zwk = wk ∧ zru = ru ∧ zce = ce ∧ znw = nnw ∧ zsn = nsn ∧ zwn = nwn ∧ zli = nli ∧ zal = nal ∧ zlo = nlo ∧ zac = nac ∧ zL = L) ∨ (znw = 1 ∧ zsn = 1))) := by
  refine Ct.ofX (lv := [some (.ref aN), some (.int (nI s)), none, none, none, none]) (by decide) rfl (Nat.le_of_ble_eq_true rfl) (fun κ => ?_)
  generalize hQ : xQ κ g 0 0 _ = Q
  refine x_iload_n dX9_weeks_0 rfl ?_
  refine x_cSi dX9_weeks_1 ml_X9_258 mX9_isSheet (ct_nSheet_n κ.2.1 g s (hs4)) rfl (Nat.le_of_ble_eq_true rfl) (by decide) (Nat.le_refl _) (Nat.le_refl _) ?_
  refine x_if_ne dX9_weeks_4 (fun c4 => ?_) (fun c4 => ?_)
  rotate_left
  · exact absurd c4 (by decide)
  refine x_aload_n dX9_weeks_14 rfl ?_
  refine x_get dX9_weeks_15 0 10 inX9 fl_X9_34 rfl rfl (by decide) rfl ?_
  refine x_iload_n dX9_weeks_18 rfl ?_
  refine x_iald dX9_weeks_19 10 s rfl (rfl) (by omega) (by decide) ?_
  refine x_rei (nI b) (hm.1) ?_
  refine x_if_ge dX9_weeks_20 (fun c20 => ?_) (fun c20 => ?_)
  · have c20 : 0 ≤ (nI b) := c20
    have c20n := (nI_leI (a := 0) (b := b) (by omega) (by omega)).mp c20
    refine x_iconst 0 dX9_weeks_31 (by decide) ?_
    refine x_istore_n (lv' := [some (.ref aN), some (.int (nI s)), some (.int 0), none, none, none]) dX9_weeks_32 (xlt rfl) rfl ?_
    refine x_iconst 0 dX9_weeks_33 (by decide) ?_
    refine x_istore_n (lv' := [some (.ref aN), some (.int (nI s)), some (.int 0), some (.int 0), none, none]) dX9_weeks_34 (xlt rfl) rfl ?_
    have L35_1 : ∀ (i : Nat), i ≤ nsz s → ∀ (wq : Nat), ∀ (rq : Nat → Nat), ∀ (cq : Nat → Int32), ∀ (aq : Nat), ∀ (oq : Nat), ∀ (bdq : Int32), ∀ (pq : Nat), ∀ (nq : Int32), ∀ (snq : Int32), ∀ (wnq : Int32), ∀ (acq : Nat), ∀ (lq : Nat → Nat), ∀ (alq : Nat → Nat), ∀ (loq : Nat → Nat), ∀ (cm : Nat), ∀ (Lq : Nat), wq ≤ 40 → cm + wk = wq → wsI (fun w L => crH gr ki ma hd L (SD w L)) (fun j => nnu (40 * s + j)) (wk, ru, ce) i = (wq, rq, cq) → latI cq wq = nI Lq → Lq < 4096 → (wq = wk ∧ rq = ru ∧ cq = ce ∧ nq = nnw ∧ snq = nsn ∧ wnq = nwn ∧ lq = nli ∧ alq = nal ∧ loq = nlo ∧ acq = nac ∧ Lq = L) ∨ (nq = 1 ∧ snq = 1) → Xs κ g 34 0 0 cX9_weeks yX9_weeks (some .int) Q 0 0 35 [some (.ref aN), some (.int (nI s)), some (.int (nI cm)), some (.int (nI i)), none, none] [] [(aN, .inr (9, [.ref aNs, .ref aNk, .int nkp, .ref aNf, .ref aNr, .ref aNp, .ref aNb, .ref aNa, .ref aNt, .int (nI nts), .ref aNbo, .ref aNsz, .ref aNnu, .int (nI aq), .int (nI oq), .int bdq, .int 0, .int (nI pq), .int nq, .int snq, .int wnq, .ref aNl, .ref aNal, .ref aNlo, .int (nI acq), .ref aNw, .ref aNtr, .ref aNis, .ref aNbg, .ref aNow])), (aNs, .inl (g.2.1 0, 919, .inl (msF gr wq z lk sz br rq ki ma bb cq hd))), (aNt, .inl (g.2.1 0, 60, .inl (nIf tb))), (aNa, .inl (g.2.1 0, 2475, .inl (nIf fcN))), (aNr, .inl (g.2.1 0, 495, .inl (nIf rowB))), (aNb, .inl (g.2.1 0, 4096, .inl (nIf popN))), (aNl, .inl (g.2.1 0, 495, .inl (nIf lq))), (aNal, .inl (g.2.1 0, 495, .inl (nIf alq))), (aNlo, .inl (g.2.1 0, 12, .inl (nIf loq))), (aNp, .inl (g.2.1 0, 4096, .inl plI)), (aNbo, .inl (g.2.1 0, 4, .inl nbo)), (aNsz, .inl (g.2.1 0, 4, .inl (nIf nsz))), (aNnu, .inl (g.2.1 2, 160, .inr (.inl nnu)))] := by
      refine upTo (nsz s) (fun i hi35 ih35 => ?_)
      intro wq
      intro rq
      intro cq
      intro aq
      intro oq
      intro bdq
      intro pq
      intro nq
      intro snq
      intro wnq
      intro acq
      intro lq
      intro alq
      intro loq
      intro cm
      intro Lq
      intro h1 hcm h2 h3 h4 hwo5
      refine x_iload_n dX9_weeks_35 rfl ?_
      refine x_aload_n dX9_weeks_36 rfl ?_
      refine x_get dX9_weeks_37 0 11 inX9 fl_X9_37 rfl rfl (by decide) rfl ?_
      refine x_iload_n dX9_weeks_40 rfl ?_
      refine x_iald dX9_weeks_41 11 s rfl (rfl) (by omega) (by decide) ?_
      refine x_icmp_ge dX9_weeks_42 (fun c42 => ?_) (fun c42 => ?_)
      · have c42 : (nI (nsz s)) ≤ (nI i) := c42
        have c42n := (nI_leI (a := (nsz s)) (b := i) (by omega) (by omega)).mp c42
        have hxc42 : i = nsz s := by omega
        try rw [hxc42]
        try rw [hxc42] at h1
        try rw [hxc42] at hcm
        try rw [hxc42] at h2
        try rw [hxc42] at h3
        try rw [hxc42] at h4
        try rw [hxc42] at hwo5
        refine x_iload_n dX9_weeks_108 rfl ?_
        rw [← hQ]
        refine x_iret dX9_weeks_109 rfl (Nat.le_of_ble_eq_true rfl) (Nat.le_of_ble_eq_true rfl) ?_
        exact ⟨_, _, _, _, _, _, _, _, _, _, _, _, _, _, _, by rw [show cm = wq - wk by omega], rfl, h2, h1, by omega, h3, h4, hwo5⟩
      · have c42 : ¬ ((nI (nsz s)) ≤ (nI i)) := c42
        have c42n := mt (nI_leI (a := (nsz s)) (b := i) (by omega) (by omega)).mpr c42
        refine x_aload_n dX9_weeks_45 rfl ?_
        refine x_get dX9_weeks_46 0 12 inX9 fl_X9_40 rfl rfl (by decide) rfl ?_
        refine x_bipush 40 dX9_weeks_49 (by decide) ?_
        refine x_iload_n dX9_weeks_51 rfl ?_
        refine x_imul dX9_weeks_52 ?_
        refine x_rei (nI (40 * s)) (nI_imul 40 s) ?_
        refine x_iload_n dX9_weeks_53 rfl ?_
        refine x_iadd dX9_weeks_54 ?_
        refine x_rei (nI ((40 * s) + i)) (nI_iadd (40 * s) i) ?_
        refine x_lald dX9_weeks_55 12 ((40 * s) + i) rfl (rfl) (by omega) (by decide) ?_
        refine x_lstore (lv' := [some (.ref aN), some (.int (nI s)), some (.int (nI cm)), some (.int (nI i)), some (.long (nnu ((40 * s) + i))), none]) dX9_weeks_56 (xlt rfl) rfl ?_
        refine x_lload dX9_weeks_58 rfl ?_
        refine x_lconst 0 dX9_weeks_60 (by decide) ?_
        refine x_ldc2 dX9_weeks_61 kl_X9_266 ?_
        refine x_cSi dX9_weeks_64 ml_X9_98 mX9_isIn (ct_X9_isIn κ.2.1 g (nnu ((40 * s) + i)) 0 4095) rfl (Nat.le_of_ble_eq_true rfl) (by decide) (Nat.le_refl _) (Nat.le_refl _) ?_
        refine x_if_eq dX9_weeks_67 (fun c67 => ?_) (fun c67 => ?_)
        · have c67 : (inL (nnu ((40 * s) + i)) 0 4095) = 0 := c67
          have hr0 := in_row0 (v := nnu (40 * s + i)) c67
          refine x_iinc (lv' := [some (.ref aN), some (.int (nI s)), some (.int (nI cm)), some (.int (nI (i + 1))), some (.long (nnu ((40 * s) + i))), none]) (nI (i + 1)) dX9_weeks_102 rfl (nI_addc i 1 rfl) rfl ?_
          refine x_goto dX9_weeks_105 ?_
          refine x_fgt (lv' := [some (.ref aN), some (.int (nI s)), some (.int (nI cm)), some (.int (nI (i + 1))), none, none]) ⟨Or.inr rfl, Or.inr rfl, Or.inr rfl, Or.inr rfl, Or.inl rfl, Or.inl rfl, trivial⟩ ?_
          exact ih35 (by omega) _ _ _ aq oq _ pq _ _ _ acq lq alq loq cm Lq (h1) (hcm) (wsI_no h2 (by first | exact Or.inl hr0 | exact Or.inr (by omega))) (h3) (h4) (hwo5)
        · have c67 : ¬ ((inL (nnu ((40 * s) + i)) 0 4095) = 0) := c67
          have hrn := in_rowN (v := nnu (40 * s + i)) c67
          refine x_aload_n dX9_weeks_70 rfl ?_
          refine x_get dX9_weeks_71 0 5 inX9 fl_X9_22 rfl rfl (by decide) rfl ?_
          refine x_lload dX9_weeks_74 rfl ?_
          refine x_l2i dX9_weeks_76 ?_
          refine x_rei (nI (rwN (nnu (40 * s + i)))) (hrn.1) ?_
          refine x_iald dX9_weeks_77 9 (rwN (nnu (40 * s + i))) rfl (rfl) (hrn.2.1) (by decide) ?_
          refine x_if_lt dX9_weeks_78 (fun c78 => ?_) (fun c78 => ?_)
          · have c78 : (plI (rwN (nnu (40 * s + i)))) < 0 := c78
            have hr0 := pl_row0 hrn.2.2 hrn.2.1 c78
            refine x_iinc (lv' := [some (.ref aN), some (.int (nI s)), some (.int (nI cm)), some (.int (nI (i + 1))), some (.long (nnu ((40 * s) + i))), none]) (nI (i + 1)) dX9_weeks_102 rfl (nI_addc i 1 rfl) rfl ?_
            refine x_goto dX9_weeks_105 ?_
            refine x_fgt (lv' := [some (.ref aN), some (.int (nI s)), some (.int (nI cm)), some (.int (nI (i + 1))), none, none]) ⟨Or.inr rfl, Or.inr rfl, Or.inr rfl, Or.inr rfl, Or.inl rfl, Or.inl rfl, trivial⟩ ?_
            exact ih35 (by omega) _ _ _ aq oq _ pq _ _ _ acq lq alq loq cm Lq (h1) (hcm) (wsI_no h2 (by first | exact Or.inl hr0 | exact Or.inr (by omega))) (h3) (h4) (hwo5)
          · have c78 : ¬ ((plI (rwN (nnu (40 * s + i)))) < 0) := c78
            have hr1 := pl_row1 hrn.2.2 c78
            refine x_aload_n dX9_weeks_81 rfl ?_
            refine x_get dX9_weeks_82 0 0 inX9 fl_X9_7 rfl rfl (by decide) rfl ?_
            refine x_iconst 1 dX9_weeks_85 (by decide) ?_
            refine x_iald dX9_weeks_86 1 1 rfl (rfl) (by decide) (by decide) ?_
            refine x_rei (nI wq) (rfl) ?_
            refine x_bipush 40 dX9_weeks_87 (by decide) ?_
            refine x_icmp_ge dX9_weeks_89 (fun c89 => ?_) (fun c89 => ?_)
            · have c89 : 40 ≤ (nI wq) := c89
              have c89n := (nI_leI (a := 40) (b := wq) (by omega) (by omega)).mp c89
              refine x_iinc (lv' := [some (.ref aN), some (.int (nI s)), some (.int (nI cm)), some (.int (nI (i + 1))), some (.long (nnu ((40 * s) + i))), none]) (nI (i + 1)) dX9_weeks_102 rfl (nI_addc i 1 rfl) rfl ?_
              refine x_goto dX9_weeks_105 ?_
              refine x_fgt (lv' := [some (.ref aN), some (.int (nI s)), some (.int (nI cm)), some (.int (nI (i + 1))), none, none]) ⟨Or.inr rfl, Or.inr rfl, Or.inr rfl, Or.inr rfl, Or.inl rfl, Or.inl rfl, trivial⟩ ?_
              exact ih35 (by omega) _ _ _ aq oq _ pq _ _ _ acq lq alq loq cm Lq (h1) (hcm) (wsI_no h2 (by first | exact Or.inl hr0 | exact Or.inr (by omega))) (h3) (h4) (hwo5)
            · have c89 : ¬ (40 ≤ (nI wq)) := c89
              have c89n := mt (nI_leI (a := 40) (b := wq) (by omega) (by omega)).mpr c89
              refine x_aload_n dX9_weeks_92 rfl ?_
              refine x_lload dX9_weeks_93 rfl ?_
              refine x_l2i dX9_weeks_95 ?_
              refine x_rei (nI (rwN (nnu (40 * s + i)))) (hrn.1) ?_
              refine x_callV dX9_weeks_96 ml_X9_219 mX9_goes (ct_X9_goes κ.2.1 g aN aNs aNk aNf aNr aNp aNb aNa aNt aNbo aNsz aNnu aNl aNal aNlo aNw aNtr aNis aNbg aNow nts aq oq pq acq nkp bdq nq snq wnq gr wq lk sz br z rq ki ma bb hd cq tb lq alq loq (SD wq Lq) Lq (rwN (nnu (40 * s + i))) (hgr) (hki) (hma) (h1) (h3) (h4) (hsz) (hbb) (hSD wq Lq) (hSV wq Lq) (hlk) (by first | exact hwo5.elim (fun q => by obtain ⟨rfl, rfl, rfl, rfl, rfl, rfl, rfl, rfl, rfl, rfl, rfl⟩ := q; exact hwo) (fun q => Or.inl ⟨q.1, Or.inl q.2⟩)) (hrn.2.1) (by omega) (htot wq Lq h4)) [0, 1, 2, 3, 4, 5, 6, 7, 8] rfl rfl 0 rfl rfl rfl (Nat.le_of_ble_eq_true rfl) (by decide) (Nat.le_refl _) (Nat.le_refl _) (fun vv ww hp => ?_)
              obtain ⟨z2, z3, z4, z5, z6, rfl, rfl, p7⟩ := hp
              refine ⟨(rfl : [aN, aNs, aNt, aNa, aNr, aNb, aNl, aNal, aNlo] = [aN, aNs, aNt, aNa, aNr, aNb, aNl, aNal, aNlo]), x_eq (lv' := [some (.ref aN), some (.int (nI s)), some (.int (nI cm)), some (.int (nI i)), some (.long (nnu ((40 * s) + i))), none]) (st' := []) (ws' := [(aN, .inr (9, [.ref aNs, .ref aNk, .int nkp, .ref aNf, .ref aNr, .ref aNp, .ref aNb, .ref aNa, .ref aNt, .int (nI nts), .ref aNbo, .ref aNsz, .ref aNnu, .int (nI z2), .int (nI z3), .int z4, .int 0, .int (nI z5), .int 1, .int 1, .int (wnI nq wnq), .ref aNl, .ref aNal, .ref aNlo, .int (nI (toH gr ki ma hd Lq (SD wq Lq))), .ref aNw, .ref aNtr, .ref aNis, .ref aNbg, .ref aNow])), (aNs, .inl (g.2.1 0, 919, .inl (msF gr (wq + 1) z lk sz br (updN rq 7 (potE (wkLeft rq (toH gr ki ma hd Lq (SD wq Lq)) (crH gr ki ma hd Lq (SD wq Lq)) (rwN (nnu (40 * s + i)))))) ki ma bb (wkCells cq wq rq (toH gr ki ma hd Lq (SD wq Lq)) (crH gr ki ma hd Lq (SD wq Lq)) (rwN (nnu (40 * s + i)))) hd))), (aNt, .inl (g.2.1 0, 60, .inl (nIf tb))), (aNa, .inl (g.2.1 0, 2475, .inl (nIf fcN))), (aNr, .inl (g.2.1 0, 495, .inl (nIf rowB))), (aNb, .inl (g.2.1 0, 4096, .inl (nIf popN))), (aNl, .inl (g.2.1 0, 495, .inl (nIf (SD wq Lq)))), (aNal, .inl (g.2.1 0, 495, .inl (nIf (crH gr ki ma hd Lq (SD wq Lq))))), (aNlo, .inl (g.2.1 0, 12, .inl (nIf z6))), (aNp, .inl (g.2.1 0, 4096, .inl plI)), (aNbo, .inl (g.2.1 0, 4, .inl nbo)), (aNsz, .inl (g.2.1 0, 4, .inl (nIf nsz))), (aNnu, .inl (g.2.1 2, 160, .inr (.inl nnu)))]) ?_ rfl rfl rfl⟩
              refine x_iinc (lv' := [some (.ref aN), some (.int (nI s)), some (.int (nI (cm + 1))), some (.int (nI i)), some (.long (nnu ((40 * s) + i))), none]) (nI (cm + 1)) dX9_weeks_99 rfl (nI_addc cm 1 rfl) rfl ?_
              refine x_iinc (lv' := [some (.ref aN), some (.int (nI s)), some (.int (nI (cm + 1))), some (.int (nI (i + 1))), some (.long (nnu ((40 * s) + i))), none]) (nI (i + 1)) dX9_weeks_102 rfl (nI_addc i 1 rfl) rfl ?_
              refine x_goto dX9_weeks_105 ?_
              refine x_fgt (lv' := [some (.ref aN), some (.int (nI s)), some (.int (nI (cm + 1))), some (.int (nI (i + 1))), none, none]) ⟨Or.inr rfl, Or.inr rfl, Or.inr rfl, Or.inr rfl, Or.inl rfl, Or.inl rfl, trivial⟩ ?_
              exact ih35 (by omega) _ _ _ z2 z3 _ z5 _ _ _ (toH gr ki ma hd Lq (SD wq Lq)) (SD wq Lq) (crH gr ki ma hd Lq (SD wq Lq)) z6 (cm + 1) (rwN (nnu (40 * s + i))) (by omega) (by omega) (wsI_yes h2 h3 h4 (by omega) hr1) (lat_wk _ _ _ _ _ _) (hrn.2.1) (Or.inr ⟨rfl, rfl⟩)
    exact L35_1 0 (Nat.zero_le _) _ _ _ nta nop _ npr _ _ _ nac nli nal nlo 0 L (hwk) (Nat.zero_add _) (rfl) (hlat) (hL) (Or.inl ⟨rfl, rfl, rfl, rfl, rfl, rfl, rfl, rfl, rfl, rfl, rfl⟩)
  · have c20 : ¬ (0 ≤ (nI b)) := c20
    have c20n := mt (nI_leI (a := 0) (b := b) (by omega) (by omega)).mpr c20
    exact absurd c20n (by omega)

