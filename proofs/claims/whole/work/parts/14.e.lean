/-- winners by ranks of a draw, the first i places looked at -/
def winT (cr : Nat → Nat) (d i : Nat) : Nat → Nat := fun r => if r ≤ 4 then sumN (fun p => if popN (rowB p &&& d) = r then cr p else 0) i else 0
def winN (cr : Nat → Nat) (d : Nat) : Nat → Nat := winT cr d 495
theorem winT_step (cr : Nat → Nat) (d i : Nat) : (if (4 : Int32) < nI (popN (rowB i &&& d)) then winT cr d i else updN (winT cr d i) (popN (rowB i &&& d)) (winT cr d i (popN (rowB i &&& d)) + cr i)) = winT cr d (i + 1) := by
  have hp := popN_le (rowB i &&& d)
  have h4 : (4 : Int32) < nI (popN (rowB i &&& d)) ↔ 4 < popN (rowB i &&& d) := nI_ltI (a := 4) (b := popN (rowB i &&& d)) (by decide) (by omega)
  funext r
  by_cases c : 4 < popN (rowB i &&& d)
  · rw [if_pos (h4.mpr c)]
    simp only [winT, sumN]
    split
    · rw [if_neg (by omega)]; rfl
    · rfl
  · rw [if_neg (mt h4.mp c)]
    simp only [updN, winT, sumN]
    by_cases e : r = popN (rowB i &&& d)
    · subst e; simp [show popN (rowB i &&& d) ≤ 4 by omega]
    · simp only [if_neg e, if_neg (fun q => e q.symm : ¬ popN (rowB i &&& d) = r), Nat.add_zero]
def eachL (w : Nat) (part : Int64) : Int64 := if nI w ≤ 0 then 0 else part / (nI w).toInt64
def clampP (x : Int64) : Int64 := if 99999999 < (if 0 < x then x else 0) then 99999999 else (if 0 < x then x else 0)
def potE (x : Int64) : Nat := (clampP x).toInt.toNat
theorem clampP_rng (x : Int64) : 0 ≤ (clampP x).toInt ∧ (clampP x).toInt ≤ 99999999 := by
  have h0 : (0 : Int64).toInt = 0 := rfl
  have h9 : (99999999 : Int64).toInt = 99999999 := rfl
  unfold clampP
  by_cases c : (0 : Int64) < x
  · simp only [if_pos c]
    rw [fa_lt64, h0] at c
    split
    · rw [h9]; omega
    next q => rw [fa_lt64, h9] at q; omega
  · simp only [if_neg c]
    rw [if_neg (by decide), h0]; omega
theorem potE_le (x : Int64) : potE x ≤ 99999999 := by have := clampP_rng x; unfold potE; omega
theorem potE_eq (x : Int64) : (clampP x).toInt32 = nI (potE x) := by
  have h := clampP_rng x
  unfold potE
  apply Int32.toInt_inj.mp
  rw [nI_toInt (by omega), Int64.toInt_toInt32]
  rw [show ((clampP x).toInt.toNat : Int) = (clampP x).toInt by omega]
  exact fb_bmod (by omega) (by omega)
theorem i64_ne0 {x : Int32} (h : ¬ x ≤ 0) : ¬ x.toInt64 = 0 := by
  intro q
  apply h
  rw [fa_le]
  have h2 : x.toInt64.toInt = 0 := by rw [q]; rfl
  rw [Int32.toInt_toInt64] at h2
  rw [h2]; decide
def wkPot (ru : Nat → Nat) (tot : Nat) : Int64 := potL ru (nI (ru 7)).toInt64 (nI tot).toInt64
def wkE (ru : Nat → Nat) (tot : Nat) (cr : Nat → Nat) (d r : Nat) : Int64 := eachL (winN cr d r) (partL ru r (wkPot ru tot))
def wkLeft (ru : Nat → Nat) (tot : Nat) (cr : Nat → Nat) (d : Nat) : Int64 := wkPot ru tot - wkE ru tot cr d 4 * (nI (winN cr d 4)).toInt64 - wkE ru tot cr d 3 * (nI (winN cr d 3)).toInt64 - wkE ru tot cr d 2 * (nI (winN cr d 2)).toInt64
def wkCells (ce : Nat → Int32) (wk : Nat) (ru : Nat → Nat) (tot : Nat) (cr : Nat → Nat) (d : Nat) : Nat → Int32 :=
  upd (upd (upd (upd (upd (upd (upd (upd ce (wk * 8 + 5 - 4) (nI (winN cr d 4))) (wk * 8 + 8 - 4) (wkE ru tot cr d 4).toInt32) (wk * 8 + 5 - 3) (nI (winN cr d 3))) (wk * 8 + 8 - 3) (wkE ru tot cr d 3).toInt32) (wk * 8 + 5 - 2) (nI (winN cr d 2))) (wk * 8 + 8 - 2) (wkE ru tot cr d 2).toInt32) (wk * 8) (nI d)) (wk * 8 + 7) (nI (potE (wkLeft ru tot cr d)))

-- == X0_tellWinners ==
theorem dX0_tellWinners_0 : xd cX0_tellWinners 0 (.aload_n 0) 1 1 := ⟨by decide +kernel, rfl⟩
theorem dX0_tellWinners_1 : xd cX0_tellWinners 1 (.getfield 27) 3 4 := ⟨by decide +kernel, rfl⟩
theorem dX0_tellWinners_4 : xd cX0_tellWinners 4 (.iconst 0) 1 5 := ⟨by decide +kernel, rfl⟩
theorem dX0_tellWinners_5 : xd cX0_tellWinners 5 (.invokestatic 80) 3 8 := ⟨by decide +kernel, rfl⟩
theorem dX0_tellWinners_8 : xd cX0_tellWinners 8 (.iconst 0) 1 9 := ⟨by decide +kernel, rfl⟩
theorem dX0_tellWinners_9 : xd cX0_tellWinners 9 (.istore_n 2) 1 10 := ⟨by decide +kernel, rfl⟩
theorem dX0_tellWinners_10 : xd cX0_tellWinners 10 (.iload_n 2) 1 11 := ⟨by decide +kernel, rfl⟩
theorem dX0_tellWinners_11 : xd cX0_tellWinners 11 (.sipush 495) 3 14 := ⟨by decide +kernel, rfl⟩
theorem dX0_tellWinners_14 : xj cX0_tellWinners 14 (.if_icmp .ge) 17 58 := ⟨44, by decide +kernel, rfl, by decide⟩
theorem dX0_tellWinners_17 : xd cX0_tellWinners 17 (.aload_n 0) 1 18 := ⟨by decide +kernel, rfl⟩
theorem dX0_tellWinners_18 : xd cX0_tellWinners 18 (.getfield 34) 3 21 := ⟨by decide +kernel, rfl⟩
theorem dX0_tellWinners_21 : xd cX0_tellWinners 21 (.getfield 68) 3 24 := ⟨by decide +kernel, rfl⟩
theorem dX0_tellWinners_24 : xd cX0_tellWinners 24 (.iload_n 2) 1 25 := ⟨by decide +kernel, rfl⟩
theorem dX0_tellWinners_25 : xd cX0_tellWinners 25 .iaload 1 26 := ⟨by decide +kernel, rfl⟩
theorem dX0_tellWinners_26 : xd cX0_tellWinners 26 (.iload_n 1) 1 27 := ⟨by decide +kernel, rfl⟩
theorem dX0_tellWinners_27 : xd cX0_tellWinners 27 .iand 1 28 := ⟨by decide +kernel, rfl⟩
theorem dX0_tellWinners_28 : xd cX0_tellWinners 28 (.invokestatic 135) 3 31 := ⟨by decide +kernel, rfl⟩
theorem dX0_tellWinners_31 : xd cX0_tellWinners 31 (.istore_n 3) 1 32 := ⟨by decide +kernel, rfl⟩
theorem dX0_tellWinners_32 : xd cX0_tellWinners 32 (.iload_n 3) 1 33 := ⟨by decide +kernel, rfl⟩
theorem dX0_tellWinners_33 : xd cX0_tellWinners 33 (.iconst 4) 1 34 := ⟨by decide +kernel, rfl⟩
theorem dX0_tellWinners_34 : xj cX0_tellWinners 34 (.if_icmp .gt) 37 52 := ⟨18, by decide +kernel, rfl, by decide⟩
theorem dX0_tellWinners_37 : xd cX0_tellWinners 37 (.aload_n 0) 1 38 := ⟨by decide +kernel, rfl⟩
theorem dX0_tellWinners_38 : xd cX0_tellWinners 38 (.getfield 27) 3 41 := ⟨by decide +kernel, rfl⟩
theorem dX0_tellWinners_41 : xd cX0_tellWinners 41 (.iload_n 3) 1 42 := ⟨by decide +kernel, rfl⟩
theorem dX0_tellWinners_42 : xd cX0_tellWinners 42 .dup2 1 43 := ⟨by decide +kernel, rfl⟩
theorem dX0_tellWinners_43 : xd cX0_tellWinners 43 .iaload 1 44 := ⟨by decide +kernel, rfl⟩
theorem dX0_tellWinners_44 : xd cX0_tellWinners 44 (.aload_n 0) 1 45 := ⟨by decide +kernel, rfl⟩
theorem dX0_tellWinners_45 : xd cX0_tellWinners 45 (.getfield 24) 3 48 := ⟨by decide +kernel, rfl⟩
theorem dX0_tellWinners_48 : xd cX0_tellWinners 48 (.iload_n 2) 1 49 := ⟨by decide +kernel, rfl⟩
theorem dX0_tellWinners_49 : xd cX0_tellWinners 49 .iaload 1 50 := ⟨by decide +kernel, rfl⟩
theorem dX0_tellWinners_50 : xd cX0_tellWinners 50 .iadd 1 51 := ⟨by decide +kernel, rfl⟩
theorem dX0_tellWinners_51 : xd cX0_tellWinners 51 .iastore 1 52 := ⟨by decide +kernel, rfl⟩
theorem dX0_tellWinners_52 : xd cX0_tellWinners 52 (.iinc 2 1) 3 55 := ⟨by decide +kernel, rfl⟩
theorem dX0_tellWinners_55 : xj cX0_tellWinners 55 .goto 58 10 := ⟨(-45), by decide +kernel, rfl, by decide⟩
theorem dX0_tellWinners_58 : xd cX0_tellWinners 58 .return_ 1 59 := ⟨by decide +kernel, rfl⟩

set_option maxRecDepth 100000 in
set_option maxHeartbeats 4000000 in
theorem ct_X0_tellWinners (l : Launch) (g : XG) (aC aS aL aV aO aCs aCl aCh aCw aCc aCb tot lat : Nat) (se sw : Int32) (aLb aLp : Nat) (cr by_ : Nat → Nat) (d : Nat) (hd : d < 4096) : Ct l g 2 0 0 yX0_tellWinners cX0_tellWinners 4 none [.ref aC, .int (nI d)] [(aC, .inr (0, [.ref aS, .ref aL, .ref aV, .ref aO, .ref aCs, .ref aCl, .ref aCh, .ref aCw, .ref aCc, .ref aCb, .int (nI tot), .int (nI lat), .int se, .int sw])), (aCc, .inl (g.2.1 0, 495, .inl (nIf cr))), (aCb, .inl (g.2.1 0, 5, .inl (nIf by_))), (aL, .inr (5, [.ref aLb, .ref aLp])), (aLb, .inl (g.2.1 0, 495, .inl (nIf rowB)))] (xpv [(aC, .inr (0, [.ref aS, .ref aL, .ref aV, .ref aO, .ref aCs, .ref aCl, .ref aCh, .ref aCw, .ref aCc, .ref aCb, .int (nI tot), .int (nI lat), .int se, .int sw])), (aCc, .inl (g.2.1 0, 495, .inl (nIf cr))), (aCb, .inl (g.2.1 0, 5, .inl (nIf (winN cr d)))), (aL, .inr (5, [.ref aLb, .ref aLp])), (aLb, .inl (g.2.1 0, 495, .inl (nIf rowB)))]) := by
  refine Ct.ofX (lv := [some (.ref aC), some (.int (nI d)), none, none]) (by decide) rfl (Nat.le_of_ble_eq_true rfl) (fun κ => ?_)
  generalize hQ : xQ κ g 0 0 _ = Q
  refine x_aload_n dX0_tellWinners_0 rfl ?_
  refine x_get dX0_tellWinners_1 0 9 inX0 fl_X0_27 rfl rfl (by decide) rfl ?_
  refine x_iconst 0 dX0_tellWinners_4 (by decide) ?_
  refine x_cSw (ws' := [(aC, .inr (0, [.ref aS, .ref aL, .ref aV, .ref aO, .ref aCs, .ref aCl, .ref aCh, .ref aCw, .ref aCc, .ref aCb, .int (nI tot), .int (nI lat), .int se, .int sw])), (aCc, .inl (g.2.1 0, 495, .inl (nIf cr))), (aCb, .inl (g.2.1 0, 5, .inl (nIf (fun _ => 0)))), (aL, .inr (5, [.ref aLb, .ref aLp])), (aLb, .inl (g.2.1 0, 495, .inl (nIf rowB)))]) dX0_tellWinners_5 ml_X0_80 mJ7_fill_53178 (ct_J7_fill_53178 κ.2.1 g aCb 5 0 (nIf by_) (by decide)) [2] rfl rfl rfl (Nat.le_of_ble_eq_true rfl) (by decide) (Nat.le_refl _) (Nat.le_refl _) (rfl : [aCb] = [aCb]) rfl ?_
  refine x_iconst 0 dX0_tellWinners_8 (by decide) ?_
  refine x_istore_n (lv' := [some (.ref aC), some (.int (nI d)), some (.int 0), none]) dX0_tellWinners_9 (xlt rfl) rfl ?_
  have L10_1 : ∀ (i : Nat), i ≤ 495 → ∀ (bf : Nat → Nat), bf = winT cr d i → Xs κ g 2 0 0 cX0_tellWinners yX0_tellWinners none Q 0 0 10 [some (.ref aC), some (.int (nI d)), some (.int (nI i)), none] [] [(aC, .inr (0, [.ref aS, .ref aL, .ref aV, .ref aO, .ref aCs, .ref aCl, .ref aCh, .ref aCw, .ref aCc, .ref aCb, .int (nI tot), .int (nI lat), .int se, .int sw])), (aCc, .inl (g.2.1 0, 495, .inl (nIf cr))), (aCb, .inl (g.2.1 0, 5, .inl (nIf bf))), (aL, .inr (5, [.ref aLb, .ref aLp])), (aLb, .inl (g.2.1 0, 495, .inl (nIf rowB)))] := by
    refine upTo 495 (fun i hi10 ih10 => ?_)
    intro bf ebf
    subst ebf
    have hpl := popN_le (rowB i &&& d)
    refine x_iload_n dX0_tellWinners_10 rfl ?_
    refine x_sipush 495 dX0_tellWinners_11 (by decide) ?_
    refine x_icmp_ge dX0_tellWinners_14 (fun c14 => ?_) (fun c14 => ?_)
    · have c14 : 495 ≤ (nI i) := c14
      have c14n := (nI_leI (a := 495) (b := i) (by omega) (by omega)).mp c14
      have hxc14 : i = 495 := by omega
      try rw [hxc14]
      rw [← hQ]
      refine x_vret dX0_tellWinners_58 rfl (Nat.le_of_ble_eq_true rfl) (Nat.le_of_ble_eq_true rfl) ?_
      exact ⟨rfl, rfl⟩
    · have c14 : ¬ (495 ≤ (nI i)) := c14
      have c14n := mt (nI_leI (a := 495) (b := i) (by omega) (by omega)).mpr c14
      refine x_aload_n dX0_tellWinners_17 rfl ?_
      refine x_get dX0_tellWinners_18 0 1 inX0 fl_X0_34 rfl rfl (by decide) rfl ?_
      refine x_get dX0_tellWinners_21 3 0 inX5 fl_X0_68 rfl rfl (by decide) rfl ?_
      refine x_iload_n dX0_tellWinners_24 rfl ?_
      refine x_iald dX0_tellWinners_25 4 i rfl (rfl) (by omega) (by decide) ?_
      refine x_iload_n dX0_tellWinners_26 rfl ?_
      refine x_iand dX0_tellWinners_27 ?_
      refine x_rei (nI ((rowB i) &&& d)) (nI_iand (rowB i) d) ?_
      refine x_cSi dX0_tellWinners_28 ml_X0_135 mJ6_bitCount_0f7a4 (ct_bitCount_n κ.2.1 g ((rowB i) &&& d) (by first | exact and_lt (by decide) | exact and_ltl (rowB_lt _) | exact rowB_lt _ | omega)) rfl (Nat.le_of_ble_eq_true rfl) (by decide) (Nat.le_refl _) (Nat.le_refl _) ?_
      refine x_istore_n (lv' := [some (.ref aC), some (.int (nI d)), some (.int (nI i)), some (.int (nI (popN ((rowB i) &&& d))))]) dX0_tellWinners_31 (xlt rfl) rfl ?_
      refine x_iload_n dX0_tellWinners_32 rfl ?_
      refine x_iconst 4 dX0_tellWinners_33 (by decide) ?_
      have J34_3 : ∀ (v2 : Nat → Nat), v2 = (if 4 < (nI (popN ((rowB i) &&& d))) then winT cr d i else updN (winT cr d i) (popN ((rowB i) &&& d)) (((winT cr d i) (popN ((rowB i) &&& d))) + (cr i))) → Xs κ g 2 0 0 cX0_tellWinners yX0_tellWinners none Q 0 0 52 [some (.ref aC), some (.int (nI d)), some (.int (nI i)), some (.int (nI (popN ((rowB i) &&& d))))] [] [(aC, .inr (0, [.ref aS, .ref aL, .ref aV, .ref aO, .ref aCs, .ref aCl, .ref aCh, .ref aCw, .ref aCc, .ref aCb, .int (nI tot), .int (nI lat), .int se, .int sw])), (aCc, .inl (g.2.1 0, 495, .inl (nIf cr))), (aCb, .inl (g.2.1 0, 5, .inl (nIf v2))), (aL, .inr (5, [.ref aLb, .ref aLp])), (aLb, .inl (g.2.1 0, 495, .inl (nIf rowB)))] := by
        intro v2 ev2
        refine x_iinc (lv' := [some (.ref aC), some (.int (nI d)), some (.int (nI (i + 1))), some (.int (nI (popN ((rowB i) &&& d))))]) (nI (i + 1)) dX0_tellWinners_52 rfl (nI_addc i 1 rfl) rfl ?_
        refine x_goto dX0_tellWinners_55 ?_
        refine x_fgt (lv' := [some (.ref aC), some (.int (nI d)), some (.int (nI (i + 1))), none]) ⟨Or.inr rfl, Or.inr rfl, Or.inr rfl, Or.inl rfl, trivial⟩ ?_
        exact ih10 (by omega) v2 (by simp only [ev2]; exact winT_step cr d i)
      refine x_icmp_gt dX0_tellWinners_34 (fun c34 => ?_) (fun c34 => ?_)
      · have c34 : 4 < (nI (popN ((rowB i) &&& d))) := c34
        have c34n := (nI_ltI (a := 4) (b := (popN ((rowB i) &&& d))) (by omega) (by omega)).mp c34
        exact J34_3 (winT cr d i) (if_pos c34).symm
      · have c34 : ¬ (4 < (nI (popN ((rowB i) &&& d)))) := c34
        have c34n := mt (nI_ltI (a := 4) (b := (popN ((rowB i) &&& d))) (by omega) (by omega)).mpr c34
        refine x_aload_n dX0_tellWinners_37 rfl ?_
        refine x_get dX0_tellWinners_38 0 9 inX0 fl_X0_27 rfl rfl (by decide) rfl ?_
        refine x_iload_n dX0_tellWinners_41 rfl ?_
        refine x_dup2 dX0_tellWinners_42 rfl rfl ?_
        refine x_iald dX0_tellWinners_43 2 (popN ((rowB i) &&& d)) rfl (rfl) (by omega) (by decide) ?_
        refine x_aload_n dX0_tellWinners_44 rfl ?_
        refine x_get dX0_tellWinners_45 0 8 inX0 fl_X0_24 rfl rfl (by decide) rfl ?_
        refine x_iload_n dX0_tellWinners_48 rfl ?_
        refine x_iald dX0_tellWinners_49 1 i rfl (rfl) (by omega) (by decide) ?_
        refine x_iadd dX0_tellWinners_50 ?_
        refine x_rei (nI (((winT cr d i) (popN ((rowB i) &&& d))) + (cr i))) (nI_iadd ((winT cr d i) (popN ((rowB i) &&& d))) (cr i)) ?_
        refine x_iast (ws' := [(aC, .inr (0, [.ref aS, .ref aL, .ref aV, .ref aO, .ref aCs, .ref aCl, .ref aCh, .ref aCw, .ref aCc, .ref aCb, .int (nI tot), .int (nI lat), .int se, .int sw])), (aCc, .inl (g.2.1 0, 495, .inl (nIf cr))), (aCb, .inl (g.2.1 0, 5, .inl (nIf (updN (winT cr d i) (popN ((rowB i) &&& d)) (((winT cr d i) (popN ((rowB i) &&& d))) + (cr i)))))), (aL, .inr (5, [.ref aLb, .ref aLp])), (aLb, .inl (g.2.1 0, 495, .inl (nIf rowB)))]) dX0_tellWinners_51 2 (popN ((rowB i) &&& d)) rfl (rfl) (by omega) (by decide) (by rw [upd_nIf]; rfl) ?_
        exact J34_3 (updN (winT cr d i) (popN ((rowB i) &&& d)) (((winT cr d i) (popN ((rowB i) &&& d))) + (cr i))) (if_neg c34).symm
  exact L10_1 0 (Nat.zero_le _) (fun _ => 0) (by funext r; simp [winT, sumN])

-- == X6_enterWeek ==
theorem dX6_enterWeek_0 : xd cX6_enterWeek 0 (.aload_n 0) 1 1 := ⟨by decide +kernel, rfl⟩
theorem dX6_enterWeek_1 : xd cX6_enterWeek 1 (.invokevirtual 72) 3 4 := ⟨by decide +kernel, rfl⟩
theorem dX6_enterWeek_4 : xj cX6_enterWeek 4 (.ifCond .eq) 7 8 := ⟨4, by decide +kernel, rfl, by decide⟩
theorem dX6_enterWeek_7 : xd cX6_enterWeek 7 .return_ 1 8 := ⟨by decide +kernel, rfl⟩
theorem dX6_enterWeek_8 : xd cX6_enterWeek 8 (.aload_n 0) 1 9 := ⟨by decide +kernel, rfl⟩
theorem dX6_enterWeek_9 : xd cX6_enterWeek 9 (.getfield 55) 3 12 := ⟨by decide +kernel, rfl⟩
theorem dX6_enterWeek_12 : xd cX6_enterWeek 12 (.bipush 8) 2 14 := ⟨by decide +kernel, rfl⟩
theorem dX6_enterWeek_14 : xd cX6_enterWeek 14 .imul 1 15 := ⟨by decide +kernel, rfl⟩
theorem dX6_enterWeek_15 : xd cX6_enterWeek 15 (.istore_n 3) 1 16 := ⟨by decide +kernel, rfl⟩
theorem dX6_enterWeek_16 : xd cX6_enterWeek 16 (.aload_n 0) 1 17 := ⟨by decide +kernel, rfl⟩
theorem dX6_enterWeek_17 : xd cX6_enterWeek 17 (.aload_n 0) 1 18 := ⟨by decide +kernel, rfl⟩
theorem dX6_enterWeek_18 : xd cX6_enterWeek 18 (.getfield 27) 3 21 := ⟨by decide +kernel, rfl⟩
theorem dX6_enterWeek_21 : xd cX6_enterWeek 21 (.bipush 7) 2 23 := ⟨by decide +kernel, rfl⟩
theorem dX6_enterWeek_23 : xd cX6_enterWeek 23 .iaload 1 24 := ⟨by decide +kernel, rfl⟩
theorem dX6_enterWeek_24 : xd cX6_enterWeek 24 .i2l 1 25 := ⟨by decide +kernel, rfl⟩
theorem dX6_enterWeek_25 : xd cX6_enterWeek 25 (.aload_n 2) 1 26 := ⟨by decide +kernel, rfl⟩
theorem dX6_enterWeek_26 : xd cX6_enterWeek 26 (.getfield 76) 3 29 := ⟨by decide +kernel, rfl⟩
theorem dX6_enterWeek_29 : xd cX6_enterWeek 29 .i2l 1 30 := ⟨by decide +kernel, rfl⟩
theorem dX6_enterWeek_30 : xd cX6_enterWeek 30 (.invokevirtual 81) 3 33 := ⟨by decide +kernel, rfl⟩
theorem dX6_enterWeek_33 : xd cX6_enterWeek 33 (.lstore 4) 2 35 := ⟨by decide +kernel, rfl⟩
theorem dX6_enterWeek_35 : xd cX6_enterWeek 35 (.lload 4) 2 37 := ⟨by decide +kernel, rfl⟩
theorem dX6_enterWeek_37 : xd cX6_enterWeek 37 (.lstore 6) 2 39 := ⟨by decide +kernel, rfl⟩
theorem dX6_enterWeek_39 : xd cX6_enterWeek 39 (.aload_n 2) 1 40 := ⟨by decide +kernel, rfl⟩
theorem dX6_enterWeek_40 : xd cX6_enterWeek 40 (.iload_n 1) 1 41 := ⟨by decide +kernel, rfl⟩
theorem dX6_enterWeek_41 : xd cX6_enterWeek 41 (.invokevirtual 85) 3 44 := ⟨by decide +kernel, rfl⟩
theorem dX6_enterWeek_44 : xd cX6_enterWeek 44 (.iconst 4) 1 45 := ⟨by decide +kernel, rfl⟩
theorem dX6_enterWeek_45 : xd cX6_enterWeek 45 (.istore 8) 2 47 := ⟨by decide +kernel, rfl⟩
theorem dX6_enterWeek_47 : xd cX6_enterWeek 47 (.iload 8) 2 49 := ⟨by decide +kernel, rfl⟩
theorem dX6_enterWeek_49 : xd cX6_enterWeek 49 (.iconst 2) 1 50 := ⟨by decide +kernel, rfl⟩
theorem dX6_enterWeek_50 : xj cX6_enterWeek 50 (.if_icmp .lt) 53 130 := ⟨80, by decide +kernel, rfl, by decide⟩
theorem dX6_enterWeek_53 : xd cX6_enterWeek 53 (.aload_n 2) 1 54 := ⟨by decide +kernel, rfl⟩
theorem dX6_enterWeek_54 : xd cX6_enterWeek 54 (.getfield 89) 3 57 := ⟨by decide +kernel, rfl⟩
theorem dX6_enterWeek_57 : xd cX6_enterWeek 57 (.iload 8) 2 59 := ⟨by decide +kernel, rfl⟩
theorem dX6_enterWeek_59 : xd cX6_enterWeek 59 .iaload 1 60 := ⟨by decide +kernel, rfl⟩
theorem dX6_enterWeek_60 : xd cX6_enterWeek 60 (.istore 9) 2 62 := ⟨by decide +kernel, rfl⟩
theorem dX6_enterWeek_62 : xd cX6_enterWeek 62 (.iload 9) 2 64 := ⟨by decide +kernel, rfl⟩
theorem dX6_enterWeek_64 : xj cX6_enterWeek 64 (.ifCond .le) 67 82 := ⟨18, by decide +kernel, rfl, by decide⟩
theorem dX6_enterWeek_67 : xd cX6_enterWeek 67 (.aload_n 0) 1 68 := ⟨by decide +kernel, rfl⟩
theorem dX6_enterWeek_68 : xd cX6_enterWeek 68 (.iload 8) 2 70 := ⟨by decide +kernel, rfl⟩
theorem dX6_enterWeek_70 : xd cX6_enterWeek 70 (.lload 4) 2 72 := ⟨by decide +kernel, rfl⟩
theorem dX6_enterWeek_72 : xd cX6_enterWeek 72 (.invokevirtual 92) 3 75 := ⟨by decide +kernel, rfl⟩
theorem dX6_enterWeek_75 : xd cX6_enterWeek 75 (.iload 9) 2 77 := ⟨by decide +kernel, rfl⟩
theorem dX6_enterWeek_77 : xd cX6_enterWeek 77 .i2l 1 78 := ⟨by decide +kernel, rfl⟩
theorem dX6_enterWeek_78 : xd cX6_enterWeek 78 .ldiv 1 79 := ⟨by decide +kernel, rfl⟩
theorem dX6_enterWeek_79 : xj cX6_enterWeek 79 .goto 82 83 := ⟨4, by decide +kernel, rfl, by decide⟩
theorem dX6_enterWeek_82 : xd cX6_enterWeek 82 (.lconst 0) 1 83 := ⟨by decide +kernel, rfl⟩
theorem dX6_enterWeek_83 : xd cX6_enterWeek 83 (.lstore 10) 2 85 := ⟨by decide +kernel, rfl⟩
theorem dX6_enterWeek_85 : xd cX6_enterWeek 85 (.lload 6) 2 87 := ⟨by decide +kernel, rfl⟩
theorem dX6_enterWeek_87 : xd cX6_enterWeek 87 (.lload 10) 2 89 := ⟨by decide +kernel, rfl⟩
theorem dX6_enterWeek_89 : xd cX6_enterWeek 89 (.iload 9) 2 91 := ⟨by decide +kernel, rfl⟩
theorem dX6_enterWeek_91 : xd cX6_enterWeek 91 .i2l 1 92 := ⟨by decide +kernel, rfl⟩
theorem dX6_enterWeek_92 : xd cX6_enterWeek 92 .lmul 1 93 := ⟨by decide +kernel, rfl⟩
theorem dX6_enterWeek_93 : xd cX6_enterWeek 93 .lsub 1 94 := ⟨by decide +kernel, rfl⟩
theorem dX6_enterWeek_94 : xd cX6_enterWeek 94 (.lstore 6) 2 96 := ⟨by decide +kernel, rfl⟩
theorem dX6_enterWeek_96 : xd cX6_enterWeek 96 (.aload_n 0) 1 97 := ⟨by decide +kernel, rfl⟩
theorem dX6_enterWeek_97 : xd cX6_enterWeek 97 (.getfield 30) 3 100 := ⟨by decide +kernel, rfl⟩
theorem dX6_enterWeek_100 : xd cX6_enterWeek 100 (.iload_n 3) 1 101 := ⟨by decide +kernel, rfl⟩
theorem dX6_enterWeek_101 : xd cX6_enterWeek 101 (.iconst 5) 1 102 := ⟨by decide +kernel, rfl⟩
theorem dX6_enterWeek_102 : xd cX6_enterWeek 102 .iadd 1 103 := ⟨by decide +kernel, rfl⟩
theorem dX6_enterWeek_103 : xd cX6_enterWeek 103 (.iload 8) 2 105 := ⟨by decide +kernel, rfl⟩
theorem dX6_enterWeek_105 : xd cX6_enterWeek 105 .isub 1 106 := ⟨by decide +kernel, rfl⟩
theorem dX6_enterWeek_106 : xd cX6_enterWeek 106 (.iload 9) 2 108 := ⟨by decide +kernel, rfl⟩
theorem dX6_enterWeek_108 : xd cX6_enterWeek 108 .iastore 1 109 := ⟨by decide +kernel, rfl⟩
theorem dX6_enterWeek_109 : xd cX6_enterWeek 109 (.aload_n 0) 1 110 := ⟨by decide +kernel, rfl⟩
theorem dX6_enterWeek_110 : xd cX6_enterWeek 110 (.getfield 30) 3 113 := ⟨by decide +kernel, rfl⟩
theorem dX6_enterWeek_113 : xd cX6_enterWeek 113 (.iload_n 3) 1 114 := ⟨by decide +kernel, rfl⟩
theorem dX6_enterWeek_114 : xd cX6_enterWeek 114 (.bipush 8) 2 116 := ⟨by decide +kernel, rfl⟩
theorem dX6_enterWeek_116 : xd cX6_enterWeek 116 .iadd 1 117 := ⟨by decide +kernel, rfl⟩
theorem dX6_enterWeek_117 : xd cX6_enterWeek 117 (.iload 8) 2 119 := ⟨by decide +kernel, rfl⟩
theorem dX6_enterWeek_119 : xd cX6_enterWeek 119 .isub 1 120 := ⟨by decide +kernel, rfl⟩
theorem dX6_enterWeek_120 : xd cX6_enterWeek 120 (.lload 10) 2 122 := ⟨by decide +kernel, rfl⟩
theorem dX6_enterWeek_122 : xd cX6_enterWeek 122 .l2i 1 123 := ⟨by decide +kernel, rfl⟩
theorem dX6_enterWeek_123 : xd cX6_enterWeek 123 .iastore 1 124 := ⟨by decide +kernel, rfl⟩
theorem dX6_enterWeek_124 : xd cX6_enterWeek 124 (.iinc 8 (-1)) 3 127 := ⟨by decide +kernel, rfl⟩
theorem dX6_enterWeek_127 : xj cX6_enterWeek 127 .goto 130 47 := ⟨(-80), by decide +kernel, rfl, by decide⟩
theorem dX6_enterWeek_130 : xd cX6_enterWeek 130 (.aload_n 0) 1 131 := ⟨by decide +kernel, rfl⟩
theorem dX6_enterWeek_131 : xd cX6_enterWeek 131 (.getfield 27) 3 134 := ⟨by decide +kernel, rfl⟩
theorem dX6_enterWeek_134 : xd cX6_enterWeek 134 (.bipush 7) 2 136 := ⟨by decide +kernel, rfl⟩
theorem dX6_enterWeek_136 : xd cX6_enterWeek 136 (.lload 6) 2 138 := ⟨by decide +kernel, rfl⟩
theorem dX6_enterWeek_138 : xd cX6_enterWeek 138 (.lconst 0) 1 139 := ⟨by decide +kernel, rfl⟩
theorem dX6_enterWeek_139 : xd cX6_enterWeek 139 (.invokestatic 96) 3 142 := ⟨by decide +kernel, rfl⟩
theorem dX6_enterWeek_142 : xd cX6_enterWeek 142 (.ldc2_w 101) 3 145 := ⟨by decide +kernel, rfl⟩
theorem dX6_enterWeek_145 : xd cX6_enterWeek 145 (.invokestatic 103) 3 148 := ⟨by decide +kernel, rfl⟩
theorem dX6_enterWeek_148 : xd cX6_enterWeek 148 .l2i 1 149 := ⟨by decide +kernel, rfl⟩
theorem dX6_enterWeek_149 : xd cX6_enterWeek 149 .iastore 1 150 := ⟨by decide +kernel, rfl⟩
theorem dX6_enterWeek_150 : xd cX6_enterWeek 150 (.aload_n 0) 1 151 := ⟨by decide +kernel, rfl⟩
theorem dX6_enterWeek_151 : xd cX6_enterWeek 151 (.getfield 30) 3 154 := ⟨by decide +kernel, rfl⟩
theorem dX6_enterWeek_154 : xd cX6_enterWeek 154 (.iload_n 3) 1 155 := ⟨by decide +kernel, rfl⟩
theorem dX6_enterWeek_155 : xd cX6_enterWeek 155 (.iload_n 1) 1 156 := ⟨by decide +kernel, rfl⟩
theorem dX6_enterWeek_156 : xd cX6_enterWeek 156 .iastore 1 157 := ⟨by decide +kernel, rfl⟩
theorem dX6_enterWeek_157 : xd cX6_enterWeek 157 (.aload_n 0) 1 158 := ⟨by decide +kernel, rfl⟩
theorem dX6_enterWeek_158 : xd cX6_enterWeek 158 (.getfield 30) 3 161 := ⟨by decide +kernel, rfl⟩
theorem dX6_enterWeek_161 : xd cX6_enterWeek 161 (.iload_n 3) 1 162 := ⟨by decide +kernel, rfl⟩
theorem dX6_enterWeek_162 : xd cX6_enterWeek 162 (.bipush 7) 2 164 := ⟨by decide +kernel, rfl⟩
theorem dX6_enterWeek_164 : xd cX6_enterWeek 164 .iadd 1 165 := ⟨by decide +kernel, rfl⟩
theorem dX6_enterWeek_165 : xd cX6_enterWeek 165 (.aload_n 0) 1 166 := ⟨by decide +kernel, rfl⟩
theorem dX6_enterWeek_166 : xd cX6_enterWeek 166 (.getfield 27) 3 169 := ⟨by decide +kernel, rfl⟩
theorem dX6_enterWeek_169 : xd cX6_enterWeek 169 (.bipush 7) 2 171 := ⟨by decide +kernel, rfl⟩
theorem dX6_enterWeek_171 : xd cX6_enterWeek 171 .iaload 1 172 := ⟨by decide +kernel, rfl⟩
theorem dX6_enterWeek_172 : xd cX6_enterWeek 172 .iastore 1 173 := ⟨by decide +kernel, rfl⟩
theorem dX6_enterWeek_173 : xd cX6_enterWeek 173 (.aload_n 0) 1 174 := ⟨by decide +kernel, rfl⟩
theorem dX6_enterWeek_174 : xd cX6_enterWeek 174 .dup 1 175 := ⟨by decide +kernel, rfl⟩
theorem dX6_enterWeek_175 : xd cX6_enterWeek 175 (.getfield 55) 3 178 := ⟨by decide +kernel, rfl⟩
theorem dX6_enterWeek_178 : xd cX6_enterWeek 178 (.iconst 1) 1 179 := ⟨by decide +kernel, rfl⟩
theorem dX6_enterWeek_179 : xd cX6_enterWeek 179 .iadd 1 180 := ⟨by decide +kernel, rfl⟩
theorem dX6_enterWeek_180 : xd cX6_enterWeek 180 (.putfield 55) 3 183 := ⟨by decide +kernel, rfl⟩
theorem dX6_enterWeek_183 : xd cX6_enterWeek 183 .return_ 1 184 := ⟨by decide +kernel, rfl⟩

set_option maxRecDepth 100000 in
set_option maxHeartbeats 4000000 in
theorem ct_X6_enterWeek (l : Launch) (g : XG) (aC aS aL aV aO aCs aCl aCh aCw aCc aCb tot lat : Nat) (se sw : Int32) (aSk aSm aSp aSt aSc aSr aSe gr br cs wk : Nat) (z : Int32) (ru : Nat → Nat) (ce : Nat → Int32) (aLb aLp : Nat) (cr by_ : Nat → Nat) (d : Nat) (hwk : wk < 40) (hd : d < 4096) : Ct l g 3 0 0 yX6_enterWeek cX6_enterWeek 12 none [.ref aS, .int (nI d), .ref aC] [(aS, .inr (6, [.ref aSk, .ref aSm, .ref aSp, .ref aSt, .ref aSc, .ref aSr, .ref aSe, .int (nI gr), .int (nI br), .int (nI cs), .int (nI wk), .int z])), (aSr, .inl (g.2.1 0, 8, .inl (nIf ru))), (aSe, .inl (g.2.1 0, 320, .inl ce)), (aC, .inr (0, [.ref aS, .ref aL, .ref aV, .ref aO, .ref aCs, .ref aCl, .ref aCh, .ref aCw, .ref aCc, .ref aCb, .int (nI tot), .int (nI lat), .int se, .int sw])), (aCc, .inl (g.2.1 0, 495, .inl (nIf cr))), (aCb, .inl (g.2.1 0, 5, .inl (nIf by_))), (aL, .inr (5, [.ref aLb, .ref aLp])), (aLb, .inl (g.2.1 0, 495, .inl (nIf rowB)))] (xpv [(aS, .inr (6, [.ref aSk, .ref aSm, .ref aSp, .ref aSt, .ref aSc, .ref aSr, .ref aSe, .int (nI gr), .int (nI br), .int (nI cs), .int (nI (wk + 1)), .int z])), (aSr, .inl (g.2.1 0, 8, .inl (nIf (updN ru 7 (potE (wkLeft ru tot cr d)))))), (aSe, .inl (g.2.1 0, 320, .inl (wkCells ce wk ru tot cr d))), (aC, .inr (0, [.ref aS, .ref aL, .ref aV, .ref aO, .ref aCs, .ref aCl, .ref aCh, .ref aCw, .ref aCc, .ref aCb, .int (nI tot), .int (nI lat), .int se, .int sw])), (aCc, .inl (g.2.1 0, 495, .inl (nIf cr))), (aCb, .inl (g.2.1 0, 5, .inl (nIf (winN cr d)))), (aL, .inr (5, [.ref aLb, .ref aLp])), (aLb, .inl (g.2.1 0, 495, .inl (nIf rowB)))]) := by
  refine Ct.ofX (lv := [some (.ref aS), some (.int (nI d)), some (.ref aC), none, none, none, none, none, none, none, none, none]) (by decide) rfl (Nat.le_of_ble_eq_true rfl) (fun κ => ?_)
  generalize hQ : xQ κ g 0 0 _ = Q
  refine x_aload_n dX6_enterWeek_0 rfl ?_
  refine x_cVi0 dX6_enterWeek_1 ml_X6_72 mX6_isBookFull (ct_X6_isBookFull κ.2.1 g aS aSk aSm aSp aSt aSc aSr aSe gr br cs wk z (by omega)) [0] rfl rfl 0 rfl rfl rfl (Nat.le_of_ble_eq_true rfl) (by decide) (Nat.le_refl _) (Nat.le_refl _) ?_
  refine x_if_eq dX6_enterWeek_4 (fun c4 => ?_) (fun c4 => ?_)
  rotate_left
  · exact absurd (show bfI wk = 0 from if_pos hwk) c4
  refine x_aload_n dX6_enterWeek_8 rfl ?_
  refine x_get dX6_enterWeek_9 0 10 inX6 fl_X6_55 rfl rfl (by decide) rfl ?_
  refine x_bipush 8 dX6_enterWeek_12 (by decide) ?_
  refine x_imul dX6_enterWeek_14 ?_
  refine x_rei (nI (wk * 8)) (nI_imul wk 8) ?_
  refine x_istore_n (lv' := [some (.ref aS), some (.int (nI d)), some (.ref aC), some (.int (nI (wk * 8))), none, none, none, none, none, none, none, none]) dX6_enterWeek_15 (xlt rfl) rfl ?_
  refine x_aload_n dX6_enterWeek_16 rfl ?_
  refine x_aload_n dX6_enterWeek_17 rfl ?_
  refine x_get dX6_enterWeek_18 0 5 inX6 fl_X6_27 rfl rfl (by decide) rfl ?_
  refine x_bipush 7 dX6_enterWeek_21 (by decide) ?_
  refine x_iald dX6_enterWeek_23 1 7 rfl (rfl) (by decide) (by decide) ?_
  refine x_i2l dX6_enterWeek_24 ?_
  refine x_aload_n dX6_enterWeek_25 rfl ?_
  refine x_get dX6_enterWeek_26 3 10 inX0 fl_X6_76 rfl rfl (by decide) rfl ?_
  refine x_i2l dX6_enterWeek_29 ?_
  refine x_cVl0 dX6_enterWeek_30 ml_X6_81 mX6_potWithIn (ct_X6_potWithIn κ.2.1 g aS aSk aSm aSp aSt aSc aSr aSe gr br cs wk z ru ((nI (ru 7)).toInt64) ((nI tot).toInt64)) [0, 1] rfl rfl 0 rfl rfl rfl (Nat.le_of_ble_eq_true rfl) (by decide) (Nat.le_refl _) (Nat.le_refl _) ?_
  refine x_nml (fun v1 ev1 => ?_)
  refine x_lstore (lv' := [some (.ref aS), some (.int (nI d)), some (.ref aC), some (.int (nI (wk * 8))), some (.long v1), none, none, none, none, none, none, none]) dX6_enterWeek_33 (xlt rfl) rfl ?_
  refine x_lload dX6_enterWeek_35 rfl ?_
  refine x_lstore (lv' := [some (.ref aS), some (.int (nI d)), some (.ref aC), some (.int (nI (wk * 8))), some (.long v1), none, some (.long v1), none, none, none, none, none]) dX6_enterWeek_37 (xlt rfl) rfl ?_
  refine x_aload_n dX6_enterWeek_39 rfl ?_
  refine x_iload_n dX6_enterWeek_40 rfl ?_
  refine x_cVv (ws' := [(aS, .inr (6, [.ref aSk, .ref aSm, .ref aSp, .ref aSt, .ref aSc, .ref aSr, .ref aSe, .int (nI gr), .int (nI br), .int (nI cs), .int (nI wk), .int z])), (aSr, .inl (g.2.1 0, 8, .inl (nIf ru))), (aSe, .inl (g.2.1 0, 320, .inl ce)), (aC, .inr (0, [.ref aS, .ref aL, .ref aV, .ref aO, .ref aCs, .ref aCl, .ref aCh, .ref aCw, .ref aCc, .ref aCb, .int (nI tot), .int (nI lat), .int se, .int sw])), (aCc, .inl (g.2.1 0, 495, .inl (nIf cr))), (aCb, .inl (g.2.1 0, 5, .inl (nIf (winN cr d)))), (aL, .inr (5, [.ref aLb, .ref aLp])), (aLb, .inl (g.2.1 0, 495, .inl (nIf rowB)))]) dX6_enterWeek_41 ml_X6_85 mX0_tellWinners (ct_X0_tellWinners κ.2.1 g aC aS aL aV aO aCs aCl aCh aCw aCc aCb tot lat se sw aLb aLp cr by_ d (hd)) [3, 4, 5, 6, 7] rfl rfl 3 rfl rfl rfl (Nat.le_of_ble_eq_true rfl) (by decide) (Nat.le_refl _) (Nat.le_refl _) (rfl : [aC, aCc, aCb, aL, aLb] = [aC, aCc, aCb, aL, aLb]) rfl ?_
  refine x_iconst 4 dX6_enterWeek_44 (by decide) ?_
  refine x_istore (lv' := [some (.ref aS), some (.int (nI d)), some (.ref aC), some (.int (nI (wk * 8))), some (.long v1), none, some (.long v1), none, some (.int 4), none, none, none]) dX6_enterWeek_45 (xlt rfl) rfl ?_
  refine x_iload dX6_enterWeek_47 rfl ?_
  refine x_iconst 2 dX6_enterWeek_49 (by decide) ?_
  refine x_icmp_lt dX6_enterWeek_50 (fun c50 => ?_) (fun c50 => ?_)
  · exact absurd c50 (by decide)
  refine x_aload_n dX6_enterWeek_53 rfl ?_
  refine x_get dX6_enterWeek_54 3 9 inX0 fl_X6_89 rfl rfl (by decide) rfl ?_
  refine x_iload dX6_enterWeek_57 rfl ?_
  refine x_iald dX6_enterWeek_59 5 4 rfl (rfl) (by decide) (by decide) ?_
  refine x_istore (lv' := [some (.ref aS), some (.int (nI d)), some (.ref aC), some (.int (nI (wk * 8))), some (.long v1), none, some (.long v1), none, some (.int 4), some (.int (nI ((winN cr d) 4))), none, none]) dX6_enterWeek_60 (xlt rfl) rfl ?_
  refine x_iload dX6_enterWeek_62 rfl ?_
  have J64_3 : ∀ (v2 : Int64), v2 = (if (nI ((winN cr d) 4)) ≤ 0 then 0 else (partL ru 4 v1) / ((nI ((winN cr d) 4)).toInt64)) → Xs κ g 3 0 0 cX6_enterWeek yX6_enterWeek none Q 0 0 83 [some (.ref aS), some (.int (nI d)), some (.ref aC), some (.int (nI (wk * 8))), some (.long v1), none, some (.long v1), none, some (.int 4), some (.int (nI ((winN cr d) 4))), none, none] [.long v2] [(aS, .inr (6, [.ref aSk, .ref aSm, .ref aSp, .ref aSt, .ref aSc, .ref aSr, .ref aSe, .int (nI gr), .int (nI br), .int (nI cs), .int (nI wk), .int z])), (aSr, .inl (g.2.1 0, 8, .inl (nIf ru))), (aSe, .inl (g.2.1 0, 320, .inl ce)), (aC, .inr (0, [.ref aS, .ref aL, .ref aV, .ref aO, .ref aCs, .ref aCl, .ref aCh, .ref aCw, .ref aCc, .ref aCb, .int (nI tot), .int (nI lat), .int se, .int sw])), (aCc, .inl (g.2.1 0, 495, .inl (nIf cr))), (aCb, .inl (g.2.1 0, 5, .inl (nIf (winN cr d)))), (aL, .inr (5, [.ref aLb, .ref aLp])), (aLb, .inl (g.2.1 0, 495, .inl (nIf rowB)))] := by
    intro v2 ev2
    refine x_nml (fun v4 ev4 => ?_)
    refine x_lstore (lv' := [some (.ref aS), some (.int (nI d)), some (.ref aC), some (.int (nI (wk * 8))), some (.long v1), none, some (.long v1), none, some (.int 4), some (.int (nI ((winN cr d) 4))), some (.long v4), none]) dX6_enterWeek_83 (xlt rfl) rfl ?_
    refine x_lload dX6_enterWeek_85 rfl ?_
    refine x_lload dX6_enterWeek_87 rfl ?_
    refine x_iload dX6_enterWeek_89 rfl ?_
    refine x_i2l dX6_enterWeek_91 ?_
    refine x_lmul dX6_enterWeek_92 ?_
    refine x_lsub dX6_enterWeek_93 ?_
    refine x_lstore (lv' := [some (.ref aS), some (.int (nI d)), some (.ref aC), some (.int (nI (wk * 8))), some (.long v1), none, some (.long (v1 - (v4 * ((nI ((winN cr d) 4)).toInt64)))), none, some (.int 4), some (.int (nI ((winN cr d) 4))), some (.long v4), none]) dX6_enterWeek_94 (xlt rfl) rfl ?_
    refine x_aload_n dX6_enterWeek_96 rfl ?_
    refine x_get dX6_enterWeek_97 0 6 inX6 fl_X6_30 rfl rfl (by decide) rfl ?_
    refine x_iload_n dX6_enterWeek_100 rfl ?_
    refine x_iconst 5 dX6_enterWeek_101 (by decide) ?_
    refine x_iadd dX6_enterWeek_102 ?_
    refine x_rei (nI ((wk * 8) + 5)) (nI_addc (wk * 8) 5 rfl) ?_
    refine x_iload dX6_enterWeek_103 rfl ?_
    refine x_isub dX6_enterWeek_105 ?_
    refine x_rei (nI (((wk * 8) + 5) - 4)) (nI_isub ((wk * 8) + 5) 4 (by omega)) ?_
    refine x_iload dX6_enterWeek_106 rfl ?_
    refine x_iast (ws' := [(aS, .inr (6, [.ref aSk, .ref aSm, .ref aSp, .ref aSt, .ref aSc, .ref aSr, .ref aSe, .int (nI gr), .int (nI br), .int (nI cs), .int (nI wk), .int z])), (aSr, .inl (g.2.1 0, 8, .inl (nIf ru))), (aSe, .inl (g.2.1 0, 320, .inl (upd ce (((wk * 8) + 5) - 4) (nI ((winN cr d) 4))))), (aC, .inr (0, [.ref aS, .ref aL, .ref aV, .ref aO, .ref aCs, .ref aCl, .ref aCh, .ref aCw, .ref aCc, .ref aCb, .int (nI tot), .int (nI lat), .int se, .int sw])), (aCc, .inl (g.2.1 0, 495, .inl (nIf cr))), (aCb, .inl (g.2.1 0, 5, .inl (nIf (winN cr d)))), (aL, .inr (5, [.ref aLb, .ref aLp])), (aLb, .inl (g.2.1 0, 495, .inl (nIf rowB)))]) dX6_enterWeek_108 2 (((wk * 8) + 5) - 4) rfl (rfl) (by omega) (by decide) rfl ?_
    refine x_aload_n dX6_enterWeek_109 rfl ?_
    refine x_get dX6_enterWeek_110 0 6 inX6 fl_X6_30 rfl rfl (by decide) rfl ?_
    refine x_iload_n dX6_enterWeek_113 rfl ?_
    refine x_bipush 8 dX6_enterWeek_114 (by decide) ?_
    refine x_iadd dX6_enterWeek_116 ?_
    refine x_rei (nI ((wk * 8) + 8)) (nI_addc (wk * 8) 8 rfl) ?_
    refine x_iload dX6_enterWeek_117 rfl ?_
    refine x_isub dX6_enterWeek_119 ?_
    refine x_rei (nI (((wk * 8) + 8) - 4)) (nI_isub ((wk * 8) + 8) 4 (by omega)) ?_
    refine x_lload dX6_enterWeek_120 rfl ?_
    refine x_l2i dX6_enterWeek_122 ?_
    refine x_iast (ws' := [(aS, .inr (6, [.ref aSk, .ref aSm, .ref aSp, .ref aSt, .ref aSc, .ref aSr, .ref aSe, .int (nI gr), .int (nI br), .int (nI cs), .int (nI wk), .int z])), (aSr, .inl (g.2.1 0, 8, .inl (nIf ru))), (aSe, .inl (g.2.1 0, 320, .inl (upd (upd ce (((wk * 8) + 5) - 4) (nI ((winN cr d) 4))) (((wk * 8) + 8) - 4) v4.toInt32))), (aC, .inr (0, [.ref aS, .ref aL, .ref aV, .ref aO, .ref aCs, .ref aCl, .ref aCh, .ref aCw, .ref aCc, .ref aCb, .int (nI tot), .int (nI lat), .int se, .int sw])), (aCc, .inl (g.2.1 0, 495, .inl (nIf cr))), (aCb, .inl (g.2.1 0, 5, .inl (nIf (winN cr d)))), (aL, .inr (5, [.ref aLb, .ref aLp])), (aLb, .inl (g.2.1 0, 495, .inl (nIf rowB)))]) dX6_enterWeek_123 2 (((wk * 8) + 8) - 4) rfl (rfl) (by omega) (by decide) rfl ?_
    refine x_iinc (lv' := [some (.ref aS), some (.int (nI d)), some (.ref aC), some (.int (nI (wk * 8))), some (.long v1), none, some (.long (v1 - (v4 * ((nI ((winN cr d) 4)).toInt64)))), none, some (.int 3), some (.int (nI ((winN cr d) 4))), some (.long v4), none]) (3) dX6_enterWeek_124 rfl (by decide) rfl ?_
    refine x_goto dX6_enterWeek_127 ?_
    refine x_iload dX6_enterWeek_47 rfl ?_
    refine x_iconst 2 dX6_enterWeek_49 (by decide) ?_
    refine x_icmp_lt dX6_enterWeek_50 (fun c50 => ?_) (fun c50 => ?_)
    · exact absurd c50 (by decide)
    refine x_aload_n dX6_enterWeek_53 rfl ?_
    refine x_get dX6_enterWeek_54 3 9 inX0 fl_X6_89 rfl rfl (by decide) rfl ?_
    refine x_iload dX6_enterWeek_57 rfl ?_
    refine x_iald dX6_enterWeek_59 5 3 rfl (rfl) (by decide) (by decide) ?_
    refine x_istore (lv' := [some (.ref aS), some (.int (nI d)), some (.ref aC), some (.int (nI (wk * 8))), some (.long v1), none, some (.long (v1 - (v4 * ((nI ((winN cr d) 4)).toInt64)))), none, some (.int 3), some (.int (nI ((winN cr d) 3))), some (.long v4), none]) dX6_enterWeek_60 (xlt rfl) rfl ?_
    refine x_iload dX6_enterWeek_62 rfl ?_
    have J64_6 : ∀ (v5 : Int64), v5 = (if (nI ((winN cr d) 3)) ≤ 0 then 0 else (partL ru 3 v1) / ((nI ((winN cr d) 3)).toInt64)) → Xs κ g 3 0 0 cX6_enterWeek yX6_enterWeek none Q 0 0 83 [some (.ref aS), some (.int (nI d)), some (.ref aC), some (.int (nI (wk * 8))), some (.long v1), none, some (.long (v1 - (v4 * ((nI ((winN cr d) 4)).toInt64)))), none, some (.int 3), some (.int (nI ((winN cr d) 3))), some (.long v4), none] [.long v5] [(aS, .inr (6, [.ref aSk, .ref aSm, .ref aSp, .ref aSt, .ref aSc, .ref aSr, .ref aSe, .int (nI gr), .int (nI br), .int (nI cs), .int (nI wk), .int z])), (aSr, .inl (g.2.1 0, 8, .inl (nIf ru))), (aSe, .inl (g.2.1 0, 320, .inl (upd (upd ce (((wk * 8) + 5) - 4) (nI ((winN cr d) 4))) (((wk * 8) + 8) - 4) v4.toInt32))), (aC, .inr (0, [.ref aS, .ref aL, .ref aV, .ref aO, .ref aCs, .ref aCl, .ref aCh, .ref aCw, .ref aCc, .ref aCb, .int (nI tot), .int (nI lat), .int se, .int sw])), (aCc, .inl (g.2.1 0, 495, .inl (nIf cr))), (aCb, .inl (g.2.1 0, 5, .inl (nIf (winN cr d)))), (aL, .inr (5, [.ref aLb, .ref aLp])), (aLb, .inl (g.2.1 0, 495, .inl (nIf rowB)))] := by
      intro v5 ev5
      refine x_nml (fun v7 ev7 => ?_)
      refine x_lstore (lv' := [some (.ref aS), some (.int (nI d)), some (.ref aC), some (.int (nI (wk * 8))), some (.long v1), none, some (.long (v1 - (v4 * ((nI ((winN cr d) 4)).toInt64)))), none, some (.int 3), some (.int (nI ((winN cr d) 3))), some (.long v7), none]) dX6_enterWeek_83 (xlt rfl) rfl ?_
      refine x_lload dX6_enterWeek_85 rfl ?_
      refine x_lload dX6_enterWeek_87 rfl ?_
      refine x_iload dX6_enterWeek_89 rfl ?_
      refine x_i2l dX6_enterWeek_91 ?_
      refine x_lmul dX6_enterWeek_92 ?_
      refine x_lsub dX6_enterWeek_93 ?_
      refine x_nml (fun v8 ev8 => ?_)
      refine x_lstore (lv' := [some (.ref aS), some (.int (nI d)), some (.ref aC), some (.int (nI (wk * 8))), some (.long v1), none, some (.long v8), none, some (.int 3), some (.int (nI ((winN cr d) 3))), some (.long v7), none]) dX6_enterWeek_94 (xlt rfl) rfl ?_
      refine x_aload_n dX6_enterWeek_96 rfl ?_
      refine x_get dX6_enterWeek_97 0 6 inX6 fl_X6_30 rfl rfl (by decide) rfl ?_
      refine x_iload_n dX6_enterWeek_100 rfl ?_
      refine x_iconst 5 dX6_enterWeek_101 (by decide) ?_
      refine x_iadd dX6_enterWeek_102 ?_
      refine x_rei (nI ((wk * 8) + 5)) (nI_addc (wk * 8) 5 rfl) ?_
      refine x_iload dX6_enterWeek_103 rfl ?_
      refine x_isub dX6_enterWeek_105 ?_
      refine x_rei (nI (((wk * 8) + 5) - 3)) (nI_isub ((wk * 8) + 5) 3 (by omega)) ?_
      refine x_iload dX6_enterWeek_106 rfl ?_
      refine x_iast (ws' := [(aS, .inr (6, [.ref aSk, .ref aSm, .ref aSp, .ref aSt, .ref aSc, .ref aSr, .ref aSe, .int (nI gr), .int (nI br), .int (nI cs), .int (nI wk), .int z])), (aSr, .inl (g.2.1 0, 8, .inl (nIf ru))), (aSe, .inl (g.2.1 0, 320, .inl (upd (upd (upd ce (((wk * 8) + 5) - 4) (nI ((winN cr d) 4))) (((wk * 8) + 8) - 4) v4.toInt32) (((wk * 8) + 5) - 3) (nI ((winN cr d) 3))))), (aC, .inr (0, [.ref aS, .ref aL, .ref aV, .ref aO, .ref aCs, .ref aCl, .ref aCh, .ref aCw, .ref aCc, .ref aCb, .int (nI tot), .int (nI lat), .int se, .int sw])), (aCc, .inl (g.2.1 0, 495, .inl (nIf cr))), (aCb, .inl (g.2.1 0, 5, .inl (nIf (winN cr d)))), (aL, .inr (5, [.ref aLb, .ref aLp])), (aLb, .inl (g.2.1 0, 495, .inl (nIf rowB)))]) dX6_enterWeek_108 2 (((wk * 8) + 5) - 3) rfl (rfl) (by omega) (by decide) rfl ?_
      refine x_aload_n dX6_enterWeek_109 rfl ?_
      refine x_get dX6_enterWeek_110 0 6 inX6 fl_X6_30 rfl rfl (by decide) rfl ?_
      refine x_iload_n dX6_enterWeek_113 rfl ?_
      refine x_bipush 8 dX6_enterWeek_114 (by decide) ?_
      refine x_iadd dX6_enterWeek_116 ?_
      refine x_rei (nI ((wk * 8) + 8)) (nI_addc (wk * 8) 8 rfl) ?_
      refine x_iload dX6_enterWeek_117 rfl ?_
      refine x_isub dX6_enterWeek_119 ?_
      refine x_rei (nI (((wk * 8) + 8) - 3)) (nI_isub ((wk * 8) + 8) 3 (by omega)) ?_
      refine x_lload dX6_enterWeek_120 rfl ?_
      refine x_l2i dX6_enterWeek_122 ?_
      refine x_iast (ws' := [(aS, .inr (6, [.ref aSk, .ref aSm, .ref aSp, .ref aSt, .ref aSc, .ref aSr, .ref aSe, .int (nI gr), .int (nI br), .int (nI cs), .int (nI wk), .int z])), (aSr, .inl (g.2.1 0, 8, .inl (nIf ru))), (aSe, .inl (g.2.1 0, 320, .inl (upd (upd (upd (upd ce (((wk * 8) + 5) - 4) (nI ((winN cr d) 4))) (((wk * 8) + 8) - 4) v4.toInt32) (((wk * 8) + 5) - 3) (nI ((winN cr d) 3))) (((wk * 8) + 8) - 3) v7.toInt32))), (aC, .inr (0, [.ref aS, .ref aL, .ref aV, .ref aO, .ref aCs, .ref aCl, .ref aCh, .ref aCw, .ref aCc, .ref aCb, .int (nI tot), .int (nI lat), .int se, .int sw])), (aCc, .inl (g.2.1 0, 495, .inl (nIf cr))), (aCb, .inl (g.2.1 0, 5, .inl (nIf (winN cr d)))), (aL, .inr (5, [.ref aLb, .ref aLp])), (aLb, .inl (g.2.1 0, 495, .inl (nIf rowB)))]) dX6_enterWeek_123 2 (((wk * 8) + 8) - 3) rfl (rfl) (by omega) (by decide) rfl ?_
      refine x_iinc (lv' := [some (.ref aS), some (.int (nI d)), some (.ref aC), some (.int (nI (wk * 8))), some (.long v1), none, some (.long v8), none, some (.int 2), some (.int (nI ((winN cr d) 3))), some (.long v7), none]) (2) dX6_enterWeek_124 rfl (by decide) rfl ?_
      refine x_goto dX6_enterWeek_127 ?_
      refine x_iload dX6_enterWeek_47 rfl ?_
      refine x_iconst 2 dX6_enterWeek_49 (by decide) ?_
      refine x_icmp_lt dX6_enterWeek_50 (fun c50 => ?_) (fun c50 => ?_)
      · exact absurd c50 (by decide)
      refine x_aload_n dX6_enterWeek_53 rfl ?_
      refine x_get dX6_enterWeek_54 3 9 inX0 fl_X6_89 rfl rfl (by decide) rfl ?_
      refine x_iload dX6_enterWeek_57 rfl ?_
      refine x_iald dX6_enterWeek_59 5 2 rfl (rfl) (by decide) (by decide) ?_
      refine x_istore (lv' := [some (.ref aS), some (.int (nI d)), some (.ref aC), some (.int (nI (wk * 8))), some (.long v1), none, some (.long v8), none, some (.int 2), some (.int (nI ((winN cr d) 2))), some (.long v7), none]) dX6_enterWeek_60 (xlt rfl) rfl ?_
      refine x_iload dX6_enterWeek_62 rfl ?_
      have J64_10 : ∀ (v9 : Int64), v9 = (if (nI ((winN cr d) 2)) ≤ 0 then 0 else (partL ru 2 v1) / ((nI ((winN cr d) 2)).toInt64)) → Xs κ g 3 0 0 cX6_enterWeek yX6_enterWeek none Q 0 0 83 [some (.ref aS), some (.int (nI d)), some (.ref aC), some (.int (nI (wk * 8))), some (.long v1), none, some (.long v8), none, some (.int 2), some (.int (nI ((winN cr d) 2))), some (.long v7), none] [.long v9] [(aS, .inr (6, [.ref aSk, .ref aSm, .ref aSp, .ref aSt, .ref aSc, .ref aSr, .ref aSe, .int (nI gr), .int (nI br), .int (nI cs), .int (nI wk), .int z])), (aSr, .inl (g.2.1 0, 8, .inl (nIf ru))), (aSe, .inl (g.2.1 0, 320, .inl (upd (upd (upd (upd ce (((wk * 8) + 5) - 4) (nI ((winN cr d) 4))) (((wk * 8) + 8) - 4) v4.toInt32) (((wk * 8) + 5) - 3) (nI ((winN cr d) 3))) (((wk * 8) + 8) - 3) v7.toInt32))), (aC, .inr (0, [.ref aS, .ref aL, .ref aV, .ref aO, .ref aCs, .ref aCl, .ref aCh, .ref aCw, .ref aCc, .ref aCb, .int (nI tot), .int (nI lat), .int se, .int sw])), (aCc, .inl (g.2.1 0, 495, .inl (nIf cr))), (aCb, .inl (g.2.1 0, 5, .inl (nIf (winN cr d)))), (aL, .inr (5, [.ref aLb, .ref aLp])), (aLb, .inl (g.2.1 0, 495, .inl (nIf rowB)))] := by
        intro v9 ev9
        refine x_nml (fun v11 ev11 => ?_)
        refine x_lstore (lv' := [some (.ref aS), some (.int (nI d)), some (.ref aC), some (.int (nI (wk * 8))), some (.long v1), none, some (.long v8), none, some (.int 2), some (.int (nI ((winN cr d) 2))), some (.long v11), none]) dX6_enterWeek_83 (xlt rfl) rfl ?_
        refine x_lload dX6_enterWeek_85 rfl ?_
        refine x_lload dX6_enterWeek_87 rfl ?_
        refine x_iload dX6_enterWeek_89 rfl ?_
        refine x_i2l dX6_enterWeek_91 ?_
        refine x_lmul dX6_enterWeek_92 ?_
        refine x_lsub dX6_enterWeek_93 ?_
        refine x_lstore (lv' := [some (.ref aS), some (.int (nI d)), some (.ref aC), some (.int (nI (wk * 8))), some (.long v1), none, some (.long (v8 - (v11 * ((nI ((winN cr d) 2)).toInt64)))), none, some (.int 2), some (.int (nI ((winN cr d) 2))), some (.long v11), none]) dX6_enterWeek_94 (xlt rfl) rfl ?_
        refine x_aload_n dX6_enterWeek_96 rfl ?_
        refine x_get dX6_enterWeek_97 0 6 inX6 fl_X6_30 rfl rfl (by decide) rfl ?_
        refine x_iload_n dX6_enterWeek_100 rfl ?_
        refine x_iconst 5 dX6_enterWeek_101 (by decide) ?_
        refine x_iadd dX6_enterWeek_102 ?_
        refine x_rei (nI ((wk * 8) + 5)) (nI_addc (wk * 8) 5 rfl) ?_
        refine x_iload dX6_enterWeek_103 rfl ?_
        refine x_isub dX6_enterWeek_105 ?_
        refine x_rei (nI (((wk * 8) + 5) - 2)) (nI_isub ((wk * 8) + 5) 2 (by omega)) ?_
        refine x_iload dX6_enterWeek_106 rfl ?_
        refine x_iast (ws' := [(aS, .inr (6, [.ref aSk, .ref aSm, .ref aSp, .ref aSt, .ref aSc, .ref aSr, .ref aSe, .int (nI gr), .int (nI br), .int (nI cs), .int (nI wk), .int z])), (aSr, .inl (g.2.1 0, 8, .inl (nIf ru))), (aSe, .inl (g.2.1 0, 320, .inl (upd (upd (upd (upd (upd ce (((wk * 8) + 5) - 4) (nI ((winN cr d) 4))) (((wk * 8) + 8) - 4) v4.toInt32) (((wk * 8) + 5) - 3) (nI ((winN cr d) 3))) (((wk * 8) + 8) - 3) v7.toInt32) (((wk * 8) + 5) - 2) (nI ((winN cr d) 2))))), (aC, .inr (0, [.ref aS, .ref aL, .ref aV, .ref aO, .ref aCs, .ref aCl, .ref aCh, .ref aCw, .ref aCc, .ref aCb, .int (nI tot), .int (nI lat), .int se, .int sw])), (aCc, .inl (g.2.1 0, 495, .inl (nIf cr))), (aCb, .inl (g.2.1 0, 5, .inl (nIf (winN cr d)))), (aL, .inr (5, [.ref aLb, .ref aLp])), (aLb, .inl (g.2.1 0, 495, .inl (nIf rowB)))]) dX6_enterWeek_108 2 (((wk * 8) + 5) - 2) rfl (rfl) (by omega) (by decide) rfl ?_
        refine x_aload_n dX6_enterWeek_109 rfl ?_
        refine x_get dX6_enterWeek_110 0 6 inX6 fl_X6_30 rfl rfl (by decide) rfl ?_
        refine x_iload_n dX6_enterWeek_113 rfl ?_
        refine x_bipush 8 dX6_enterWeek_114 (by decide) ?_
        refine x_iadd dX6_enterWeek_116 ?_
        refine x_rei (nI ((wk * 8) + 8)) (nI_addc (wk * 8) 8 rfl) ?_
        refine x_iload dX6_enterWeek_117 rfl ?_
        refine x_isub dX6_enterWeek_119 ?_
        refine x_rei (nI (((wk * 8) + 8) - 2)) (nI_isub ((wk * 8) + 8) 2 (by omega)) ?_
        refine x_lload dX6_enterWeek_120 rfl ?_
        refine x_l2i dX6_enterWeek_122 ?_
        refine x_iast (ws' := [(aS, .inr (6, [.ref aSk, .ref aSm, .ref aSp, .ref aSt, .ref aSc, .ref aSr, .ref aSe, .int (nI gr), .int (nI br), .int (nI cs), .int (nI wk), .int z])), (aSr, .inl (g.2.1 0, 8, .inl (nIf ru))), (aSe, .inl (g.2.1 0, 320, .inl (upd (upd (upd (upd (upd (upd ce (((wk * 8) + 5) - 4) (nI ((winN cr d) 4))) (((wk * 8) + 8) - 4) v4.toInt32) (((wk * 8) + 5) - 3) (nI ((winN cr d) 3))) (((wk * 8) + 8) - 3) v7.toInt32) (((wk * 8) + 5) - 2) (nI ((winN cr d) 2))) (((wk * 8) + 8) - 2) v11.toInt32))), (aC, .inr (0, [.ref aS, .ref aL, .ref aV, .ref aO, .ref aCs, .ref aCl, .ref aCh, .ref aCw, .ref aCc, .ref aCb, .int (nI tot), .int (nI lat), .int se, .int sw])), (aCc, .inl (g.2.1 0, 495, .inl (nIf cr))), (aCb, .inl (g.2.1 0, 5, .inl (nIf (winN cr d)))), (aL, .inr (5, [.ref aLb, .ref aLp])), (aLb, .inl (g.2.1 0, 495, .inl (nIf rowB)))]) dX6_enterWeek_123 2 (((wk * 8) + 8) - 2) rfl (rfl) (by omega) (by decide) rfl ?_
        refine x_iinc (lv' := [some (.ref aS), some (.int (nI d)), some (.ref aC), some (.int (nI (wk * 8))), some (.long v1), none, some (.long (v8 - (v11 * ((nI ((winN cr d) 2)).toInt64)))), none, some (.int 1), some (.int (nI ((winN cr d) 2))), some (.long v11), none]) (1) dX6_enterWeek_124 rfl (by decide) rfl ?_
        refine x_goto dX6_enterWeek_127 ?_
        refine x_iload dX6_enterWeek_47 rfl ?_
        refine x_iconst 2 dX6_enterWeek_49 (by decide) ?_
        refine x_icmp_lt dX6_enterWeek_50 (fun c50 => ?_) (fun c50 => ?_)
        rotate_left
        · exact absurd c50 (by decide)
        refine x_aload_n dX6_enterWeek_130 rfl ?_
        refine x_get dX6_enterWeek_131 0 5 inX6 fl_X6_27 rfl rfl (by decide) rfl ?_
        refine x_bipush 7 dX6_enterWeek_134 (by decide) ?_
        refine x_lload dX6_enterWeek_136 rfl ?_
        refine x_lconst 0 dX6_enterWeek_138 (by decide) ?_
        refine x_mmaxl dX6_enterWeek_139 ml_X6_96 (Nat.le_of_ble_eq_true rfl) (by decide) (Nat.le_refl _) (Nat.le_refl _) ?_
        refine x_ldc2 dX6_enterWeek_142 kl_X6_101 ?_
        refine x_mminl dX6_enterWeek_145 ml_X6_103 (Nat.le_of_ble_eq_true rfl) (by decide) (Nat.le_refl _) (Nat.le_refl _) ?_
        refine x_l2i dX6_enterWeek_148 ?_
        refine x_rei (nI (potE (v8 - (v11 * ((nI ((winN cr d) 2)).toInt64))))) (potE_eq _) ?_
        refine x_iast (ws' := [(aS, .inr (6, [.ref aSk, .ref aSm, .ref aSp, .ref aSt, .ref aSc, .ref aSr, .ref aSe, .int (nI gr), .int (nI br), .int (nI cs), .int (nI wk), .int z])), (aSr, .inl (g.2.1 0, 8, .inl (nIf (updN ru 7 (potE (v8 - (v11 * ((nI ((winN cr d) 2)).toInt64)))))))), (aSe, .inl (g.2.1 0, 320, .inl (upd (upd (upd (upd (upd (upd ce (((wk * 8) + 5) - 4) (nI ((winN cr d) 4))) (((wk * 8) + 8) - 4) v4.toInt32) (((wk * 8) + 5) - 3) (nI ((winN cr d) 3))) (((wk * 8) + 8) - 3) v7.toInt32) (((wk * 8) + 5) - 2) (nI ((winN cr d) 2))) (((wk * 8) + 8) - 2) v11.toInt32))), (aC, .inr (0, [.ref aS, .ref aL, .ref aV, .ref aO, .ref aCs, .ref aCl, .ref aCh, .ref aCw, .ref aCc, .ref aCb, .int (nI tot), .int (nI lat), .int se, .int sw])), (aCc, .inl (g.2.1 0, 495, .inl (nIf cr))), (aCb, .inl (g.2.1 0, 5, .inl (nIf (winN cr d)))), (aL, .inr (5, [.ref aLb, .ref aLp])), (aLb, .inl (g.2.1 0, 495, .inl (nIf rowB)))]) dX6_enterWeek_149 1 7 rfl (rfl) (by decide) (by decide) (by rw [upd_nIf]; rfl) ?_
        refine x_aload_n dX6_enterWeek_150 rfl ?_
        refine x_get dX6_enterWeek_151 0 6 inX6 fl_X6_30 rfl rfl (by decide) rfl ?_
        refine x_iload_n dX6_enterWeek_154 rfl ?_
        refine x_iload_n dX6_enterWeek_155 rfl ?_
        refine x_iast (ws' := [(aS, .inr (6, [.ref aSk, .ref aSm, .ref aSp, .ref aSt, .ref aSc, .ref aSr, .ref aSe, .int (nI gr), .int (nI br), .int (nI cs), .int (nI wk), .int z])), (aSr, .inl (g.2.1 0, 8, .inl (nIf (updN ru 7 (potE (v8 - (v11 * ((nI ((winN cr d) 2)).toInt64)))))))), (aSe, .inl (g.2.1 0, 320, .inl (upd (upd (upd (upd (upd (upd (upd ce (((wk * 8) + 5) - 4) (nI ((winN cr d) 4))) (((wk * 8) + 8) - 4) v4.toInt32) (((wk * 8) + 5) - 3) (nI ((winN cr d) 3))) (((wk * 8) + 8) - 3) v7.toInt32) (((wk * 8) + 5) - 2) (nI ((winN cr d) 2))) (((wk * 8) + 8) - 2) v11.toInt32) (wk * 8) (nI d)))), (aC, .inr (0, [.ref aS, .ref aL, .ref aV, .ref aO, .ref aCs, .ref aCl, .ref aCh, .ref aCw, .ref aCc, .ref aCb, .int (nI tot), .int (nI lat), .int se, .int sw])), (aCc, .inl (g.2.1 0, 495, .inl (nIf cr))), (aCb, .inl (g.2.1 0, 5, .inl (nIf (winN cr d)))), (aL, .inr (5, [.ref aLb, .ref aLp])), (aLb, .inl (g.2.1 0, 495, .inl (nIf rowB)))]) dX6_enterWeek_156 2 (wk * 8) rfl (rfl) (by omega) (by decide) rfl ?_
        refine x_aload_n dX6_enterWeek_157 rfl ?_
        refine x_get dX6_enterWeek_158 0 6 inX6 fl_X6_30 rfl rfl (by decide) rfl ?_
        refine x_iload_n dX6_enterWeek_161 rfl ?_
        refine x_bipush 7 dX6_enterWeek_162 (by decide) ?_
        refine x_iadd dX6_enterWeek_164 ?_
        refine x_rei (nI ((wk * 8) + 7)) (nI_addc (wk * 8) 7 rfl) ?_
        refine x_aload_n dX6_enterWeek_165 rfl ?_
        refine x_get dX6_enterWeek_166 0 5 inX6 fl_X6_27 rfl rfl (by decide) rfl ?_
        refine x_bipush 7 dX6_enterWeek_169 (by decide) ?_
        refine x_iald dX6_enterWeek_171 1 7 rfl (rfl) (by decide) (by decide) ?_
        refine x_rei (nI (potE (v8 - (v11 * ((nI ((winN cr d) 2)).toInt64))))) (congrArg nI (updN_self _ _ _)) ?_
        refine x_iast (ws' := [(aS, .inr (6, [.ref aSk, .ref aSm, .ref aSp, .ref aSt, .ref aSc, .ref aSr, .ref aSe, .int (nI gr), .int (nI br), .int (nI cs), .int (nI wk), .int z])), (aSr, .inl (g.2.1 0, 8, .inl (nIf (updN ru 7 (potE (v8 - (v11 * ((nI ((winN cr d) 2)).toInt64)))))))), (aSe, .inl (g.2.1 0, 320, .inl (upd (upd (upd (upd (upd (upd (upd (upd ce (((wk * 8) + 5) - 4) (nI ((winN cr d) 4))) (((wk * 8) + 8) - 4) v4.toInt32) (((wk * 8) + 5) - 3) (nI ((winN cr d) 3))) (((wk * 8) + 8) - 3) v7.toInt32) (((wk * 8) + 5) - 2) (nI ((winN cr d) 2))) (((wk * 8) + 8) - 2) v11.toInt32) (wk * 8) (nI d)) ((wk * 8) + 7) (nI (potE (v8 - (v11 * ((nI ((winN cr d) 2)).toInt64)))))))), (aC, .inr (0, [.ref aS, .ref aL, .ref aV, .ref aO, .ref aCs, .ref aCl, .ref aCh, .ref aCw, .ref aCc, .ref aCb, .int (nI tot), .int (nI lat), .int se, .int sw])), (aCc, .inl (g.2.1 0, 495, .inl (nIf cr))), (aCb, .inl (g.2.1 0, 5, .inl (nIf (winN cr d)))), (aL, .inr (5, [.ref aLb, .ref aLp])), (aLb, .inl (g.2.1 0, 495, .inl (nIf rowB)))]) dX6_enterWeek_172 2 ((wk * 8) + 7) rfl (rfl) (by omega) (by decide) rfl ?_
        refine x_aload_n dX6_enterWeek_173 rfl ?_
        refine x_dup dX6_enterWeek_174 rfl ?_
        refine x_get dX6_enterWeek_175 0 10 inX6 fl_X6_55 rfl rfl (by decide) rfl ?_
        refine x_iconst 1 dX6_enterWeek_178 (by decide) ?_
        refine x_iadd dX6_enterWeek_179 ?_
        refine x_rei (nI (wk + 1)) (nI_addc wk 1 rfl) ?_
        refine x_put (ws' := [(aS, .inr (6, [.ref aSk, .ref aSm, .ref aSp, .ref aSt, .ref aSc, .ref aSr, .ref aSe, .int (nI gr), .int (nI br), .int (nI cs), .int (nI (wk + 1)), .int z])), (aSr, .inl (g.2.1 0, 8, .inl (nIf (updN ru 7 (potE (v8 - (v11 * ((nI ((winN cr d) 2)).toInt64)))))))), (aSe, .inl (g.2.1 0, 320, .inl (upd (upd (upd (upd (upd (upd (upd (upd ce (((wk * 8) + 5) - 4) (nI ((winN cr d) 4))) (((wk * 8) + 8) - 4) v4.toInt32) (((wk * 8) + 5) - 3) (nI ((winN cr d) 3))) (((wk * 8) + 8) - 3) v7.toInt32) (((wk * 8) + 5) - 2) (nI ((winN cr d) 2))) (((wk * 8) + 8) - 2) v11.toInt32) (wk * 8) (nI d)) ((wk * 8) + 7) (nI (potE (v8 - (v11 * ((nI ((winN cr d) 2)).toInt64)))))))), (aC, .inr (0, [.ref aS, .ref aL, .ref aV, .ref aO, .ref aCs, .ref aCl, .ref aCh, .ref aCw, .ref aCc, .ref aCb, .int (nI tot), .int (nI lat), .int se, .int sw])), (aCc, .inl (g.2.1 0, 495, .inl (nIf cr))), (aCb, .inl (g.2.1 0, 5, .inl (nIf (winN cr d)))), (aL, .inr (5, [.ref aLb, .ref aLp])), (aLb, .inl (g.2.1 0, 495, .inl (nIf rowB)))]) dX6_enterWeek_180 0 10 inX6 tyX6_ok nmX6 fl_X6_55 rfl rfl (by decide) rfl (rfl) rfl (xlt rfl) rfl ?_
        rw [← hQ]
        refine x_vret dX6_enterWeek_183 rfl (Nat.le_of_ble_eq_true rfl) (Nat.le_of_ble_eq_true rfl) ?_
        simp only [ev8, ev11, ev1, ev4, ev7, ev9, ev2, ev5]
        exact ⟨rfl, rfl⟩
      refine x_if_le dX6_enterWeek_64 (fun c64 => ?_) (fun c64 => ?_)
      · have c64 : (nI ((winN cr d) 2)) ≤ 0 := c64
        refine x_lconst 0 dX6_enterWeek_82 (by decide) ?_
        exact J64_10 _ (if_pos c64).symm
      · have c64 : ¬ ((nI ((winN cr d) 2)) ≤ 0) := c64
        refine x_aload_n dX6_enterWeek_67 rfl ?_
        refine x_iload dX6_enterWeek_68 rfl ?_
        refine x_lload dX6_enterWeek_70 rfl ?_
        refine x_cVl0 dX6_enterWeek_72 ml_X6_92 mX6_rankPart (ct_X6_rankPart κ.2.1 g aS aSk aSm aSp aSt aSc aSr aSe gr br cs wk z ru 2 v1 (by decide)) [0, 1] rfl rfl 0 rfl rfl rfl (Nat.le_of_ble_eq_true rfl) (by decide) (Nat.le_refl _) (Nat.le_refl _) ?_
        refine x_iload dX6_enterWeek_75 rfl ?_
        refine x_i2l dX6_enterWeek_77 ?_
        refine x_ldiv dX6_enterWeek_78 (i64_ne0 c64) ?_
        refine x_goto dX6_enterWeek_79 ?_
        exact J64_10 _ (by rw [if_neg c64]; try simp only [ev1])
    refine x_if_le dX6_enterWeek_64 (fun c64 => ?_) (fun c64 => ?_)
    · have c64 : (nI ((winN cr d) 3)) ≤ 0 := c64
      refine x_lconst 0 dX6_enterWeek_82 (by decide) ?_
      exact J64_6 _ (if_pos c64).symm
    · have c64 : ¬ ((nI ((winN cr d) 3)) ≤ 0) := c64
      refine x_aload_n dX6_enterWeek_67 rfl ?_
      refine x_iload dX6_enterWeek_68 rfl ?_
      refine x_lload dX6_enterWeek_70 rfl ?_
      refine x_cVl0 dX6_enterWeek_72 ml_X6_92 mX6_rankPart (ct_X6_rankPart κ.2.1 g aS aSk aSm aSp aSt aSc aSr aSe gr br cs wk z ru 3 v1 (by decide)) [0, 1] rfl rfl 0 rfl rfl rfl (Nat.le_of_ble_eq_true rfl) (by decide) (Nat.le_refl _) (Nat.le_refl _) ?_
      refine x_iload dX6_enterWeek_75 rfl ?_
      refine x_i2l dX6_enterWeek_77 ?_
      refine x_ldiv dX6_enterWeek_78 (i64_ne0 c64) ?_
      refine x_goto dX6_enterWeek_79 ?_
      exact J64_6 _ (by rw [if_neg c64]; try simp only [ev1])
  refine x_if_le dX6_enterWeek_64 (fun c64 => ?_) (fun c64 => ?_)
  · have c64 : (nI ((winN cr d) 4)) ≤ 0 := c64
    refine x_lconst 0 dX6_enterWeek_82 (by decide) ?_
    exact J64_3 _ (if_pos c64).symm
  · have c64 : ¬ ((nI ((winN cr d) 4)) ≤ 0) := c64
    refine x_aload_n dX6_enterWeek_67 rfl ?_
    refine x_iload dX6_enterWeek_68 rfl ?_
    refine x_lload dX6_enterWeek_70 rfl ?_
    refine x_cVl0 dX6_enterWeek_72 ml_X6_92 mX6_rankPart (ct_X6_rankPart κ.2.1 g aS aSk aSm aSp aSt aSc aSr aSe gr br cs wk z ru 4 v1 (by decide)) [0, 1] rfl rfl 0 rfl rfl rfl (Nat.le_of_ble_eq_true rfl) (by decide) (Nat.le_refl _) (Nat.le_refl _) ?_
    refine x_iload dX6_enterWeek_75 rfl ?_
    refine x_i2l dX6_enterWeek_77 ?_
    refine x_ldiv dX6_enterWeek_78 (i64_ne0 c64) ?_
    refine x_goto dX6_enterWeek_79 ?_
    exact J64_3 _ (by rw [if_neg c64]; try simp only [ev1])

