
theorem wI_s {n : Nat} (h : n ≤ 6) : wI (nI n) (-1) 6 = 1 := by
  rcases (by omega : n = 0 ∨ n = 1 ∨ n = 2 ∨ n = 3 ∨ n = 4 ∨ n = 5 ∨ n = 6) with rfl | rfl | rfl | rfl | rfl | rfl | rfl <;> decide

-- == isPeople_n ==
set_option maxRecDepth 100000 in
set_option maxHeartbeats 4000000 in
theorem ct_isPeople_n (l : Launch) (g : XG) (aM aS aK aL aC aW aR aT aH aF : Nat) (ts : Nat) (kp : Int32) (aSk aSm aSp aSt aSc aSr aSe gr br cs wk : Nat) (z : Int32) (q : Nat) (hq : q < gr ∧ gr ≤ 12) : Ct l g 2 0 0 yX8_isPeople cX8_isPeople 2 (some .boolean) [.ref aM, .int (nI q)] [(aM, .inr (8, [.ref aS, .ref aK, .ref aL, .ref aC, .ref aW, .ref aR, .ref aT, .ref aH, .ref aF, .int (nI ts), .int kp])), (aS, .inr (6, [.ref aSk, .ref aSm, .ref aSp, .ref aSt, .ref aSc, .ref aSr, .ref aSe, .int (nI gr), .int (nI br), .int (nI cs), .int (nI wk), .int z]))] (xpi (1) [(aM, .inr (8, [.ref aS, .ref aK, .ref aL, .ref aC, .ref aW, .ref aR, .ref aT, .ref aH, .ref aF, .int (nI ts), .int kp])), (aS, .inr (6, [.ref aSk, .ref aSm, .ref aSp, .ref aSt, .ref aSc, .ref aSr, .ref aSe, .int (nI gr), .int (nI br), .int (nI cs), .int (nI wk), .int z]))]) := by
  refine Ct.ofX (lv := [some (.ref aM), some (.int (nI q))]) (by decide) rfl (Nat.le_of_ble_eq_true rfl) (fun κ => ?_)
  generalize hQ : xQ κ g 0 0 _ = Q
  refine x_iload_n dX8_isPeople_0 rfl ?_
  refine x_iconst 0 dX8_isPeople_1 (by decide) ?_
  refine x_aload_n dX8_isPeople_2 rfl ?_
  refine x_get dX8_isPeople_3 0 0 inX8 fl_X8_10 rfl rfl (by decide) rfl ?_
  refine x_get dX8_isPeople_6 1 7 inX6 fl_X8_94 rfl rfl (by decide) rfl ?_
  refine x_iconst 1 dX8_isPeople_9 (by decide) ?_
  refine x_isub dX8_isPeople_10 ?_
  refine x_rei (nI (gr - 1)) (nI_isub gr 1 (by omega)) ?_
  refine x_cSi dX8_isPeople_11 ml_X8_89 mX8_within (ct_within_n κ.2.1 g q 0 (gr - 1) (⟨by omega, by omega, by omega, by omega⟩)) rfl (Nat.le_of_ble_eq_true rfl) (by decide) (Nat.le_refl _) (Nat.le_refl _) ?_
  rw [← hQ]
  refine x_zret dX8_isPeople_14 rfl (rfl) (Nat.le_of_ble_eq_true rfl) (Nat.le_of_ble_eq_true rfl) ?_
  exact ⟨rfl, rfl⟩

-- == isNumber_n ==
theorem ct_isNumber_n (l : Launch) (g : XG) (n : Nat) (hn : n < 12) : Ct l g 2 0 0 yX8_isNumber cX8_isNumber 1 (some .boolean) [.int (nI n)] [] (xpi (1) []) := by
  have h := ct_X8_isNumber l g (nI n)
  rw [show wI (nI n) 0 11 = 1 from wI_nat (a := 0) (b := 11) ⟨Nat.zero_le _, by omega, by omega, by decide⟩] at h
  exact h

-- == isSheet_n ==
theorem ct_isSheet_n (l : Launch) (g : XG) (n : Nat) (hn : n < 4) : Ct l g 2 0 0 yX8_isSheet cX8_isSheet 1 (some .boolean) [.int (nI n)] [] (xpi (1) []) := by
  have h := ct_X8_isSheet l g (nI n)
  rw [show wI (nI n) 0 3 = 1 from wI_nat (a := 0) (b := 3) ⟨Nat.zero_le _, by omega, by omega, by decide⟩] at h
  exact h

-- == within_s ==
theorem ct_within_s (l : Launch) (g : XG) (n : Nat) (hn : n ≤ 6) : Ct l g 1 0 0 yX8_within cX8_within 3 (some .boolean) [.int (nI n), .int ((-1)), .int 6] [] (xpi (1) []) := by
  have h := ct_X8_within l g (nI n) (-1) 6
  rw [show wI (nI n) (-1) 6 = 1 from wI_s hn] at h
  exact h

-- == within_t ==
theorem ct_within_t (l : Launch) (g : XG)  : Ct l g 1 0 0 yX8_within cX8_within 3 (some .boolean) [.int ((-1)), .int ((-1)), .int 6] [] (xpi (1) []) := by
  exact ct_X8_within l g (-1) (-1) 6

-- == place_b ==
theorem dX8_place_0 : xd cX8_place 0 (.iload_n 1) 1 1 := ⟨by decide +kernel, rfl⟩
theorem dX8_place_1 : xd cX8_place 1 .i2l 1 2 := ⟨by decide +kernel, rfl⟩
theorem dX8_place_2 : xd cX8_place 2 (.invokestatic 71) 3 5 := ⟨by decide +kernel, rfl⟩
theorem dX8_place_5 : xj cX8_place 5 (.ifCond .eq) 8 15 := ⟨10, by decide +kernel, rfl, by decide⟩
theorem dX8_place_8 : xd cX8_place 8 (.iload_n 1) 1 9 := ⟨by decide +kernel, rfl⟩
theorem dX8_place_9 : xd cX8_place 9 (.invokestatic 75) 3 12 := ⟨by decide +kernel, rfl⟩
theorem dX8_place_12 : xj cX8_place 12 .goto 15 20 := ⟨8, by decide +kernel, rfl, by decide⟩
theorem dX8_place_15 : xd cX8_place 15 (.aload_n 0) 1 16 := ⟨by decide +kernel, rfl⟩
theorem dX8_place_16 : xd cX8_place 16 (.iconst 0) 1 17 := ⟨by decide +kernel, rfl⟩
theorem dX8_place_17 : xd cX8_place 17 (.invokevirtual 79) 3 20 := ⟨by decide +kernel, rfl⟩
theorem dX8_place_20 : xd cX8_place 20 .ireturn 1 21 := ⟨by decide +kernel, rfl⟩

set_option maxRecDepth 100000 in
set_option maxHeartbeats 4000000 in
theorem ct_place_b (l : Launch) (g : XG) (aM aS aK aL aC aW aR aT aH aF : Nat) (ts : Nat) (kp : Int32) (aSk aSm aSp aSt aSc aSr aSe gr br cs wk : Nat) (z : Int32) (fi : Nat → Nat) (rw_ : Int32) (hb : isRowI rw_.toInt64 = 0) : Ct l g 10 0 0 yX8_place cX8_place 2 (some .int) [.ref aM, .int rw_] [(aM, .inr (8, [.ref aS, .ref aK, .ref aL, .ref aC, .ref aW, .ref aR, .ref aT, .ref aH, .ref aF, .int (nI ts), .int kp])), (aF, .inl (g.2.1 0, 7, .inl (nIf fi))), (aS, .inr (6, [.ref aSk, .ref aSm, .ref aSp, .ref aSt, .ref aSc, .ref aSr, .ref aSe, .int (nI gr), .int (nI br), .int (nI cs), .int (nI wk), .int z]))] (xpi (fndI 0) [(aM, .inr (8, [.ref aS, .ref aK, .ref aL, .ref aC, .ref aW, .ref aR, .ref aT, .ref aH, .ref aF, .int (nI ts), .int kp])), (aF, .inl (g.2.1 0, 7, .inl (nIf (updN fi 0 (fi 0 + 1))))), (aS, .inr (6, [.ref aSk, .ref aSm, .ref aSp, .ref aSt, .ref aSc, .ref aSr, .ref aSe, .int (nI gr), .int (nI br), .int (nI cs), .int (nI wk), .int z]))]) := by
  refine Ct.ofX (lv := [some (.ref aM), some (.int rw_)]) (by decide) rfl (Nat.le_of_ble_eq_true rfl) (fun κ => ?_)
  generalize hQ : xQ κ g 0 0 _ = Q
  refine x_iload_n dX8_place_0 rfl ?_
  refine x_i2l dX8_place_1 ?_
  refine x_cSi dX8_place_2 ml_X8_71 mX8_isRow (ct_X8_isRow κ.2.1 g rw_.toInt64) rfl (Nat.le_of_ble_eq_true rfl) (by decide) (Nat.le_refl _) (Nat.le_refl _) ?_
  refine x_if_eq dX8_place_5 (fun c5 => ?_) (fun c5 => ?_)
  · have c5 : (isRowI rw_.toInt64) = 0 := c5
    refine x_aload_n dX8_place_15 rfl ?_
    refine x_iconst 0 dX8_place_16 (by decide) ?_
    refine x_cVi (ws' := [(aM, .inr (8, [.ref aS, .ref aK, .ref aL, .ref aC, .ref aW, .ref aR, .ref aT, .ref aH, .ref aF, .int (nI ts), .int kp])), (aF, .inl (g.2.1 0, 7, .inl (nIf (updN fi 0 (fi 0 + 1))))), (aS, .inr (6, [.ref aSk, .ref aSm, .ref aSp, .ref aSt, .ref aSc, .ref aSr, .ref aSe, .int (nI gr), .int (nI br), .int (nI cs), .int (nI wk), .int z]))]) dX8_place_17 ml_X8_79 mX8_tell (ct_X8_tell κ.2.1 g aM aS aK aL aC aW aR aT aH aF ts kp fi 0 (by decide)) [0, 1] rfl rfl 0 rfl rfl rfl (Nat.le_of_ble_eq_true rfl) (by decide) (Nat.le_refl _) (Nat.le_refl _) (rfl : [aM, aF] = [aM, aF]) rfl ?_
    rw [← hQ]
    refine x_iret dX8_place_20 rfl (Nat.le_of_ble_eq_true rfl) (Nat.le_of_ble_eq_true rfl) ?_
    exact ⟨rfl, rfl⟩
  · have c5 : ¬ ((isRowI rw_.toInt64) = 0) := c5
    exact absurd hb c5

-- == place_o ==
set_option maxRecDepth 100000 in
set_option maxHeartbeats 4000000 in
theorem ct_place_o (l : Launch) (g : XG) (aM aS aK aL aC aW aR aT aH aF : Nat) (ts : Nat) (kp : Int32) (aSk aSm aSp aSt aSc aSr aSe gr br cs wk : Nat) (z : Int32) (fi : Nat → Nat) (r : Nat) (hr : r < 4096) (hp : popN r = 4) (ho : isRowI (nI r).toInt64 = 1) : Ct l g 10 0 0 yX8_place cX8_place 2 (some .int) [.ref aM, .int (nI r)] [(aM, .inr (8, [.ref aS, .ref aK, .ref aL, .ref aC, .ref aW, .ref aR, .ref aT, .ref aH, .ref aF, .int (nI ts), .int kp])), (aF, .inl (g.2.1 0, 7, .inl (nIf fi))), (aS, .inr (6, [.ref aSk, .ref aSm, .ref aSp, .ref aSt, .ref aSc, .ref aSr, .ref aSe, .int (nI gr), .int (nI br), .int (nI cs), .int (nI wk), .int z]))] (xpi (nI (plB r 12)) [(aM, .inr (8, [.ref aS, .ref aK, .ref aL, .ref aC, .ref aW, .ref aR, .ref aT, .ref aH, .ref aF, .int (nI ts), .int kp])), (aF, .inl (g.2.1 0, 7, .inl (nIf fi))), (aS, .inr (6, [.ref aSk, .ref aSm, .ref aSp, .ref aSt, .ref aSc, .ref aSr, .ref aSe, .int (nI gr), .int (nI br), .int (nI cs), .int (nI wk), .int z]))]) := by
  refine Ct.ofX (lv := [some (.ref aM), some (.int (nI r))]) (by decide) rfl (Nat.le_of_ble_eq_true rfl) (fun κ => ?_)
  generalize hQ : xQ κ g 0 0 _ = Q
  refine x_iload_n dX8_place_0 rfl ?_
  refine x_i2l dX8_place_1 ?_
  refine x_cSi dX8_place_2 ml_X8_71 mX8_isRow (ct_X8_isRow κ.2.1 g ((nI r).toInt64)) rfl (Nat.le_of_ble_eq_true rfl) (by decide) (Nat.le_refl _) (Nat.le_refl _) ?_
  refine x_rei (1) (ho) ?_
  refine x_if_eq dX8_place_5 (fun c5 => ?_) (fun c5 => ?_)
  · exact absurd c5 (by decide)
  refine x_iload_n dX8_place_8 rfl ?_
  refine x_cSi dX8_place_9 ml_X8_75 mX5_placeOf (ct_X5_placeOf κ.2.1 g r (hr) (hp)) rfl (Nat.le_of_ble_eq_true rfl) (by decide) (Nat.le_refl _) (Nat.le_refl _) ?_
  refine x_goto dX8_place_12 ?_
  rw [← hQ]
  refine x_iret dX8_place_20 rfl (Nat.le_of_ble_eq_true rfl) (Nat.le_of_ble_eq_true rfl) ?_
  exact ⟨rfl, rfl⟩

-- == row_b ==
theorem dX8_row_0 : xd cX8_row 0 (.iload_n 1) 1 1 := ⟨by decide +kernel, rfl⟩
theorem dX8_row_1 : xd cX8_row 1 (.invokestatic 82) 3 4 := ⟨by decide +kernel, rfl⟩
theorem dX8_row_4 : xj cX8_row 4 (.ifCond .eq) 7 19 := ⟨15, by decide +kernel, rfl, by decide⟩
theorem dX8_row_7 : xd cX8_row 7 (.aload_n 0) 1 8 := ⟨by decide +kernel, rfl⟩
theorem dX8_row_8 : xd cX8_row 8 (.getfield 22) 3 11 := ⟨by decide +kernel, rfl⟩
theorem dX8_row_11 : xd cX8_row 11 (.getfield 86) 3 14 := ⟨by decide +kernel, rfl⟩
theorem dX8_row_14 : xd cX8_row 14 (.iload_n 1) 1 15 := ⟨by decide +kernel, rfl⟩
theorem dX8_row_15 : xd cX8_row 15 .iaload 1 16 := ⟨by decide +kernel, rfl⟩
theorem dX8_row_16 : xj cX8_row 16 .goto 19 24 := ⟨8, by decide +kernel, rfl, by decide⟩
theorem dX8_row_19 : xd cX8_row 19 (.aload_n 0) 1 20 := ⟨by decide +kernel, rfl⟩
theorem dX8_row_20 : xd cX8_row 20 (.iconst 0) 1 21 := ⟨by decide +kernel, rfl⟩
theorem dX8_row_21 : xd cX8_row 21 (.invokevirtual 79) 3 24 := ⟨by decide +kernel, rfl⟩
theorem dX8_row_24 : xd cX8_row 24 .ireturn 1 25 := ⟨by decide +kernel, rfl⟩

set_option maxRecDepth 100000 in
set_option maxHeartbeats 4000000 in
theorem ct_row_b (l : Launch) (g : XG) (aM aS aK aL aC aW aR aT aH aF : Nat) (ts : Nat) (kp : Int32) (aSk aSm aSp aSt aSc aSr aSe gr br cs wk : Nat) (z : Int32) (fi : Nat → Nat) (pl : Int32) (hb : wI pl 0 494 = 0) : Ct l g 10 0 0 yX8_row cX8_row 2 (some .int) [.ref aM, .int pl] [(aM, .inr (8, [.ref aS, .ref aK, .ref aL, .ref aC, .ref aW, .ref aR, .ref aT, .ref aH, .ref aF, .int (nI ts), .int kp])), (aF, .inl (g.2.1 0, 7, .inl (nIf fi))), (aS, .inr (6, [.ref aSk, .ref aSm, .ref aSp, .ref aSt, .ref aSc, .ref aSr, .ref aSe, .int (nI gr), .int (nI br), .int (nI cs), .int (nI wk), .int z]))] (xpi (fndI 0) [(aM, .inr (8, [.ref aS, .ref aK, .ref aL, .ref aC, .ref aW, .ref aR, .ref aT, .ref aH, .ref aF, .int (nI ts), .int kp])), (aF, .inl (g.2.1 0, 7, .inl (nIf (updN fi 0 (fi 0 + 1))))), (aS, .inr (6, [.ref aSk, .ref aSm, .ref aSp, .ref aSt, .ref aSc, .ref aSr, .ref aSe, .int (nI gr), .int (nI br), .int (nI cs), .int (nI wk), .int z]))]) := by
  refine Ct.ofX (lv := [some (.ref aM), some (.int pl)]) (by decide) rfl (Nat.le_of_ble_eq_true rfl) (fun κ => ?_)
  generalize hQ : xQ κ g 0 0 _ = Q
  refine x_iload_n dX8_row_0 rfl ?_
  refine x_cSi dX8_row_1 ml_X8_82 mX8_isPlace (ct_X8_isPlace κ.2.1 g pl) rfl (Nat.le_of_ble_eq_true rfl) (by decide) (Nat.le_refl _) (Nat.le_refl _) ?_
  refine x_if_eq dX8_row_4 (fun c4 => ?_) (fun c4 => ?_)
  · have c4 : (wI pl 0 494) = 0 := c4
    refine x_aload_n dX8_row_19 rfl ?_
    refine x_iconst 0 dX8_row_20 (by decide) ?_
    refine x_cVi (ws' := [(aM, .inr (8, [.ref aS, .ref aK, .ref aL, .ref aC, .ref aW, .ref aR, .ref aT, .ref aH, .ref aF, .int (nI ts), .int kp])), (aF, .inl (g.2.1 0, 7, .inl (nIf (updN fi 0 (fi 0 + 1))))), (aS, .inr (6, [.ref aSk, .ref aSm, .ref aSp, .ref aSt, .ref aSc, .ref aSr, .ref aSe, .int (nI gr), .int (nI br), .int (nI cs), .int (nI wk), .int z]))]) dX8_row_21 ml_X8_79 mX8_tell (ct_X8_tell κ.2.1 g aM aS aK aL aC aW aR aT aH aF ts kp fi 0 (by decide)) [0, 1] rfl rfl 0 rfl rfl rfl (Nat.le_of_ble_eq_true rfl) (by decide) (Nat.le_refl _) (Nat.le_refl _) (rfl : [aM, aF] = [aM, aF]) rfl ?_
    rw [← hQ]
    refine x_iret dX8_row_24 rfl (Nat.le_of_ble_eq_true rfl) (Nat.le_of_ble_eq_true rfl) ?_
    exact ⟨rfl, rfl⟩
  · have c4 : ¬ ((wI pl 0 494) = 0) := c4
    exact absurd hb c4

-- == row_o ==
set_option maxRecDepth 100000 in
set_option maxHeartbeats 4000000 in
theorem ct_row_o (l : Launch) (g : XG) (aM aS aK aL aC aW aR aT aH aF : Nat) (ts : Nat) (kp : Int32) (aSk aSm aSp aSt aSc aSr aSe gr br cs wk : Nat) (z : Int32) (fi : Nat → Nat) (aLb aLp p : Nat) (hp : p < 495) : Ct l g 10 0 0 yX8_row cX8_row 2 (some .int) [.ref aM, .int (nI p)] [(aM, .inr (8, [.ref aS, .ref aK, .ref aL, .ref aC, .ref aW, .ref aR, .ref aT, .ref aH, .ref aF, .int (nI ts), .int kp])), (aF, .inl (g.2.1 0, 7, .inl (nIf fi))), (aS, .inr (6, [.ref aSk, .ref aSm, .ref aSp, .ref aSt, .ref aSc, .ref aSr, .ref aSe, .int (nI gr), .int (nI br), .int (nI cs), .int (nI wk), .int z])), (aL, .inr (5, [.ref aLb, .ref aLp])), (aLb, .inl (g.2.1 0, 495, .inl (nIf rowB)))] (xpi (nI (rowB p)) [(aM, .inr (8, [.ref aS, .ref aK, .ref aL, .ref aC, .ref aW, .ref aR, .ref aT, .ref aH, .ref aF, .int (nI ts), .int kp])), (aF, .inl (g.2.1 0, 7, .inl (nIf fi))), (aS, .inr (6, [.ref aSk, .ref aSm, .ref aSp, .ref aSt, .ref aSc, .ref aSr, .ref aSe, .int (nI gr), .int (nI br), .int (nI cs), .int (nI wk), .int z])), (aL, .inr (5, [.ref aLb, .ref aLp])), (aLb, .inl (g.2.1 0, 495, .inl (nIf rowB)))]) := by
  refine Ct.ofX (lv := [some (.ref aM), some (.int (nI p))]) (by decide) rfl (Nat.le_of_ble_eq_true rfl) (fun κ => ?_)
  generalize hQ : xQ κ g 0 0 _ = Q
  refine x_iload_n dX8_row_0 rfl ?_
  refine x_cSi dX8_row_1 ml_X8_82 mX8_isPlace (ct_isPlace_n κ.2.1 g p (hp)) rfl (Nat.le_of_ble_eq_true rfl) (by decide) (Nat.le_refl _) (Nat.le_refl _) ?_
  refine x_if_eq dX8_row_4 (fun c4 => ?_) (fun c4 => ?_)
  · exact absurd c4 (by decide)
  refine x_aload_n dX8_row_7 rfl ?_
  refine x_get dX8_row_8 0 2 inX8 fl_X8_22 rfl rfl (by decide) rfl ?_
  refine x_get dX8_row_11 3 0 inX5 fl_X8_86 rfl rfl (by decide) rfl ?_
  refine x_iload_n dX8_row_14 rfl ?_
  refine x_iald dX8_row_15 4 p rfl (rfl) (by omega) (by decide) ?_
  refine x_goto dX8_row_16 ?_
  rw [← hQ]
  refine x_iret dX8_row_24 rfl (Nat.le_of_ble_eq_true rfl) (Nat.le_of_ble_eq_true rfl) ?_
  exact ⟨rfl, rfl⟩

-- == people_b ==
theorem dX8_people_0 : xd cX8_people 0 (.iload_n 1) 1 1 := ⟨by decide +kernel, rfl⟩
theorem dX8_people_1 : xd cX8_people 1 (.iconst 0) 1 2 := ⟨by decide +kernel, rfl⟩
theorem dX8_people_2 : xd cX8_people 2 (.bipush 7) 2 4 := ⟨by decide +kernel, rfl⟩
theorem dX8_people_4 : xd cX8_people 4 (.invokestatic 89) 3 7 := ⟨by decide +kernel, rfl⟩
theorem dX8_people_7 : xj cX8_people 7 (.ifCond .eq) 10 20 := ⟨13, by decide +kernel, rfl, by decide⟩
theorem dX8_people_10 : xd cX8_people 10 (.iload_n 2) 1 11 := ⟨by decide +kernel, rfl⟩
theorem dX8_people_11 : xd cX8_people 11 (.iconst 0) 1 12 := ⟨by decide +kernel, rfl⟩
theorem dX8_people_12 : xd cX8_people 12 (.ldc 93) 2 14 := ⟨by decide +kernel, rfl⟩
theorem dX8_people_14 : xd cX8_people 14 (.invokestatic 89) 3 17 := ⟨by decide +kernel, rfl⟩
theorem dX8_people_17 : xj cX8_people 17 (.ifCond .ne) 20 26 := ⟨9, by decide +kernel, rfl, by decide⟩
theorem dX8_people_20 : xd cX8_people 20 (.aload_n 0) 1 21 := ⟨by decide +kernel, rfl⟩
theorem dX8_people_21 : xd cX8_people 21 (.iconst 0) 1 22 := ⟨by decide +kernel, rfl⟩
theorem dX8_people_22 : xd cX8_people 22 (.invokevirtual 79) 3 25 := ⟨by decide +kernel, rfl⟩
theorem dX8_people_25 : xd cX8_people 25 .ireturn 1 26 := ⟨by decide +kernel, rfl⟩
theorem dX8_people_26 : xd cX8_people 26 (.aload_n 0) 1 27 := ⟨by decide +kernel, rfl⟩
theorem dX8_people_27 : xd cX8_people 27 (.getfield 10) 3 30 := ⟨by decide +kernel, rfl⟩
theorem dX8_people_30 : xd cX8_people 30 (.getfield 94) 3 33 := ⟨by decide +kernel, rfl⟩
theorem dX8_people_33 : xd cX8_people 33 (.bipush 12) 2 35 := ⟨by decide +kernel, rfl⟩
theorem dX8_people_35 : xj cX8_people 35 (.if_icmp .lt) 38 44 := ⟨9, by decide +kernel, rfl, by decide⟩
theorem dX8_people_38 : xd cX8_people 38 (.aload_n 0) 1 39 := ⟨by decide +kernel, rfl⟩
theorem dX8_people_39 : xd cX8_people 39 (.iconst 1) 1 40 := ⟨by decide +kernel, rfl⟩
theorem dX8_people_40 : xd cX8_people 40 (.invokevirtual 79) 3 43 := ⟨by decide +kernel, rfl⟩
theorem dX8_people_43 : xd cX8_people 43 .ireturn 1 44 := ⟨by decide +kernel, rfl⟩
theorem dX8_people_44 : xd cX8_people 44 (.aload_n 0) 1 45 := ⟨by decide +kernel, rfl⟩
theorem dX8_people_45 : xd cX8_people 45 (.getfield 10) 3 48 := ⟨by decide +kernel, rfl⟩
theorem dX8_people_48 : xd cX8_people 48 (.getfield 94) 3 51 := ⟨by decide +kernel, rfl⟩
theorem dX8_people_51 : xd cX8_people 51 (.istore_n 3) 1 52 := ⟨by decide +kernel, rfl⟩
theorem dX8_people_52 : xd cX8_people 52 (.aload_n 0) 1 53 := ⟨by decide +kernel, rfl⟩
theorem dX8_people_53 : xd cX8_people 53 (.getfield 10) 3 56 := ⟨by decide +kernel, rfl⟩
theorem dX8_people_56 : xd cX8_people 56 (.getfield 98) 3 59 := ⟨by decide +kernel, rfl⟩
theorem dX8_people_59 : xd cX8_people 59 (.iload_n 3) 1 60 := ⟨by decide +kernel, rfl⟩
theorem dX8_people_60 : xd cX8_people 60 (.iload_n 1) 1 61 := ⟨by decide +kernel, rfl⟩
theorem dX8_people_61 : xd cX8_people 61 .iastore 1 62 := ⟨by decide +kernel, rfl⟩
theorem dX8_people_62 : xd cX8_people 62 (.aload_n 0) 1 63 := ⟨by decide +kernel, rfl⟩
theorem dX8_people_63 : xd cX8_people 63 (.getfield 10) 3 66 := ⟨by decide +kernel, rfl⟩
theorem dX8_people_66 : xd cX8_people 66 (.getfield 101) 3 69 := ⟨by decide +kernel, rfl⟩
theorem dX8_people_69 : xd cX8_people 69 (.iload_n 3) 1 70 := ⟨by decide +kernel, rfl⟩
theorem dX8_people_70 : xd cX8_people 70 (.iload_n 2) 1 71 := ⟨by decide +kernel, rfl⟩
theorem dX8_people_71 : xd cX8_people 71 .iastore 1 72 := ⟨by decide +kernel, rfl⟩
theorem dX8_people_72 : xd cX8_people 72 (.aload_n 0) 1 73 := ⟨by decide +kernel, rfl⟩
theorem dX8_people_73 : xd cX8_people 73 (.getfield 10) 3 76 := ⟨by decide +kernel, rfl⟩
theorem dX8_people_76 : xd cX8_people 76 (.iload_n 3) 1 77 := ⟨by decide +kernel, rfl⟩
theorem dX8_people_77 : xd cX8_people 77 (.iconst 1) 1 78 := ⟨by decide +kernel, rfl⟩
theorem dX8_people_78 : xd cX8_people 78 .iadd 1 79 := ⟨by decide +kernel, rfl⟩
theorem dX8_people_79 : xd cX8_people 79 (.putfield 94) 3 82 := ⟨by decide +kernel, rfl⟩
theorem dX8_people_82 : xd cX8_people 82 (.aload_n 0) 1 83 := ⟨by decide +kernel, rfl⟩
theorem dX8_people_83 : xd cX8_people 83 (.getfield 36) 3 86 := ⟨by decide +kernel, rfl⟩
theorem dX8_people_86 : xd cX8_people 86 (.invokevirtual 104) 3 89 := ⟨by decide +kernel, rfl⟩
theorem dX8_people_89 : xd cX8_people 89 (.iload_n 3) 1 90 := ⟨by decide +kernel, rfl⟩
theorem dX8_people_90 : xd cX8_people 90 .ireturn 1 91 := ⟨by decide +kernel, rfl⟩

set_option maxRecDepth 100000 in
set_option maxHeartbeats 4000000 in
theorem ct_people_b (l : Launch) (g : XG) (aM aS aK aL aC aW aR aT aH aF : Nat) (ts : Nat) (kp : Int32) (aSk aSm aSp aSt aSc aSr aSe gr br cs wk : Nat) (z : Int32) (fi : Nat → Nat) (kd mn : Int32) (hb : wI kd 0 7 = 0 ∨ wI mn 0 99999 = 0) : Ct l g 10 0 0 yX8_people cX8_people 4 (some .int) [.ref aM, .int kd, .int mn] [(aM, .inr (8, [.ref aS, .ref aK, .ref aL, .ref aC, .ref aW, .ref aR, .ref aT, .ref aH, .ref aF, .int (nI ts), .int kp])), (aF, .inl (g.2.1 0, 7, .inl (nIf fi))), (aS, .inr (6, [.ref aSk, .ref aSm, .ref aSp, .ref aSt, .ref aSc, .ref aSr, .ref aSe, .int (nI gr), .int (nI br), .int (nI cs), .int (nI wk), .int z]))] (xpi (fndI 0) [(aM, .inr (8, [.ref aS, .ref aK, .ref aL, .ref aC, .ref aW, .ref aR, .ref aT, .ref aH, .ref aF, .int (nI ts), .int kp])), (aF, .inl (g.2.1 0, 7, .inl (nIf (updN fi 0 (fi 0 + 1))))), (aS, .inr (6, [.ref aSk, .ref aSm, .ref aSp, .ref aSt, .ref aSc, .ref aSr, .ref aSe, .int (nI gr), .int (nI br), .int (nI cs), .int (nI wk), .int z]))]) := by
  refine Ct.ofX (lv := [some (.ref aM), some (.int kd), some (.int mn), none]) (by decide) rfl (Nat.le_of_ble_eq_true rfl) (fun κ => ?_)
  generalize hQ : xQ κ g 0 0 _ = Q
  refine x_iload_n dX8_people_0 rfl ?_
  refine x_iconst 0 dX8_people_1 (by decide) ?_
  refine x_bipush 7 dX8_people_2 (by decide) ?_
  refine x_cSi dX8_people_4 ml_X8_89 mX8_within (ct_X8_within κ.2.1 g kd 0 7) rfl (Nat.le_of_ble_eq_true rfl) (by decide) (Nat.le_refl _) (Nat.le_refl _) ?_
  refine x_if_eq dX8_people_7 (fun c7 => ?_) (fun c7 => ?_)
  · have c7 : (wI kd 0 7) = 0 := c7
    refine x_aload_n dX8_people_20 rfl ?_
    refine x_iconst 0 dX8_people_21 (by decide) ?_
    refine x_cVi (ws' := [(aM, .inr (8, [.ref aS, .ref aK, .ref aL, .ref aC, .ref aW, .ref aR, .ref aT, .ref aH, .ref aF, .int (nI ts), .int kp])), (aF, .inl (g.2.1 0, 7, .inl (nIf (updN fi 0 (fi 0 + 1))))), (aS, .inr (6, [.ref aSk, .ref aSm, .ref aSp, .ref aSt, .ref aSc, .ref aSr, .ref aSe, .int (nI gr), .int (nI br), .int (nI cs), .int (nI wk), .int z]))]) dX8_people_22 ml_X8_79 mX8_tell (ct_X8_tell κ.2.1 g aM aS aK aL aC aW aR aT aH aF ts kp fi 0 (by decide)) [0, 1] rfl rfl 0 rfl rfl rfl (Nat.le_of_ble_eq_true rfl) (by decide) (Nat.le_refl _) (Nat.le_refl _) (rfl : [aM, aF] = [aM, aF]) rfl ?_
    rw [← hQ]
    refine x_iret dX8_people_25 rfl (Nat.le_of_ble_eq_true rfl) (Nat.le_of_ble_eq_true rfl) ?_
    exact ⟨rfl, rfl⟩
  · have c7 : ¬ ((wI kd 0 7) = 0) := c7
    refine x_iload_n dX8_people_10 rfl ?_
    refine x_iconst 0 dX8_people_11 (by decide) ?_
    refine x_ldc dX8_people_12 k_X8_93 ?_
    refine x_cSi dX8_people_14 ml_X8_89 mX8_within (ct_X8_within κ.2.1 g mn 0 99999) rfl (Nat.le_of_ble_eq_true rfl) (by decide) (Nat.le_refl _) (Nat.le_refl _) ?_
    refine x_if_ne dX8_people_17 (fun c17 => ?_) (fun c17 => ?_)
    · have c17 : ¬ ((wI mn 0 99999) = 0) := c17
      exact absurd (hb.resolve_left c7) c17
    · have c17 : (wI mn 0 99999) = 0 := c17
      refine x_aload_n dX8_people_20 rfl ?_
      refine x_iconst 0 dX8_people_21 (by decide) ?_
      refine x_cVi (ws' := [(aM, .inr (8, [.ref aS, .ref aK, .ref aL, .ref aC, .ref aW, .ref aR, .ref aT, .ref aH, .ref aF, .int (nI ts), .int kp])), (aF, .inl (g.2.1 0, 7, .inl (nIf (updN fi 0 (fi 0 + 1))))), (aS, .inr (6, [.ref aSk, .ref aSm, .ref aSp, .ref aSt, .ref aSc, .ref aSr, .ref aSe, .int (nI gr), .int (nI br), .int (nI cs), .int (nI wk), .int z]))]) dX8_people_22 ml_X8_79 mX8_tell (ct_X8_tell κ.2.1 g aM aS aK aL aC aW aR aT aH aF ts kp fi 0 (by decide)) [0, 1] rfl rfl 0 rfl rfl rfl (Nat.le_of_ble_eq_true rfl) (by decide) (Nat.le_refl _) (Nat.le_refl _) (rfl : [aM, aF] = [aM, aF]) rfl ?_
      rw [← hQ]
      refine x_iret dX8_people_25 rfl (Nat.le_of_ble_eq_true rfl) (Nat.le_of_ble_eq_true rfl) ?_
      exact ⟨rfl, rfl⟩

-- == people_f ==
set_option maxRecDepth 100000 in
set_option maxHeartbeats 4000000 in
theorem ct_people_f (l : Launch) (g : XG) (aM aS aK aL aC aW aR aT aH aF : Nat) (ts : Nat) (kp : Int32) (aSk aSm aSp aSt aSc aSr aSe gr br cs wk : Nat) (z : Int32) (fi : Nat → Nat) (kd mn : Nat) (hkd : kd ≤ 7) (hmn : mn ≤ 99999) (hg : gr = 12) : Ct l g 10 0 0 yX8_people cX8_people 4 (some .int) [.ref aM, .int (nI kd), .int (nI mn)] [(aM, .inr (8, [.ref aS, .ref aK, .ref aL, .ref aC, .ref aW, .ref aR, .ref aT, .ref aH, .ref aF, .int (nI ts), .int kp])), (aF, .inl (g.2.1 0, 7, .inl (nIf fi))), (aS, .inr (6, [.ref aSk, .ref aSm, .ref aSp, .ref aSt, .ref aSc, .ref aSr, .ref aSe, .int (nI gr), .int (nI br), .int (nI cs), .int (nI wk), .int z]))] (xpi (fndI 1) [(aM, .inr (8, [.ref aS, .ref aK, .ref aL, .ref aC, .ref aW, .ref aR, .ref aT, .ref aH, .ref aF, .int (nI ts), .int kp])), (aF, .inl (g.2.1 0, 7, .inl (nIf (updN fi 1 (fi 1 + 1))))), (aS, .inr (6, [.ref aSk, .ref aSm, .ref aSp, .ref aSt, .ref aSc, .ref aSr, .ref aSe, .int (nI gr), .int (nI br), .int (nI cs), .int (nI wk), .int z]))]) := by
  refine Ct.ofX (lv := [some (.ref aM), some (.int (nI kd)), some (.int (nI mn)), none]) (by decide) rfl (Nat.le_of_ble_eq_true rfl) (fun κ => ?_)
  generalize hQ : xQ κ g 0 0 _ = Q
  refine x_iload_n dX8_people_0 rfl ?_
  refine x_iconst 0 dX8_people_1 (by decide) ?_
  refine x_bipush 7 dX8_people_2 (by decide) ?_
  refine x_cSi dX8_people_4 ml_X8_89 mX8_within (ct_within_n κ.2.1 g kd 0 7 (⟨by omega, by omega, by omega, by omega⟩)) rfl (Nat.le_of_ble_eq_true rfl) (by decide) (Nat.le_refl _) (Nat.le_refl _) ?_
  refine x_if_eq dX8_people_7 (fun c7 => ?_) (fun c7 => ?_)
  · exact absurd c7 (by decide)
  refine x_iload_n dX8_people_10 rfl ?_
  refine x_iconst 0 dX8_people_11 (by decide) ?_
  refine x_ldc dX8_people_12 k_X8_93 ?_
  refine x_cSi dX8_people_14 ml_X8_89 mX8_within (ct_within_n κ.2.1 g mn 0 99999 (⟨by omega, by omega, by omega, by omega⟩)) rfl (Nat.le_of_ble_eq_true rfl) (by decide) (Nat.le_refl _) (Nat.le_refl _) ?_
  refine x_if_ne dX8_people_17 (fun c17 => ?_) (fun c17 => ?_)
  rotate_left
  · exact absurd c17 (by decide)
  refine x_aload_n dX8_people_26 rfl ?_
  refine x_get dX8_people_27 0 0 inX8 fl_X8_10 rfl rfl (by decide) rfl ?_
  refine x_get dX8_people_30 2 7 inX6 fl_X8_94 rfl rfl (by decide) rfl ?_
  refine x_bipush 12 dX8_people_33 (by decide) ?_
  refine x_icmp_lt dX8_people_35 (fun c35 => ?_) (fun c35 => ?_)
  · have c35 : (nI gr) < 12 := c35
    have c35n := (nI_ltI (a := gr) (b := 12) (by omega) (by omega)).mp c35
    exact absurd c35n (by omega)
  · have c35 : ¬ ((nI gr) < 12) := c35
    have c35n := mt (nI_ltI (a := gr) (b := 12) (by omega) (by omega)).mpr c35
    refine x_aload_n dX8_people_38 rfl ?_
    refine x_iconst 1 dX8_people_39 (by decide) ?_
    refine x_cVi (ws' := [(aM, .inr (8, [.ref aS, .ref aK, .ref aL, .ref aC, .ref aW, .ref aR, .ref aT, .ref aH, .ref aF, .int (nI ts), .int kp])), (aF, .inl (g.2.1 0, 7, .inl (nIf (updN fi 1 (fi 1 + 1))))), (aS, .inr (6, [.ref aSk, .ref aSm, .ref aSp, .ref aSt, .ref aSc, .ref aSr, .ref aSe, .int (nI gr), .int (nI br), .int (nI cs), .int (nI wk), .int z]))]) dX8_people_40 ml_X8_79 mX8_tell (ct_X8_tell κ.2.1 g aM aS aK aL aC aW aR aT aH aF ts kp fi 1 (by decide)) [0, 1] rfl rfl 0 rfl rfl rfl (Nat.le_of_ble_eq_true rfl) (by decide) (Nat.le_refl _) (Nat.le_refl _) (rfl : [aM, aF] = [aM, aF]) rfl ?_
    rw [← hQ]
    refine x_iret dX8_people_43 rfl (Nat.le_of_ble_eq_true rfl) (Nat.le_of_ble_eq_true rfl) ?_
    exact ⟨rfl, rfl⟩

-- == people_o ==
set_option maxRecDepth 100000 in
set_option maxHeartbeats 4000000 in
theorem ct_people_o (l : Launch) (g : XG) (aM aS aK aL aC aW aR aT aH aF : Nat) (ts : Nat) (kp : Int32) (aSk aSm aSp aSt aSc aSr aSe gr br cs wk : Nat) (z : Int32) (fi : Nat → Nat) (aV aO aCs aCl aCh aCw aCc aCb tot lat : Nat) (se sw : Int32) (ki ma : Nat → Nat) (kd mn : Nat) (hkd : kd ≤ 7) (hmn : mn ≤ 99999) (hg : gr < 12) : Ct l g 10 0 0 yX8_people cX8_people 4 (some .int) [.ref aM, .int (nI kd), .int (nI mn)] [(aM, .inr (8, [.ref aS, .ref aK, .ref aL, .ref aC, .ref aW, .ref aR, .ref aT, .ref aH, .ref aF, .int (nI ts), .int kp])), (aF, .inl (g.2.1 0, 7, .inl (nIf fi))), (aS, .inr (6, [.ref aSk, .ref aSm, .ref aSp, .ref aSt, .ref aSc, .ref aSr, .ref aSe, .int (nI gr), .int (nI br), .int (nI cs), .int (nI wk), .int z])), (aC, .inr (0, [.ref aS, .ref aL, .ref aV, .ref aO, .ref aCs, .ref aCl, .ref aCh, .ref aCw, .ref aCc, .ref aCb, .int (nI tot), .int (nI lat), .int se, .int sw])), (aSk, .inl (g.2.1 0, 12, .inl (nIf ki))), (aSm, .inl (g.2.1 0, 12, .inl (nIf ma)))] (xpi (nI (gr)) [(aM, .inr (8, [.ref aS, .ref aK, .ref aL, .ref aC, .ref aW, .ref aR, .ref aT, .ref aH, .ref aF, .int (nI ts), .int kp])), (aF, .inl (g.2.1 0, 7, .inl (nIf fi))), (aS, .inr (6, [.ref aSk, .ref aSm, .ref aSp, .ref aSt, .ref aSc, .ref aSr, .ref aSe, .int (nI (gr + 1)), .int (nI br), .int (nI cs), .int (nI wk), .int z])), (aC, .inr (0, [.ref aS, .ref aL, .ref aV, .ref aO, .ref aCs, .ref aCl, .ref aCh, .ref aCw, .ref aCc, .ref aCb, .int (nI tot), .int (nI lat), .int 0, .int 0])), (aSk, .inl (g.2.1 0, 12, .inl (nIf (updN ki gr kd)))), (aSm, .inl (g.2.1 0, 12, .inl (nIf (updN ma gr mn))))]) := by
  refine Ct.ofX (lv := [some (.ref aM), some (.int (nI kd)), some (.int (nI mn)), none]) (by decide) rfl (Nat.le_of_ble_eq_true rfl) (fun κ => ?_)
  generalize hQ : xQ κ g 0 0 _ = Q
  refine x_iload_n dX8_people_0 rfl ?_
  refine x_iconst 0 dX8_people_1 (by decide) ?_
  refine x_bipush 7 dX8_people_2 (by decide) ?_
  refine x_cSi dX8_people_4 ml_X8_89 mX8_within (ct_within_n κ.2.1 g kd 0 7 (⟨by omega, by omega, by omega, by omega⟩)) rfl (Nat.le_of_ble_eq_true rfl) (by decide) (Nat.le_refl _) (Nat.le_refl _) ?_
  refine x_if_eq dX8_people_7 (fun c7 => ?_) (fun c7 => ?_)
  · exact absurd c7 (by decide)
  refine x_iload_n dX8_people_10 rfl ?_
  refine x_iconst 0 dX8_people_11 (by decide) ?_
  refine x_ldc dX8_people_12 k_X8_93 ?_
  refine x_cSi dX8_people_14 ml_X8_89 mX8_within (ct_within_n κ.2.1 g mn 0 99999 (⟨by omega, by omega, by omega, by omega⟩)) rfl (Nat.le_of_ble_eq_true rfl) (by decide) (Nat.le_refl _) (Nat.le_refl _) ?_
  refine x_if_ne dX8_people_17 (fun c17 => ?_) (fun c17 => ?_)
  rotate_left
  · exact absurd c17 (by decide)
  refine x_aload_n dX8_people_26 rfl ?_
  refine x_get dX8_people_27 0 0 inX8 fl_X8_10 rfl rfl (by decide) rfl ?_
  refine x_get dX8_people_30 2 7 inX6 fl_X8_94 rfl rfl (by decide) rfl ?_
  refine x_bipush 12 dX8_people_33 (by decide) ?_
  refine x_icmp_lt dX8_people_35 (fun c35 => ?_) (fun c35 => ?_)
  · have c35 : (nI gr) < 12 := c35
    have c35n := (nI_ltI (a := gr) (b := 12) (by omega) (by omega)).mp c35
    refine x_aload_n dX8_people_44 rfl ?_
    refine x_get dX8_people_45 0 0 inX8 fl_X8_10 rfl rfl (by decide) rfl ?_
    refine x_get dX8_people_48 2 7 inX6 fl_X8_94 rfl rfl (by decide) rfl ?_
    refine x_istore_n (lv' := [some (.ref aM), some (.int (nI kd)), some (.int (nI mn)), some (.int (nI gr))]) dX8_people_51 (xlt rfl) rfl ?_
    refine x_aload_n dX8_people_52 rfl ?_
    refine x_get dX8_people_53 0 0 inX8 fl_X8_10 rfl rfl (by decide) rfl ?_
    refine x_get dX8_people_56 2 0 inX6 fl_X8_98 rfl rfl (by decide) rfl ?_
    refine x_iload_n dX8_people_59 rfl ?_
    refine x_iload_n dX8_people_60 rfl ?_
    refine x_iast (ws' := [(aM, .inr (8, [.ref aS, .ref aK, .ref aL, .ref aC, .ref aW, .ref aR, .ref aT, .ref aH, .ref aF, .int (nI ts), .int kp])), (aF, .inl (g.2.1 0, 7, .inl (nIf fi))), (aS, .inr (6, [.ref aSk, .ref aSm, .ref aSp, .ref aSt, .ref aSc, .ref aSr, .ref aSe, .int (nI gr), .int (nI br), .int (nI cs), .int (nI wk), .int z])), (aC, .inr (0, [.ref aS, .ref aL, .ref aV, .ref aO, .ref aCs, .ref aCl, .ref aCh, .ref aCw, .ref aCc, .ref aCb, .int (nI tot), .int (nI lat), .int se, .int sw])), (aSk, .inl (g.2.1 0, 12, .inl (nIf (updN ki gr kd)))), (aSm, .inl (g.2.1 0, 12, .inl (nIf ma)))]) dX8_people_61 4 gr rfl (rfl) (by omega) (by decide) (by rw [upd_nIf]; rfl) ?_
    refine x_aload_n dX8_people_62 rfl ?_
    refine x_get dX8_people_63 0 0 inX8 fl_X8_10 rfl rfl (by decide) rfl ?_
    refine x_get dX8_people_66 2 1 inX6 fl_X8_101 rfl rfl (by decide) rfl ?_
    refine x_iload_n dX8_people_69 rfl ?_
    refine x_iload_n dX8_people_70 rfl ?_
    refine x_iast (ws' := [(aM, .inr (8, [.ref aS, .ref aK, .ref aL, .ref aC, .ref aW, .ref aR, .ref aT, .ref aH, .ref aF, .int (nI ts), .int kp])), (aF, .inl (g.2.1 0, 7, .inl (nIf fi))), (aS, .inr (6, [.ref aSk, .ref aSm, .ref aSp, .ref aSt, .ref aSc, .ref aSr, .ref aSe, .int (nI gr), .int (nI br), .int (nI cs), .int (nI wk), .int z])), (aC, .inr (0, [.ref aS, .ref aL, .ref aV, .ref aO, .ref aCs, .ref aCl, .ref aCh, .ref aCw, .ref aCc, .ref aCb, .int (nI tot), .int (nI lat), .int se, .int sw])), (aSk, .inl (g.2.1 0, 12, .inl (nIf (updN ki gr kd)))), (aSm, .inl (g.2.1 0, 12, .inl (nIf (updN ma gr mn))))]) dX8_people_71 5 gr rfl (rfl) (by omega) (by decide) (by rw [upd_nIf]; rfl) ?_
    refine x_aload_n dX8_people_72 rfl ?_
    refine x_get dX8_people_73 0 0 inX8 fl_X8_10 rfl rfl (by decide) rfl ?_
    refine x_iload_n dX8_people_76 rfl ?_
    refine x_iconst 1 dX8_people_77 (by decide) ?_
    refine x_iadd dX8_people_78 ?_
    refine x_rei (nI (gr + 1)) (nI_addc gr 1 rfl) ?_
    refine x_put (ws' := [(aM, .inr (8, [.ref aS, .ref aK, .ref aL, .ref aC, .ref aW, .ref aR, .ref aT, .ref aH, .ref aF, .int (nI ts), .int kp])), (aF, .inl (g.2.1 0, 7, .inl (nIf fi))), (aS, .inr (6, [.ref aSk, .ref aSm, .ref aSp, .ref aSt, .ref aSc, .ref aSr, .ref aSe, .int (nI (gr + 1)), .int (nI br), .int (nI cs), .int (nI wk), .int z])), (aC, .inr (0, [.ref aS, .ref aL, .ref aV, .ref aO, .ref aCs, .ref aCl, .ref aCh, .ref aCw, .ref aCc, .ref aCb, .int (nI tot), .int (nI lat), .int se, .int sw])), (aSk, .inl (g.2.1 0, 12, .inl (nIf (updN ki gr kd)))), (aSm, .inl (g.2.1 0, 12, .inl (nIf (updN ma gr mn))))]) dX8_people_79 2 7 inX6 tyX6_ok nmX6 fl_X8_94 rfl rfl (by decide) rfl (rfl) rfl (xlt rfl) rfl ?_
    refine x_aload_n dX8_people_82 rfl ?_
    refine x_get dX8_people_83 0 3 inX8 fl_X8_36 rfl rfl (by decide) rfl ?_
    refine x_cVv (ws' := [(aM, .inr (8, [.ref aS, .ref aK, .ref aL, .ref aC, .ref aW, .ref aR, .ref aT, .ref aH, .ref aF, .int (nI ts), .int kp])), (aF, .inl (g.2.1 0, 7, .inl (nIf fi))), (aS, .inr (6, [.ref aSk, .ref aSm, .ref aSp, .ref aSt, .ref aSc, .ref aSr, .ref aSe, .int (nI (gr + 1)), .int (nI br), .int (nI cs), .int (nI wk), .int z])), (aC, .inr (0, [.ref aS, .ref aL, .ref aV, .ref aO, .ref aCs, .ref aCl, .ref aCh, .ref aCw, .ref aCc, .ref aCb, .int (nI tot), .int (nI lat), .int 0, .int 0])), (aSk, .inl (g.2.1 0, 12, .inl (nIf (updN ki gr kd)))), (aSm, .inl (g.2.1 0, 12, .inl (nIf (updN ma gr mn))))]) dX8_people_86 ml_X8_104 mX0_stir (ct_X0_stir κ.2.1 g aC aS aL aV aO aCs aCl aCh aCw aCc aCb tot lat se sw) [3] rfl rfl 3 rfl rfl rfl (Nat.le_of_ble_eq_true rfl) (by decide) (Nat.le_refl _) (Nat.le_refl _) (rfl : [aC] = [aC]) rfl ?_
    refine x_iload_n dX8_people_89 rfl ?_
    rw [← hQ]
    refine x_iret dX8_people_90 rfl (Nat.le_of_ble_eq_true rfl) (Nat.le_of_ble_eq_true rfl) ?_
    exact ⟨rfl, rfl⟩
  · have c35 : ¬ ((nI gr) < 12) := c35
    have c35n := mt (nI_ltI (a := gr) (b := 12) (by omega) (by omega)).mpr c35
    exact absurd c35n (by omega)

-- == of_b ==
theorem dX8_of_0 : xd cX8_of 0 (.aload_n 0) 1 1 := ⟨by decide +kernel, rfl⟩
theorem dX8_of_1 : xd cX8_of 1 (.iload_n 1) 1 2 := ⟨by decide +kernel, rfl⟩
theorem dX8_of_2 : xd cX8_of 2 (.invokevirtual 107) 3 5 := ⟨by decide +kernel, rfl⟩
theorem dX8_of_5 : xj cX8_of 5 (.ifCond .eq) 8 17 := ⟨12, by decide +kernel, rfl, by decide⟩
theorem dX8_of_8 : xd cX8_of 8 (.iload_n 2) 1 9 := ⟨by decide +kernel, rfl⟩
theorem dX8_of_9 : xd cX8_of 9 (.iconst 0) 1 10 := ⟨by decide +kernel, rfl⟩
theorem dX8_of_10 : xd cX8_of 10 (.iconst 1) 1 11 := ⟨by decide +kernel, rfl⟩
theorem dX8_of_11 : xd cX8_of 11 (.invokestatic 89) 3 14 := ⟨by decide +kernel, rfl⟩
theorem dX8_of_14 : xj cX8_of 14 (.ifCond .ne) 17 23 := ⟨9, by decide +kernel, rfl, by decide⟩
theorem dX8_of_17 : xd cX8_of 17 (.aload_n 0) 1 18 := ⟨by decide +kernel, rfl⟩
theorem dX8_of_18 : xd cX8_of 18 (.iconst 0) 1 19 := ⟨by decide +kernel, rfl⟩
theorem dX8_of_19 : xd cX8_of 19 (.invokevirtual 79) 3 22 := ⟨by decide +kernel, rfl⟩
theorem dX8_of_22 : xd cX8_of 22 .ireturn 1 23 := ⟨by decide +kernel, rfl⟩
theorem dX8_of_23 : xd cX8_of 23 (.iload_n 2) 1 24 := ⟨by decide +kernel, rfl⟩
theorem dX8_of_24 : xj cX8_of 24 (.ifCond .ne) 27 39 := ⟨15, by decide +kernel, rfl, by decide⟩
theorem dX8_of_27 : xd cX8_of 27 (.aload_n 0) 1 28 := ⟨by decide +kernel, rfl⟩
theorem dX8_of_28 : xd cX8_of 28 (.getfield 10) 3 31 := ⟨by decide +kernel, rfl⟩
theorem dX8_of_31 : xd cX8_of 31 (.getfield 98) 3 34 := ⟨by decide +kernel, rfl⟩
theorem dX8_of_34 : xd cX8_of 34 (.iload_n 1) 1 35 := ⟨by decide +kernel, rfl⟩
theorem dX8_of_35 : xd cX8_of 35 .iaload 1 36 := ⟨by decide +kernel, rfl⟩
theorem dX8_of_36 : xj cX8_of 36 .goto 39 48 := ⟨12, by decide +kernel, rfl, by decide⟩
theorem dX8_of_39 : xd cX8_of 39 (.aload_n 0) 1 40 := ⟨by decide +kernel, rfl⟩
theorem dX8_of_40 : xd cX8_of 40 (.getfield 10) 3 43 := ⟨by decide +kernel, rfl⟩
theorem dX8_of_43 : xd cX8_of 43 (.getfield 101) 3 46 := ⟨by decide +kernel, rfl⟩
theorem dX8_of_46 : xd cX8_of 46 (.iload_n 1) 1 47 := ⟨by decide +kernel, rfl⟩
theorem dX8_of_47 : xd cX8_of 47 .iaload 1 48 := ⟨by decide +kernel, rfl⟩
theorem dX8_of_48 : xd cX8_of 48 .ireturn 1 49 := ⟨by decide +kernel, rfl⟩

set_option maxRecDepth 100000 in
set_option maxHeartbeats 4000000 in
theorem ct_of_b (l : Launch) (g : XG) (aM aS aK aL aC aW aR aT aH aF : Nat) (ts : Nat) (kp : Int32) (aSk aSm aSp aSt aSc aSr aSe gr br cs wk : Nat) (z : Int32) (fi : Nat → Nat) (pp wh : Int32) (hb : wI pp 0 (nI gr - 1) = 0 ∨ wI wh 0 1 = 0) : Ct l g 10 0 0 yX8_of cX8_of 3 (some .int) [.ref aM, .int pp, .int wh] [(aM, .inr (8, [.ref aS, .ref aK, .ref aL, .ref aC, .ref aW, .ref aR, .ref aT, .ref aH, .ref aF, .int (nI ts), .int kp])), (aF, .inl (g.2.1 0, 7, .inl (nIf fi))), (aS, .inr (6, [.ref aSk, .ref aSm, .ref aSp, .ref aSt, .ref aSc, .ref aSr, .ref aSe, .int (nI gr), .int (nI br), .int (nI cs), .int (nI wk), .int z]))] (xpi (fndI 0) [(aM, .inr (8, [.ref aS, .ref aK, .ref aL, .ref aC, .ref aW, .ref aR, .ref aT, .ref aH, .ref aF, .int (nI ts), .int kp])), (aF, .inl (g.2.1 0, 7, .inl (nIf (updN fi 0 (fi 0 + 1))))), (aS, .inr (6, [.ref aSk, .ref aSm, .ref aSp, .ref aSt, .ref aSc, .ref aSr, .ref aSe, .int (nI gr), .int (nI br), .int (nI cs), .int (nI wk), .int z]))]) := by
  refine Ct.ofX (lv := [some (.ref aM), some (.int pp), some (.int wh)]) (by decide) rfl (Nat.le_of_ble_eq_true rfl) (fun κ => ?_)
  generalize hQ : xQ κ g 0 0 _ = Q
  refine x_aload_n dX8_of_0 rfl ?_
  refine x_iload_n dX8_of_1 rfl ?_
  refine x_cVi0 dX8_of_2 ml_X8_107 mX8_isPeople (ct_X8_isPeople κ.2.1 g aM aS aK aL aC aW aR aT aH aF ts kp aSk aSm aSp aSt aSc aSr aSe gr br cs wk z pp) [0, 2] rfl rfl 0 rfl rfl rfl (Nat.le_of_ble_eq_true rfl) (by decide) (Nat.le_refl _) (Nat.le_refl _) ?_
  refine x_if_eq dX8_of_5 (fun c5 => ?_) (fun c5 => ?_)
  · have c5 : (wI pp 0 (nI gr - 1)) = 0 := c5
    refine x_aload_n dX8_of_17 rfl ?_
    refine x_iconst 0 dX8_of_18 (by decide) ?_
    refine x_cVi (ws' := [(aM, .inr (8, [.ref aS, .ref aK, .ref aL, .ref aC, .ref aW, .ref aR, .ref aT, .ref aH, .ref aF, .int (nI ts), .int kp])), (aF, .inl (g.2.1 0, 7, .inl (nIf (updN fi 0 (fi 0 + 1))))), (aS, .inr (6, [.ref aSk, .ref aSm, .ref aSp, .ref aSt, .ref aSc, .ref aSr, .ref aSe, .int (nI gr), .int (nI br), .int (nI cs), .int (nI wk), .int z]))]) dX8_of_19 ml_X8_79 mX8_tell (ct_X8_tell κ.2.1 g aM aS aK aL aC aW aR aT aH aF ts kp fi 0 (by decide)) [0, 1] rfl rfl 0 rfl rfl rfl (Nat.le_of_ble_eq_true rfl) (by decide) (Nat.le_refl _) (Nat.le_refl _) (rfl : [aM, aF] = [aM, aF]) rfl ?_
    rw [← hQ]
    refine x_iret dX8_of_22 rfl (Nat.le_of_ble_eq_true rfl) (Nat.le_of_ble_eq_true rfl) ?_
    exact ⟨rfl, rfl⟩
  · have c5 : ¬ ((wI pp 0 (nI gr - 1)) = 0) := c5
    refine x_iload_n dX8_of_8 rfl ?_
    refine x_iconst 0 dX8_of_9 (by decide) ?_
    refine x_iconst 1 dX8_of_10 (by decide) ?_
    refine x_cSi dX8_of_11 ml_X8_89 mX8_within (ct_X8_within κ.2.1 g wh 0 1) rfl (Nat.le_of_ble_eq_true rfl) (by decide) (Nat.le_refl _) (Nat.le_refl _) ?_
    refine x_if_ne dX8_of_14 (fun c14 => ?_) (fun c14 => ?_)
    · have c14 : ¬ ((wI wh 0 1) = 0) := c14
      exact absurd (hb.resolve_left c5) c14
    · have c14 : (wI wh 0 1) = 0 := c14
      refine x_aload_n dX8_of_17 rfl ?_
      refine x_iconst 0 dX8_of_18 (by decide) ?_
      refine x_cVi (ws' := [(aM, .inr (8, [.ref aS, .ref aK, .ref aL, .ref aC, .ref aW, .ref aR, .ref aT, .ref aH, .ref aF, .int (nI ts), .int kp])), (aF, .inl (g.2.1 0, 7, .inl (nIf (updN fi 0 (fi 0 + 1))))), (aS, .inr (6, [.ref aSk, .ref aSm, .ref aSp, .ref aSt, .ref aSc, .ref aSr, .ref aSe, .int (nI gr), .int (nI br), .int (nI cs), .int (nI wk), .int z]))]) dX8_of_19 ml_X8_79 mX8_tell (ct_X8_tell κ.2.1 g aM aS aK aL aC aW aR aT aH aF ts kp fi 0 (by decide)) [0, 1] rfl rfl 0 rfl rfl rfl (Nat.le_of_ble_eq_true rfl) (by decide) (Nat.le_refl _) (Nat.le_refl _) (rfl : [aM, aF] = [aM, aF]) rfl ?_
      rw [← hQ]
      refine x_iret dX8_of_22 rfl (Nat.le_of_ble_eq_true rfl) (Nat.le_of_ble_eq_true rfl) ?_
      exact ⟨rfl, rfl⟩

-- == of_0 ==
set_option maxRecDepth 100000 in
set_option maxHeartbeats 4000000 in
theorem ct_of_0 (l : Launch) (g : XG) (aM aS aK aL aC aW aR aT aH aF : Nat) (ts : Nat) (kp : Int32) (aSk aSm aSp aSt aSc aSr aSe gr br cs wk : Nat) (z : Int32) (fi : Nat → Nat) (ki ma : Nat → Nat) (q : Nat) (hq : q < gr ∧ gr ≤ 12) : Ct l g 10 0 0 yX8_of cX8_of 3 (some .int) [.ref aM, .int (nI q), .int 0] [(aM, .inr (8, [.ref aS, .ref aK, .ref aL, .ref aC, .ref aW, .ref aR, .ref aT, .ref aH, .ref aF, .int (nI ts), .int kp])), (aF, .inl (g.2.1 0, 7, .inl (nIf fi))), (aS, .inr (6, [.ref aSk, .ref aSm, .ref aSp, .ref aSt, .ref aSc, .ref aSr, .ref aSe, .int (nI gr), .int (nI br), .int (nI cs), .int (nI wk), .int z])), (aSk, .inl (g.2.1 0, 12, .inl (nIf ki))), (aSm, .inl (g.2.1 0, 12, .inl (nIf ma)))] (xpi (nI (ki q)) [(aM, .inr (8, [.ref aS, .ref aK, .ref aL, .ref aC, .ref aW, .ref aR, .ref aT, .ref aH, .ref aF, .int (nI ts), .int kp])), (aF, .inl (g.2.1 0, 7, .inl (nIf fi))), (aS, .inr (6, [.ref aSk, .ref aSm, .ref aSp, .ref aSt, .ref aSc, .ref aSr, .ref aSe, .int (nI gr), .int (nI br), .int (nI cs), .int (nI wk), .int z])), (aSk, .inl (g.2.1 0, 12, .inl (nIf ki))), (aSm, .inl (g.2.1 0, 12, .inl (nIf ma)))]) := by
  refine Ct.ofX (lv := [some (.ref aM), some (.int (nI q)), some (.int 0)]) (by decide) rfl (Nat.le_of_ble_eq_true rfl) (fun κ => ?_)
  generalize hQ : xQ κ g 0 0 _ = Q
  refine x_aload_n dX8_of_0 rfl ?_
  refine x_iload_n dX8_of_1 rfl ?_
  refine x_cVi0 dX8_of_2 ml_X8_107 mX8_isPeople (ct_isPeople_n κ.2.1 g aM aS aK aL aC aW aR aT aH aF ts kp aSk aSm aSp aSt aSc aSr aSe gr br cs wk z q (hq)) [0, 2] rfl rfl 0 rfl rfl rfl (Nat.le_of_ble_eq_true rfl) (by decide) (Nat.le_refl _) (Nat.le_refl _) ?_
  refine x_if_eq dX8_of_5 (fun c5 => ?_) (fun c5 => ?_)
  · exact absurd c5 (by decide)
  refine x_iload_n dX8_of_8 rfl ?_
  refine x_iconst 0 dX8_of_9 (by decide) ?_
  refine x_iconst 1 dX8_of_10 (by decide) ?_
  refine x_cSi dX8_of_11 ml_X8_89 mX8_within (ct_within_n κ.2.1 g 0 0 1 (⟨by omega, by omega, by omega, by omega⟩)) rfl (Nat.le_of_ble_eq_true rfl) (by decide) (Nat.le_refl _) (Nat.le_refl _) ?_
  refine x_if_ne dX8_of_14 (fun c14 => ?_) (fun c14 => ?_)
  rotate_left
  · exact absurd c14 (by decide)
  refine x_iload_n dX8_of_23 rfl ?_
  refine x_if_ne dX8_of_24 (fun c24 => ?_) (fun c24 => ?_)
  · exact absurd c24 (by decide)
  refine x_aload_n dX8_of_27 rfl ?_
  refine x_get dX8_of_28 0 0 inX8 fl_X8_10 rfl rfl (by decide) rfl ?_
  refine x_get dX8_of_31 2 0 inX6 fl_X8_98 rfl rfl (by decide) rfl ?_
  refine x_iload_n dX8_of_34 rfl ?_
  refine x_iald dX8_of_35 3 q rfl (rfl) (by omega) (by decide) ?_
  refine x_goto dX8_of_36 ?_
  rw [← hQ]
  refine x_iret dX8_of_48 rfl (Nat.le_of_ble_eq_true rfl) (Nat.le_of_ble_eq_true rfl) ?_
  exact ⟨rfl, rfl⟩

-- == of_1 ==
set_option maxRecDepth 100000 in
set_option maxHeartbeats 4000000 in
theorem ct_of_1 (l : Launch) (g : XG) (aM aS aK aL aC aW aR aT aH aF : Nat) (ts : Nat) (kp : Int32) (aSk aSm aSp aSt aSc aSr aSe gr br cs wk : Nat) (z : Int32) (fi : Nat → Nat) (ki ma : Nat → Nat) (q : Nat) (hq : q < gr ∧ gr ≤ 12) : Ct l g 10 0 0 yX8_of cX8_of 3 (some .int) [.ref aM, .int (nI q), .int 1] [(aM, .inr (8, [.ref aS, .ref aK, .ref aL, .ref aC, .ref aW, .ref aR, .ref aT, .ref aH, .ref aF, .int (nI ts), .int kp])), (aF, .inl (g.2.1 0, 7, .inl (nIf fi))), (aS, .inr (6, [.ref aSk, .ref aSm, .ref aSp, .ref aSt, .ref aSc, .ref aSr, .ref aSe, .int (nI gr), .int (nI br), .int (nI cs), .int (nI wk), .int z])), (aSk, .inl (g.2.1 0, 12, .inl (nIf ki))), (aSm, .inl (g.2.1 0, 12, .inl (nIf ma)))] (xpi (nI (ma q)) [(aM, .inr (8, [.ref aS, .ref aK, .ref aL, .ref aC, .ref aW, .ref aR, .ref aT, .ref aH, .ref aF, .int (nI ts), .int kp])), (aF, .inl (g.2.1 0, 7, .inl (nIf fi))), (aS, .inr (6, [.ref aSk, .ref aSm, .ref aSp, .ref aSt, .ref aSc, .ref aSr, .ref aSe, .int (nI gr), .int (nI br), .int (nI cs), .int (nI wk), .int z])), (aSk, .inl (g.2.1 0, 12, .inl (nIf ki))), (aSm, .inl (g.2.1 0, 12, .inl (nIf ma)))]) := by
  refine Ct.ofX (lv := [some (.ref aM), some (.int (nI q)), some (.int 1)]) (by decide) rfl (Nat.le_of_ble_eq_true rfl) (fun κ => ?_)
  generalize hQ : xQ κ g 0 0 _ = Q
  refine x_aload_n dX8_of_0 rfl ?_
  refine x_iload_n dX8_of_1 rfl ?_
  refine x_cVi0 dX8_of_2 ml_X8_107 mX8_isPeople (ct_isPeople_n κ.2.1 g aM aS aK aL aC aW aR aT aH aF ts kp aSk aSm aSp aSt aSc aSr aSe gr br cs wk z q (hq)) [0, 2] rfl rfl 0 rfl rfl rfl (Nat.le_of_ble_eq_true rfl) (by decide) (Nat.le_refl _) (Nat.le_refl _) ?_
  refine x_if_eq dX8_of_5 (fun c5 => ?_) (fun c5 => ?_)
  · exact absurd c5 (by decide)
  refine x_iload_n dX8_of_8 rfl ?_
  refine x_iconst 0 dX8_of_9 (by decide) ?_
  refine x_iconst 1 dX8_of_10 (by decide) ?_
  refine x_cSi dX8_of_11 ml_X8_89 mX8_within (ct_within_n κ.2.1 g 1 0 1 (⟨by omega, by omega, by omega, by omega⟩)) rfl (Nat.le_of_ble_eq_true rfl) (by decide) (Nat.le_refl _) (Nat.le_refl _) ?_
  refine x_if_ne dX8_of_14 (fun c14 => ?_) (fun c14 => ?_)
  rotate_left
  · exact absurd c14 (by decide)
  refine x_iload_n dX8_of_23 rfl ?_
  refine x_if_ne dX8_of_24 (fun c24 => ?_) (fun c24 => ?_)
  rotate_left
  · exact absurd c24 (by decide)
  refine x_aload_n dX8_of_39 rfl ?_
  refine x_get dX8_of_40 0 0 inX8 fl_X8_10 rfl rfl (by decide) rfl ?_
  refine x_get dX8_of_43 2 1 inX6 fl_X8_101 rfl rfl (by decide) rfl ?_
  refine x_iload_n dX8_of_46 rfl ?_
  refine x_iald dX8_of_47 4 q rfl (rfl) (by omega) (by decide) ?_
  rw [← hQ]
  refine x_iret dX8_of_48 rfl (Nat.le_of_ble_eq_true rfl) (Nat.le_of_ble_eq_true rfl) ?_
  exact ⟨rfl, rfl⟩

-- == many_b ==
theorem dX8_many_0 : xd cX8_many 0 (.aload_n 0) 1 1 := ⟨by decide +kernel, rfl⟩
theorem dX8_many_1 : xd cX8_many 1 (.iload_n 1) 1 2 := ⟨by decide +kernel, rfl⟩
theorem dX8_many_2 : xd cX8_many 2 (.invokevirtual 107) 3 5 := ⟨by decide +kernel, rfl⟩
theorem dX8_many_5 : xj cX8_many 5 (.ifCond .eq) 8 18 := ⟨13, by decide +kernel, rfl, by decide⟩
theorem dX8_many_8 : xd cX8_many 8 (.iload_n 2) 1 9 := ⟨by decide +kernel, rfl⟩
theorem dX8_many_9 : xd cX8_many 9 (.iconst 0) 1 10 := ⟨by decide +kernel, rfl⟩
theorem dX8_many_10 : xd cX8_many 10 (.ldc 93) 2 12 := ⟨by decide +kernel, rfl⟩
theorem dX8_many_12 : xd cX8_many 12 (.invokestatic 89) 3 15 := ⟨by decide +kernel, rfl⟩
theorem dX8_many_15 : xj cX8_many 15 (.ifCond .ne) 18 24 := ⟨9, by decide +kernel, rfl, by decide⟩
theorem dX8_many_18 : xd cX8_many 18 (.aload_n 0) 1 19 := ⟨by decide +kernel, rfl⟩
theorem dX8_many_19 : xd cX8_many 19 (.iconst 0) 1 20 := ⟨by decide +kernel, rfl⟩
theorem dX8_many_20 : xd cX8_many 20 (.invokevirtual 79) 3 23 := ⟨by decide +kernel, rfl⟩
theorem dX8_many_23 : xd cX8_many 23 .ireturn 1 24 := ⟨by decide +kernel, rfl⟩
theorem dX8_many_24 : xd cX8_many 24 (.aload_n 0) 1 25 := ⟨by decide +kernel, rfl⟩
theorem dX8_many_25 : xd cX8_many 25 (.getfield 10) 3 28 := ⟨by decide +kernel, rfl⟩
theorem dX8_many_28 : xd cX8_many 28 (.getfield 101) 3 31 := ⟨by decide +kernel, rfl⟩
theorem dX8_many_31 : xd cX8_many 31 (.iload_n 1) 1 32 := ⟨by decide +kernel, rfl⟩
theorem dX8_many_32 : xd cX8_many 32 .iaload 1 33 := ⟨by decide +kernel, rfl⟩
theorem dX8_many_33 : xd cX8_many 33 (.istore_n 3) 1 34 := ⟨by decide +kernel, rfl⟩
theorem dX8_many_34 : xd cX8_many 34 (.aload_n 0) 1 35 := ⟨by decide +kernel, rfl⟩
theorem dX8_many_35 : xd cX8_many 35 (.getfield 10) 3 38 := ⟨by decide +kernel, rfl⟩
theorem dX8_many_38 : xd cX8_many 38 (.getfield 101) 3 41 := ⟨by decide +kernel, rfl⟩
theorem dX8_many_41 : xd cX8_many 41 (.iload_n 1) 1 42 := ⟨by decide +kernel, rfl⟩
theorem dX8_many_42 : xd cX8_many 42 (.iload_n 2) 1 43 := ⟨by decide +kernel, rfl⟩
theorem dX8_many_43 : xd cX8_many 43 .iastore 1 44 := ⟨by decide +kernel, rfl⟩
theorem dX8_many_44 : xd cX8_many 44 (.aload_n 0) 1 45 := ⟨by decide +kernel, rfl⟩
theorem dX8_many_45 : xd cX8_many 45 (.getfield 36) 3 48 := ⟨by decide +kernel, rfl⟩
theorem dX8_many_48 : xd cX8_many 48 (.invokevirtual 104) 3 51 := ⟨by decide +kernel, rfl⟩
theorem dX8_many_51 : xd cX8_many 51 (.iload_n 3) 1 52 := ⟨by decide +kernel, rfl⟩
theorem dX8_many_52 : xd cX8_many 52 .ireturn 1 53 := ⟨by decide +kernel, rfl⟩

set_option maxRecDepth 100000 in
set_option maxHeartbeats 4000000 in
theorem ct_many_b (l : Launch) (g : XG) (aM aS aK aL aC aW aR aT aH aF : Nat) (ts : Nat) (kp : Int32) (aSk aSm aSp aSt aSc aSr aSe gr br cs wk : Nat) (z : Int32) (fi : Nat → Nat) (pp v : Int32) (hb : wI pp 0 (nI gr - 1) = 0 ∨ wI v 0 99999 = 0) : Ct l g 10 0 0 yX8_many cX8_many 4 (some .int) [.ref aM, .int pp, .int v] [(aM, .inr (8, [.ref aS, .ref aK, .ref aL, .ref aC, .ref aW, .ref aR, .ref aT, .ref aH, .ref aF, .int (nI ts), .int kp])), (aF, .inl (g.2.1 0, 7, .inl (nIf fi))), (aS, .inr (6, [.ref aSk, .ref aSm, .ref aSp, .ref aSt, .ref aSc, .ref aSr, .ref aSe, .int (nI gr), .int (nI br), .int (nI cs), .int (nI wk), .int z]))] (xpi (fndI 0) [(aM, .inr (8, [.ref aS, .ref aK, .ref aL, .ref aC, .ref aW, .ref aR, .ref aT, .ref aH, .ref aF, .int (nI ts), .int kp])), (aF, .inl (g.2.1 0, 7, .inl (nIf (updN fi 0 (fi 0 + 1))))), (aS, .inr (6, [.ref aSk, .ref aSm, .ref aSp, .ref aSt, .ref aSc, .ref aSr, .ref aSe, .int (nI gr), .int (nI br), .int (nI cs), .int (nI wk), .int z]))]) := by
  refine Ct.ofX (lv := [some (.ref aM), some (.int pp), some (.int v), none]) (by decide) rfl (Nat.le_of_ble_eq_true rfl) (fun κ => ?_)
  generalize hQ : xQ κ g 0 0 _ = Q
  refine x_aload_n dX8_many_0 rfl ?_
  refine x_iload_n dX8_many_1 rfl ?_
  refine x_cVi0 dX8_many_2 ml_X8_107 mX8_isPeople (ct_X8_isPeople κ.2.1 g aM aS aK aL aC aW aR aT aH aF ts kp aSk aSm aSp aSt aSc aSr aSe gr br cs wk z pp) [0, 2] rfl rfl 0 rfl rfl rfl (Nat.le_of_ble_eq_true rfl) (by decide) (Nat.le_refl _) (Nat.le_refl _) ?_
  refine x_if_eq dX8_many_5 (fun c5 => ?_) (fun c5 => ?_)
  · have c5 : (wI pp 0 (nI gr - 1)) = 0 := c5
    refine x_aload_n dX8_many_18 rfl ?_
    refine x_iconst 0 dX8_many_19 (by decide) ?_
    refine x_cVi (ws' := [(aM, .inr (8, [.ref aS, .ref aK, .ref aL, .ref aC, .ref aW, .ref aR, .ref aT, .ref aH, .ref aF, .int (nI ts), .int kp])), (aF, .inl (g.2.1 0, 7, .inl (nIf (updN fi 0 (fi 0 + 1))))), (aS, .inr (6, [.ref aSk, .ref aSm, .ref aSp, .ref aSt, .ref aSc, .ref aSr, .ref aSe, .int (nI gr), .int (nI br), .int (nI cs), .int (nI wk), .int z]))]) dX8_many_20 ml_X8_79 mX8_tell (ct_X8_tell κ.2.1 g aM aS aK aL aC aW aR aT aH aF ts kp fi 0 (by decide)) [0, 1] rfl rfl 0 rfl rfl rfl (Nat.le_of_ble_eq_true rfl) (by decide) (Nat.le_refl _) (Nat.le_refl _) (rfl : [aM, aF] = [aM, aF]) rfl ?_
    rw [← hQ]
    refine x_iret dX8_many_23 rfl (Nat.le_of_ble_eq_true rfl) (Nat.le_of_ble_eq_true rfl) ?_
    exact ⟨rfl, rfl⟩
  · have c5 : ¬ ((wI pp 0 (nI gr - 1)) = 0) := c5
    refine x_iload_n dX8_many_8 rfl ?_
    refine x_iconst 0 dX8_many_9 (by decide) ?_
    refine x_ldc dX8_many_10 k_X8_93 ?_
    refine x_cSi dX8_many_12 ml_X8_89 mX8_within (ct_X8_within κ.2.1 g v 0 99999) rfl (Nat.le_of_ble_eq_true rfl) (by decide) (Nat.le_refl _) (Nat.le_refl _) ?_
    refine x_if_ne dX8_many_15 (fun c15 => ?_) (fun c15 => ?_)
    · have c15 : ¬ ((wI v 0 99999) = 0) := c15
      exact absurd (hb.resolve_left c5) c15
    · have c15 : (wI v 0 99999) = 0 := c15
      refine x_aload_n dX8_many_18 rfl ?_
      refine x_iconst 0 dX8_many_19 (by decide) ?_
      refine x_cVi (ws' := [(aM, .inr (8, [.ref aS, .ref aK, .ref aL, .ref aC, .ref aW, .ref aR, .ref aT, .ref aH, .ref aF, .int (nI ts), .int kp])), (aF, .inl (g.2.1 0, 7, .inl (nIf (updN fi 0 (fi 0 + 1))))), (aS, .inr (6, [.ref aSk, .ref aSm, .ref aSp, .ref aSt, .ref aSc, .ref aSr, .ref aSe, .int (nI gr), .int (nI br), .int (nI cs), .int (nI wk), .int z]))]) dX8_many_20 ml_X8_79 mX8_tell (ct_X8_tell κ.2.1 g aM aS aK aL aC aW aR aT aH aF ts kp fi 0 (by decide)) [0, 1] rfl rfl 0 rfl rfl rfl (Nat.le_of_ble_eq_true rfl) (by decide) (Nat.le_refl _) (Nat.le_refl _) (rfl : [aM, aF] = [aM, aF]) rfl ?_
      rw [← hQ]
      refine x_iret dX8_many_23 rfl (Nat.le_of_ble_eq_true rfl) (Nat.le_of_ble_eq_true rfl) ?_
      exact ⟨rfl, rfl⟩

-- == many_o ==
set_option maxRecDepth 100000 in
set_option maxHeartbeats 4000000 in
theorem ct_many_o (l : Launch) (g : XG) (aM aS aK aL aC aW aR aT aH aF : Nat) (ts : Nat) (kp : Int32) (aSk aSm aSp aSt aSc aSr aSe gr br cs wk : Nat) (z : Int32) (fi : Nat → Nat) (aV aO aCs aCl aCh aCw aCc aCb tot lat : Nat) (se sw : Int32) (ki ma : Nat → Nat) (q mn : Nat) (hq : q < gr ∧ gr ≤ 12) (hmn : mn ≤ 99999) : Ct l g 10 0 0 yX8_many cX8_many 4 (some .int) [.ref aM, .int (nI q), .int (nI mn)] [(aM, .inr (8, [.ref aS, .ref aK, .ref aL, .ref aC, .ref aW, .ref aR, .ref aT, .ref aH, .ref aF, .int (nI ts), .int kp])), (aF, .inl (g.2.1 0, 7, .inl (nIf fi))), (aS, .inr (6, [.ref aSk, .ref aSm, .ref aSp, .ref aSt, .ref aSc, .ref aSr, .ref aSe, .int (nI gr), .int (nI br), .int (nI cs), .int (nI wk), .int z])), (aC, .inr (0, [.ref aS, .ref aL, .ref aV, .ref aO, .ref aCs, .ref aCl, .ref aCh, .ref aCw, .ref aCc, .ref aCb, .int (nI tot), .int (nI lat), .int se, .int sw])), (aSk, .inl (g.2.1 0, 12, .inl (nIf ki))), (aSm, .inl (g.2.1 0, 12, .inl (nIf ma)))] (xpi (nI (ma q)) [(aM, .inr (8, [.ref aS, .ref aK, .ref aL, .ref aC, .ref aW, .ref aR, .ref aT, .ref aH, .ref aF, .int (nI ts), .int kp])), (aF, .inl (g.2.1 0, 7, .inl (nIf fi))), (aS, .inr (6, [.ref aSk, .ref aSm, .ref aSp, .ref aSt, .ref aSc, .ref aSr, .ref aSe, .int (nI gr), .int (nI br), .int (nI cs), .int (nI wk), .int z])), (aC, .inr (0, [.ref aS, .ref aL, .ref aV, .ref aO, .ref aCs, .ref aCl, .ref aCh, .ref aCw, .ref aCc, .ref aCb, .int (nI tot), .int (nI lat), .int 0, .int 0])), (aSk, .inl (g.2.1 0, 12, .inl (nIf ki))), (aSm, .inl (g.2.1 0, 12, .inl (nIf (updN ma q mn))))]) := by
  refine Ct.ofX (lv := [some (.ref aM), some (.int (nI q)), some (.int (nI mn)), none]) (by decide) rfl (Nat.le_of_ble_eq_true rfl) (fun κ => ?_)
  generalize hQ : xQ κ g 0 0 _ = Q
  refine x_aload_n dX8_many_0 rfl ?_
  refine x_iload_n dX8_many_1 rfl ?_
  refine x_cVi0 dX8_many_2 ml_X8_107 mX8_isPeople (ct_isPeople_n κ.2.1 g aM aS aK aL aC aW aR aT aH aF ts kp aSk aSm aSp aSt aSc aSr aSe gr br cs wk z q (hq)) [0, 2] rfl rfl 0 rfl rfl rfl (Nat.le_of_ble_eq_true rfl) (by decide) (Nat.le_refl _) (Nat.le_refl _) ?_
  refine x_if_eq dX8_many_5 (fun c5 => ?_) (fun c5 => ?_)
  · exact absurd c5 (by decide)
  refine x_iload_n dX8_many_8 rfl ?_
  refine x_iconst 0 dX8_many_9 (by decide) ?_
  refine x_ldc dX8_many_10 k_X8_93 ?_
  refine x_cSi dX8_many_12 ml_X8_89 mX8_within (ct_within_n κ.2.1 g mn 0 99999 (⟨by omega, by omega, by omega, by omega⟩)) rfl (Nat.le_of_ble_eq_true rfl) (by decide) (Nat.le_refl _) (Nat.le_refl _) ?_
  refine x_if_ne dX8_many_15 (fun c15 => ?_) (fun c15 => ?_)
  rotate_left
  · exact absurd c15 (by decide)
  refine x_aload_n dX8_many_24 rfl ?_
  refine x_get dX8_many_25 0 0 inX8 fl_X8_10 rfl rfl (by decide) rfl ?_
  refine x_get dX8_many_28 2 1 inX6 fl_X8_101 rfl rfl (by decide) rfl ?_
  refine x_iload_n dX8_many_31 rfl ?_
  refine x_iald dX8_many_32 5 q rfl (rfl) (by omega) (by decide) ?_
  refine x_istore_n (lv' := [some (.ref aM), some (.int (nI q)), some (.int (nI mn)), some (.int (nI (ma q)))]) dX8_many_33 (xlt rfl) rfl ?_
  refine x_aload_n dX8_many_34 rfl ?_
  refine x_get dX8_many_35 0 0 inX8 fl_X8_10 rfl rfl (by decide) rfl ?_
  refine x_get dX8_many_38 2 1 inX6 fl_X8_101 rfl rfl (by decide) rfl ?_
  refine x_iload_n dX8_many_41 rfl ?_
  refine x_iload_n dX8_many_42 rfl ?_
  refine x_iast (ws' := [(aM, .inr (8, [.ref aS, .ref aK, .ref aL, .ref aC, .ref aW, .ref aR, .ref aT, .ref aH, .ref aF, .int (nI ts), .int kp])), (aF, .inl (g.2.1 0, 7, .inl (nIf fi))), (aS, .inr (6, [.ref aSk, .ref aSm, .ref aSp, .ref aSt, .ref aSc, .ref aSr, .ref aSe, .int (nI gr), .int (nI br), .int (nI cs), .int (nI wk), .int z])), (aC, .inr (0, [.ref aS, .ref aL, .ref aV, .ref aO, .ref aCs, .ref aCl, .ref aCh, .ref aCw, .ref aCc, .ref aCb, .int (nI tot), .int (nI lat), .int se, .int sw])), (aSk, .inl (g.2.1 0, 12, .inl (nIf ki))), (aSm, .inl (g.2.1 0, 12, .inl (nIf (updN ma q mn))))]) dX8_many_43 5 q rfl (rfl) (by omega) (by decide) (by rw [upd_nIf]; rfl) ?_
  refine x_aload_n dX8_many_44 rfl ?_
  refine x_get dX8_many_45 0 3 inX8 fl_X8_36 rfl rfl (by decide) rfl ?_
  refine x_cVv (ws' := [(aM, .inr (8, [.ref aS, .ref aK, .ref aL, .ref aC, .ref aW, .ref aR, .ref aT, .ref aH, .ref aF, .int (nI ts), .int kp])), (aF, .inl (g.2.1 0, 7, .inl (nIf fi))), (aS, .inr (6, [.ref aSk, .ref aSm, .ref aSp, .ref aSt, .ref aSc, .ref aSr, .ref aSe, .int (nI gr), .int (nI br), .int (nI cs), .int (nI wk), .int z])), (aC, .inr (0, [.ref aS, .ref aL, .ref aV, .ref aO, .ref aCs, .ref aCl, .ref aCh, .ref aCw, .ref aCc, .ref aCb, .int (nI tot), .int (nI lat), .int 0, .int 0])), (aSk, .inl (g.2.1 0, 12, .inl (nIf ki))), (aSm, .inl (g.2.1 0, 12, .inl (nIf (updN ma q mn))))]) dX8_many_48 ml_X8_104 mX0_stir (ct_X0_stir κ.2.1 g aC aS aL aV aO aCs aCl aCh aCw aCc aCb tot lat se sw) [3] rfl rfl 3 rfl rfl rfl (Nat.le_of_ble_eq_true rfl) (by decide) (Nat.le_refl _) (Nat.le_refl _) (rfl : [aC] = [aC]) rfl ?_
  refine x_iload_n dX8_many_51 rfl ?_
  rw [← hQ]
  refine x_iret dX8_many_52 rfl (Nat.le_of_ble_eq_true rfl) (Nat.le_of_ble_eq_true rfl) ?_
  exact ⟨rfl, rfl⟩

-- == as_b ==
theorem dX8_as_0 : xd cX8_as 0 (.aload_n 0) 1 1 := ⟨by decide +kernel, rfl⟩
theorem dX8_as_1 : xd cX8_as 1 (.iload_n 1) 1 2 := ⟨by decide +kernel, rfl⟩
theorem dX8_as_2 : xd cX8_as 2 (.invokevirtual 107) 3 5 := ⟨by decide +kernel, rfl⟩
theorem dX8_as_5 : xj cX8_as 5 (.ifCond .eq) 8 18 := ⟨13, by decide +kernel, rfl, by decide⟩
theorem dX8_as_8 : xd cX8_as 8 (.iload_n 2) 1 9 := ⟨by decide +kernel, rfl⟩
theorem dX8_as_9 : xd cX8_as 9 (.iconst 0) 1 10 := ⟨by decide +kernel, rfl⟩
theorem dX8_as_10 : xd cX8_as 10 (.bipush 7) 2 12 := ⟨by decide +kernel, rfl⟩
theorem dX8_as_12 : xd cX8_as 12 (.invokestatic 89) 3 15 := ⟨by decide +kernel, rfl⟩
theorem dX8_as_15 : xj cX8_as 15 (.ifCond .ne) 18 24 := ⟨9, by decide +kernel, rfl, by decide⟩
theorem dX8_as_18 : xd cX8_as 18 (.aload_n 0) 1 19 := ⟨by decide +kernel, rfl⟩
theorem dX8_as_19 : xd cX8_as 19 (.iconst 0) 1 20 := ⟨by decide +kernel, rfl⟩
theorem dX8_as_20 : xd cX8_as 20 (.invokevirtual 79) 3 23 := ⟨by decide +kernel, rfl⟩
theorem dX8_as_23 : xd cX8_as 23 .ireturn 1 24 := ⟨by decide +kernel, rfl⟩
theorem dX8_as_24 : xd cX8_as 24 (.aload_n 0) 1 25 := ⟨by decide +kernel, rfl⟩
theorem dX8_as_25 : xd cX8_as 25 (.getfield 10) 3 28 := ⟨by decide +kernel, rfl⟩
theorem dX8_as_28 : xd cX8_as 28 (.getfield 98) 3 31 := ⟨by decide +kernel, rfl⟩
theorem dX8_as_31 : xd cX8_as 31 (.iload_n 1) 1 32 := ⟨by decide +kernel, rfl⟩
theorem dX8_as_32 : xd cX8_as 32 .iaload 1 33 := ⟨by decide +kernel, rfl⟩
theorem dX8_as_33 : xd cX8_as 33 (.iload_n 2) 1 34 := ⟨by decide +kernel, rfl⟩
theorem dX8_as_34 : xd cX8_as 34 (.invokestatic 110) 3 37 := ⟨by decide +kernel, rfl⟩
theorem dX8_as_37 : xj cX8_as 37 (.ifCond .eq) 40 52 := ⟨15, by decide +kernel, rfl, by decide⟩
theorem dX8_as_40 : xd cX8_as 40 (.aload_n 0) 1 41 := ⟨by decide +kernel, rfl⟩
theorem dX8_as_41 : xd cX8_as 41 (.getfield 10) 3 44 := ⟨by decide +kernel, rfl⟩
theorem dX8_as_44 : xd cX8_as 44 (.getfield 101) 3 47 := ⟨by decide +kernel, rfl⟩
theorem dX8_as_47 : xd cX8_as 47 (.iload_n 1) 1 48 := ⟨by decide +kernel, rfl⟩
theorem dX8_as_48 : xd cX8_as 48 .iaload 1 49 := ⟨by decide +kernel, rfl⟩
theorem dX8_as_49 : xj cX8_as 49 .goto 52 57 := ⟨8, by decide +kernel, rfl, by decide⟩
theorem dX8_as_52 : xd cX8_as 52 (.aload_n 0) 1 53 := ⟨by decide +kernel, rfl⟩
theorem dX8_as_53 : xd cX8_as 53 (.iconst 2) 1 54 := ⟨by decide +kernel, rfl⟩
theorem dX8_as_54 : xd cX8_as 54 (.invokevirtual 79) 3 57 := ⟨by decide +kernel, rfl⟩
theorem dX8_as_57 : xd cX8_as 57 .ireturn 1 58 := ⟨by decide +kernel, rfl⟩

set_option maxRecDepth 100000 in
set_option maxHeartbeats 4000000 in
theorem ct_as_b (l : Launch) (g : XG) (aM aS aK aL aC aW aR aT aH aF : Nat) (ts : Nat) (kp : Int32) (aSk aSm aSp aSt aSc aSr aSe gr br cs wk : Nat) (z : Int32) (fi : Nat → Nat) (pp kd : Int32) (hb : wI pp 0 (nI gr - 1) = 0 ∨ wI kd 0 7 = 0) : Ct l g 10 0 0 yX8_as cX8_as 3 (some .int) [.ref aM, .int pp, .int kd] [(aM, .inr (8, [.ref aS, .ref aK, .ref aL, .ref aC, .ref aW, .ref aR, .ref aT, .ref aH, .ref aF, .int (nI ts), .int kp])), (aF, .inl (g.2.1 0, 7, .inl (nIf fi))), (aS, .inr (6, [.ref aSk, .ref aSm, .ref aSp, .ref aSt, .ref aSc, .ref aSr, .ref aSe, .int (nI gr), .int (nI br), .int (nI cs), .int (nI wk), .int z]))] (xpi (fndI 0) [(aM, .inr (8, [.ref aS, .ref aK, .ref aL, .ref aC, .ref aW, .ref aR, .ref aT, .ref aH, .ref aF, .int (nI ts), .int kp])), (aF, .inl (g.2.1 0, 7, .inl (nIf (updN fi 0 (fi 0 + 1))))), (aS, .inr (6, [.ref aSk, .ref aSm, .ref aSp, .ref aSt, .ref aSc, .ref aSr, .ref aSe, .int (nI gr), .int (nI br), .int (nI cs), .int (nI wk), .int z]))]) := by
  refine Ct.ofX (lv := [some (.ref aM), some (.int pp), some (.int kd)]) (by decide) rfl (Nat.le_of_ble_eq_true rfl) (fun κ => ?_)
  generalize hQ : xQ κ g 0 0 _ = Q
  refine x_aload_n dX8_as_0 rfl ?_
  refine x_iload_n dX8_as_1 rfl ?_
  refine x_cVi0 dX8_as_2 ml_X8_107 mX8_isPeople (ct_X8_isPeople κ.2.1 g aM aS aK aL aC aW aR aT aH aF ts kp aSk aSm aSp aSt aSc aSr aSe gr br cs wk z pp) [0, 2] rfl rfl 0 rfl rfl rfl (Nat.le_of_ble_eq_true rfl) (by decide) (Nat.le_refl _) (Nat.le_refl _) ?_
  refine x_if_eq dX8_as_5 (fun c5 => ?_) (fun c5 => ?_)
  · have c5 : (wI pp 0 (nI gr - 1)) = 0 := c5
    refine x_aload_n dX8_as_18 rfl ?_
    refine x_iconst 0 dX8_as_19 (by decide) ?_
    refine x_cVi (ws' := [(aM, .inr (8, [.ref aS, .ref aK, .ref aL, .ref aC, .ref aW, .ref aR, .ref aT, .ref aH, .ref aF, .int (nI ts), .int kp])), (aF, .inl (g.2.1 0, 7, .inl (nIf (updN fi 0 (fi 0 + 1))))), (aS, .inr (6, [.ref aSk, .ref aSm, .ref aSp, .ref aSt, .ref aSc, .ref aSr, .ref aSe, .int (nI gr), .int (nI br), .int (nI cs), .int (nI wk), .int z]))]) dX8_as_20 ml_X8_79 mX8_tell (ct_X8_tell κ.2.1 g aM aS aK aL aC aW aR aT aH aF ts kp fi 0 (by decide)) [0, 1] rfl rfl 0 rfl rfl rfl (Nat.le_of_ble_eq_true rfl) (by decide) (Nat.le_refl _) (Nat.le_refl _) (rfl : [aM, aF] = [aM, aF]) rfl ?_
    rw [← hQ]
    refine x_iret dX8_as_23 rfl (Nat.le_of_ble_eq_true rfl) (Nat.le_of_ble_eq_true rfl) ?_
    exact ⟨rfl, rfl⟩
  · have c5 : ¬ ((wI pp 0 (nI gr - 1)) = 0) := c5
    refine x_iload_n dX8_as_8 rfl ?_
    refine x_iconst 0 dX8_as_9 (by decide) ?_
    refine x_bipush 7 dX8_as_10 (by decide) ?_
    refine x_cSi dX8_as_12 ml_X8_89 mX8_within (ct_X8_within κ.2.1 g kd 0 7) rfl (Nat.le_of_ble_eq_true rfl) (by decide) (Nat.le_refl _) (Nat.le_refl _) ?_
    refine x_if_ne dX8_as_15 (fun c15 => ?_) (fun c15 => ?_)
    · have c15 : ¬ ((wI kd 0 7) = 0) := c15
      exact absurd (hb.resolve_left c5) c15
    · have c15 : (wI kd 0 7) = 0 := c15
      refine x_aload_n dX8_as_18 rfl ?_
      refine x_iconst 0 dX8_as_19 (by decide) ?_
      refine x_cVi (ws' := [(aM, .inr (8, [.ref aS, .ref aK, .ref aL, .ref aC, .ref aW, .ref aR, .ref aT, .ref aH, .ref aF, .int (nI ts), .int kp])), (aF, .inl (g.2.1 0, 7, .inl (nIf (updN fi 0 (fi 0 + 1))))), (aS, .inr (6, [.ref aSk, .ref aSm, .ref aSp, .ref aSt, .ref aSc, .ref aSr, .ref aSe, .int (nI gr), .int (nI br), .int (nI cs), .int (nI wk), .int z]))]) dX8_as_20 ml_X8_79 mX8_tell (ct_X8_tell κ.2.1 g aM aS aK aL aC aW aR aT aH aF ts kp fi 0 (by decide)) [0, 1] rfl rfl 0 rfl rfl rfl (Nat.le_of_ble_eq_true rfl) (by decide) (Nat.le_refl _) (Nat.le_refl _) (rfl : [aM, aF] = [aM, aF]) rfl ?_
      rw [← hQ]
      refine x_iret dX8_as_23 rfl (Nat.le_of_ble_eq_true rfl) (Nat.le_of_ble_eq_true rfl) ?_
      exact ⟨rfl, rfl⟩

-- == as_k ==
set_option maxRecDepth 100000 in
set_option maxHeartbeats 4000000 in
theorem ct_as_k (l : Launch) (g : XG) (aM aS aK aL aC aW aR aT aH aF : Nat) (ts : Nat) (kp : Int32) (aSk aSm aSp aSt aSc aSr aSe gr br cs wk : Nat) (z : Int32) (fi : Nat → Nat) (ki ma : Nat → Nat) (q kd : Nat) (hq : q < gr ∧ gr ≤ 12) (hkd : kd ≤ 7) (hki : ∀ j, ki j ≤ 7) (hu : udI (ki q) (nI kd) = 0) : Ct l g 10 0 0 yX8_as cX8_as 3 (some .int) [.ref aM, .int (nI q), .int (nI kd)] [(aM, .inr (8, [.ref aS, .ref aK, .ref aL, .ref aC, .ref aW, .ref aR, .ref aT, .ref aH, .ref aF, .int (nI ts), .int kp])), (aF, .inl (g.2.1 0, 7, .inl (nIf fi))), (aS, .inr (6, [.ref aSk, .ref aSm, .ref aSp, .ref aSt, .ref aSc, .ref aSr, .ref aSe, .int (nI gr), .int (nI br), .int (nI cs), .int (nI wk), .int z])), (aSk, .inl (g.2.1 0, 12, .inl (nIf ki))), (aSm, .inl (g.2.1 0, 12, .inl (nIf ma)))] (xpi (fndI 2) [(aM, .inr (8, [.ref aS, .ref aK, .ref aL, .ref aC, .ref aW, .ref aR, .ref aT, .ref aH, .ref aF, .int (nI ts), .int kp])), (aF, .inl (g.2.1 0, 7, .inl (nIf (updN fi 2 (fi 2 + 1))))), (aS, .inr (6, [.ref aSk, .ref aSm, .ref aSp, .ref aSt, .ref aSc, .ref aSr, .ref aSe, .int (nI gr), .int (nI br), .int (nI cs), .int (nI wk), .int z])), (aSk, .inl (g.2.1 0, 12, .inl (nIf ki))), (aSm, .inl (g.2.1 0, 12, .inl (nIf ma)))]) := by
  refine Ct.ofX (lv := [some (.ref aM), some (.int (nI q)), some (.int (nI kd))]) (by decide) rfl (Nat.le_of_ble_eq_true rfl) (fun κ => ?_)
  generalize hQ : xQ κ g 0 0 _ = Q
  refine x_aload_n dX8_as_0 rfl ?_
  refine x_iload_n dX8_as_1 rfl ?_
  refine x_cVi0 dX8_as_2 ml_X8_107 mX8_isPeople (ct_isPeople_n κ.2.1 g aM aS aK aL aC aW aR aT aH aF ts kp aSk aSm aSp aSt aSc aSr aSe gr br cs wk z q (hq)) [0, 2] rfl rfl 0 rfl rfl rfl (Nat.le_of_ble_eq_true rfl) (by decide) (Nat.le_refl _) (Nat.le_refl _) ?_
  refine x_if_eq dX8_as_5 (fun c5 => ?_) (fun c5 => ?_)
  · exact absurd c5 (by decide)
  refine x_iload_n dX8_as_8 rfl ?_
  refine x_iconst 0 dX8_as_9 (by decide) ?_
  refine x_bipush 7 dX8_as_10 (by decide) ?_
  refine x_cSi dX8_as_12 ml_X8_89 mX8_within (ct_within_n κ.2.1 g kd 0 7 (⟨by omega, by omega, by omega, by omega⟩)) rfl (Nat.le_of_ble_eq_true rfl) (by decide) (Nat.le_refl _) (Nat.le_refl _) ?_
  refine x_if_ne dX8_as_15 (fun c15 => ?_) (fun c15 => ?_)
  rotate_left
  · exact absurd c15 (by decide)
  refine x_aload_n dX8_as_24 rfl ?_
  refine x_get dX8_as_25 0 0 inX8 fl_X8_10 rfl rfl (by decide) rfl ?_
  refine x_get dX8_as_28 2 0 inX6 fl_X8_98 rfl rfl (by decide) rfl ?_
  refine x_iload_n dX8_as_31 rfl ?_
  refine x_iald dX8_as_32 3 q rfl (rfl) (by omega) (by decide) ?_
  refine x_iload_n dX8_as_33 rfl ?_
  refine x_cSi dX8_as_34 ml_X8_110 mX8_isUnder (ct_X8_isUnder κ.2.1 g (ki q) (nI kd) (hki q)) rfl (Nat.le_of_ble_eq_true rfl) (by decide) (Nat.le_refl _) (Nat.le_refl _) ?_
  refine x_rei (0) (hu) ?_
  refine x_if_eq dX8_as_37 (fun c37 => ?_) (fun c37 => ?_)
  rotate_left
  · exact absurd c37 (by decide)
  refine x_aload_n dX8_as_52 rfl ?_
  refine x_iconst 2 dX8_as_53 (by decide) ?_
  refine x_cVi (ws' := [(aM, .inr (8, [.ref aS, .ref aK, .ref aL, .ref aC, .ref aW, .ref aR, .ref aT, .ref aH, .ref aF, .int (nI ts), .int kp])), (aF, .inl (g.2.1 0, 7, .inl (nIf (updN fi 2 (fi 2 + 1))))), (aS, .inr (6, [.ref aSk, .ref aSm, .ref aSp, .ref aSt, .ref aSc, .ref aSr, .ref aSe, .int (nI gr), .int (nI br), .int (nI cs), .int (nI wk), .int z])), (aSk, .inl (g.2.1 0, 12, .inl (nIf ki))), (aSm, .inl (g.2.1 0, 12, .inl (nIf ma)))]) dX8_as_54 ml_X8_79 mX8_tell (ct_X8_tell κ.2.1 g aM aS aK aL aC aW aR aT aH aF ts kp fi 2 (by decide)) [0, 1] rfl rfl 0 rfl rfl rfl (Nat.le_of_ble_eq_true rfl) (by decide) (Nat.le_refl _) (Nat.le_refl _) (rfl : [aM, aF] = [aM, aF]) rfl ?_
  rw [← hQ]
  refine x_iret dX8_as_57 rfl (Nat.le_of_ble_eq_true rfl) (Nat.le_of_ble_eq_true rfl) ?_
  exact ⟨rfl, rfl⟩

-- == as_o ==
set_option maxRecDepth 100000 in
set_option maxHeartbeats 4000000 in
theorem ct_as_o (l : Launch) (g : XG) (aM aS aK aL aC aW aR aT aH aF : Nat) (ts : Nat) (kp : Int32) (aSk aSm aSp aSt aSc aSr aSe gr br cs wk : Nat) (z : Int32) (fi : Nat → Nat) (ki ma : Nat → Nat) (q kd : Nat) (hq : q < gr ∧ gr ≤ 12) (hkd : kd ≤ 7) (hki : ∀ j, ki j ≤ 7) (hu : udI (ki q) (nI kd) = 1) : Ct l g 10 0 0 yX8_as cX8_as 3 (some .int) [.ref aM, .int (nI q), .int (nI kd)] [(aM, .inr (8, [.ref aS, .ref aK, .ref aL, .ref aC, .ref aW, .ref aR, .ref aT, .ref aH, .ref aF, .int (nI ts), .int kp])), (aF, .inl (g.2.1 0, 7, .inl (nIf fi))), (aS, .inr (6, [.ref aSk, .ref aSm, .ref aSp, .ref aSt, .ref aSc, .ref aSr, .ref aSe, .int (nI gr), .int (nI br), .int (nI cs), .int (nI wk), .int z])), (aSk, .inl (g.2.1 0, 12, .inl (nIf ki))), (aSm, .inl (g.2.1 0, 12, .inl (nIf ma)))] (xpi (nI (ma q)) [(aM, .inr (8, [.ref aS, .ref aK, .ref aL, .ref aC, .ref aW, .ref aR, .ref aT, .ref aH, .ref aF, .int (nI ts), .int kp])), (aF, .inl (g.2.1 0, 7, .inl (nIf fi))), (aS, .inr (6, [.ref aSk, .ref aSm, .ref aSp, .ref aSt, .ref aSc, .ref aSr, .ref aSe, .int (nI gr), .int (nI br), .int (nI cs), .int (nI wk), .int z])), (aSk, .inl (g.2.1 0, 12, .inl (nIf ki))), (aSm, .inl (g.2.1 0, 12, .inl (nIf ma)))]) := by
  refine Ct.ofX (lv := [some (.ref aM), some (.int (nI q)), some (.int (nI kd))]) (by decide) rfl (Nat.le_of_ble_eq_true rfl) (fun κ => ?_)
  generalize hQ : xQ κ g 0 0 _ = Q
  refine x_aload_n dX8_as_0 rfl ?_
  refine x_iload_n dX8_as_1 rfl ?_
  refine x_cVi0 dX8_as_2 ml_X8_107 mX8_isPeople (ct_isPeople_n κ.2.1 g aM aS aK aL aC aW aR aT aH aF ts kp aSk aSm aSp aSt aSc aSr aSe gr br cs wk z q (hq)) [0, 2] rfl rfl 0 rfl rfl rfl (Nat.le_of_ble_eq_true rfl) (by decide) (Nat.le_refl _) (Nat.le_refl _) ?_
  refine x_if_eq dX8_as_5 (fun c5 => ?_) (fun c5 => ?_)
  · exact absurd c5 (by decide)
  refine x_iload_n dX8_as_8 rfl ?_
  refine x_iconst 0 dX8_as_9 (by decide) ?_
  refine x_bipush 7 dX8_as_10 (by decide) ?_
  refine x_cSi dX8_as_12 ml_X8_89 mX8_within (ct_within_n κ.2.1 g kd 0 7 (⟨by omega, by omega, by omega, by omega⟩)) rfl (Nat.le_of_ble_eq_true rfl) (by decide) (Nat.le_refl _) (Nat.le_refl _) ?_
  refine x_if_ne dX8_as_15 (fun c15 => ?_) (fun c15 => ?_)
  rotate_left
  · exact absurd c15 (by decide)
  refine x_aload_n dX8_as_24 rfl ?_
  refine x_get dX8_as_25 0 0 inX8 fl_X8_10 rfl rfl (by decide) rfl ?_
  refine x_get dX8_as_28 2 0 inX6 fl_X8_98 rfl rfl (by decide) rfl ?_
  refine x_iload_n dX8_as_31 rfl ?_
  refine x_iald dX8_as_32 3 q rfl (rfl) (by omega) (by decide) ?_
  refine x_iload_n dX8_as_33 rfl ?_
  refine x_cSi dX8_as_34 ml_X8_110 mX8_isUnder (ct_X8_isUnder κ.2.1 g (ki q) (nI kd) (hki q)) rfl (Nat.le_of_ble_eq_true rfl) (by decide) (Nat.le_refl _) (Nat.le_refl _) ?_
  refine x_rei (1) (hu) ?_
  refine x_if_eq dX8_as_37 (fun c37 => ?_) (fun c37 => ?_)
  · exact absurd c37 (by decide)
  refine x_aload_n dX8_as_40 rfl ?_
  refine x_get dX8_as_41 0 0 inX8 fl_X8_10 rfl rfl (by decide) rfl ?_
  refine x_get dX8_as_44 2 1 inX6 fl_X8_101 rfl rfl (by decide) rfl ?_
  refine x_iload_n dX8_as_47 rfl ?_
  refine x_iald dX8_as_48 4 q rfl (rfl) (by omega) (by decide) ?_
  refine x_goto dX8_as_49 ?_
  rw [← hQ]
  refine x_iret dX8_as_57 rfl (Nat.le_of_ble_eq_true rfl) (Nat.le_of_ble_eq_true rfl) ?_
  exact ⟨rfl, rfl⟩

-- == returned_o ==
theorem dX8_returned_0 : xd cX8_returned 0 (.iconst 0) 1 1 := ⟨by decide +kernel, rfl⟩
theorem dX8_returned_1 : xd cX8_returned 1 (.istore_n 1) 1 2 := ⟨by decide +kernel, rfl⟩
theorem dX8_returned_2 : xd cX8_returned 2 (.iconst 0) 1 3 := ⟨by decide +kernel, rfl⟩
theorem dX8_returned_3 : xd cX8_returned 3 (.istore_n 2) 1 4 := ⟨by decide +kernel, rfl⟩
theorem dX8_returned_4 : xd cX8_returned 4 (.iload_n 2) 1 5 := ⟨by decide +kernel, rfl⟩
theorem dX8_returned_5 : xd cX8_returned 5 (.aload_n 0) 1 6 := ⟨by decide +kernel, rfl⟩
theorem dX8_returned_6 : xd cX8_returned 6 (.getfield 10) 3 9 := ⟨by decide +kernel, rfl⟩
theorem dX8_returned_9 : xd cX8_returned 9 (.getfield 130) 3 12 := ⟨by decide +kernel, rfl⟩
theorem dX8_returned_12 : xj cX8_returned 12 (.if_icmp .ge) 15 39 := ⟨27, by decide +kernel, rfl, by decide⟩
theorem dX8_returned_15 : xd cX8_returned 15 (.iload_n 2) 1 16 := ⟨by decide +kernel, rfl⟩
theorem dX8_returned_16 : xd cX8_returned 16 (.bipush 40) 2 18 := ⟨by decide +kernel, rfl⟩
theorem dX8_returned_18 : xj cX8_returned 18 (.if_icmp .ge) 21 39 := ⟨21, by decide +kernel, rfl, by decide⟩
theorem dX8_returned_21 : xd cX8_returned 21 (.iload_n 1) 1 22 := ⟨by decide +kernel, rfl⟩
theorem dX8_returned_22 : xd cX8_returned 22 (.aload_n 0) 1 23 := ⟨by decide +kernel, rfl⟩
theorem dX8_returned_23 : xd cX8_returned 23 (.getfield 10) 3 26 := ⟨by decide +kernel, rfl⟩
theorem dX8_returned_26 : xd cX8_returned 26 (.getfield 133) 3 29 := ⟨by decide +kernel, rfl⟩
theorem dX8_returned_29 : xd cX8_returned 29 (.iload_n 2) 1 30 := ⟨by decide +kernel, rfl⟩
theorem dX8_returned_30 : xd cX8_returned 30 .iaload 1 31 := ⟨by decide +kernel, rfl⟩
theorem dX8_returned_31 : xd cX8_returned 31 .iadd 1 32 := ⟨by decide +kernel, rfl⟩
theorem dX8_returned_32 : xd cX8_returned 32 (.istore_n 1) 1 33 := ⟨by decide +kernel, rfl⟩
theorem dX8_returned_33 : xd cX8_returned 33 (.iinc 2 1) 3 36 := ⟨by decide +kernel, rfl⟩
theorem dX8_returned_36 : xj cX8_returned 36 .goto 39 4 := ⟨(-32), by decide +kernel, rfl, by decide⟩
theorem dX8_returned_39 : xd cX8_returned 39 (.aload_n 0) 1 40 := ⟨by decide +kernel, rfl⟩
theorem dX8_returned_40 : xd cX8_returned 40 (.getfield 10) 3 43 := ⟨by decide +kernel, rfl⟩
theorem dX8_returned_43 : xd cX8_returned 43 (.iconst 0) 1 44 := ⟨by decide +kernel, rfl⟩
theorem dX8_returned_44 : xd cX8_returned 44 (.putfield 130) 3 47 := ⟨by decide +kernel, rfl⟩
theorem dX8_returned_47 : xd cX8_returned 47 (.aload_n 0) 1 48 := ⟨by decide +kernel, rfl⟩
theorem dX8_returned_48 : xd cX8_returned 48 (.getfield 36) 3 51 := ⟨by decide +kernel, rfl⟩
theorem dX8_returned_51 : xd cX8_returned 51 (.invokevirtual 104) 3 54 := ⟨by decide +kernel, rfl⟩
theorem dX8_returned_54 : xd cX8_returned 54 (.iload_n 1) 1 55 := ⟨by decide +kernel, rfl⟩
theorem dX8_returned_55 : xd cX8_returned 55 .ireturn 1 56 := ⟨by decide +kernel, rfl⟩

set_option maxRecDepth 100000 in
set_option maxHeartbeats 4000000 in
theorem ct_returned_o (l : Launch) (g : XG) (aM aS aK aL aC aW aR aT aH aF : Nat) (ts : Nat) (kp : Int32) (aSk aSm aSp aSt aSc aSr aSe gr br cs wk : Nat) (z : Int32) (aV aO aCs aCl aCh aCw aCc aCb tot lat : Nat) (se sw : Int32) (bt : Nat → Nat) (hbr : br ≤ 40) : Ct l g 10 0 0 yX8_returned cX8_returned 3 (some .int) [.ref aM] [(aM, .inr (8, [.ref aS, .ref aK, .ref aL, .ref aC, .ref aW, .ref aR, .ref aT, .ref aH, .ref aF, .int (nI ts), .int kp])), (aS, .inr (6, [.ref aSk, .ref aSm, .ref aSp, .ref aSt, .ref aSc, .ref aSr, .ref aSe, .int (nI gr), .int (nI br), .int (nI cs), .int (nI wk), .int z])), (aSt, .inl (g.2.1 0, 40, .inl (nIf bt))), (aC, .inr (0, [.ref aS, .ref aL, .ref aV, .ref aO, .ref aCs, .ref aCl, .ref aCh, .ref aCw, .ref aCc, .ref aCb, .int (nI tot), .int (nI lat), .int se, .int sw]))] (xpi (nI (sumN bt br)) [(aM, .inr (8, [.ref aS, .ref aK, .ref aL, .ref aC, .ref aW, .ref aR, .ref aT, .ref aH, .ref aF, .int (nI ts), .int kp])), (aS, .inr (6, [.ref aSk, .ref aSm, .ref aSp, .ref aSt, .ref aSc, .ref aSr, .ref aSe, .int (nI gr), .int 0, .int (nI cs), .int (nI wk), .int z])), (aSt, .inl (g.2.1 0, 40, .inl (nIf bt))), (aC, .inr (0, [.ref aS, .ref aL, .ref aV, .ref aO, .ref aCs, .ref aCl, .ref aCh, .ref aCw, .ref aCc, .ref aCb, .int (nI tot), .int (nI lat), .int 0, .int 0]))]) := by
  refine Ct.ofX (lv := [some (.ref aM), none, none]) (by decide) rfl (Nat.le_of_ble_eq_true rfl) (fun κ => ?_)
  generalize hQ : xQ κ g 0 0 _ = Q
  refine x_iconst 0 dX8_returned_0 (by decide) ?_
  refine x_istore_n (lv' := [some (.ref aM), some (.int 0), none]) dX8_returned_1 (xlt rfl) rfl ?_
  refine x_iconst 0 dX8_returned_2 (by decide) ?_
  refine x_istore_n (lv' := [some (.ref aM), some (.int 0), some (.int 0)]) dX8_returned_3 (xlt rfl) rfl ?_
  have L4_1 : ∀ (i : Nat), i ≤ br → ∀ (al : Nat), al = sumN bt i → Xs κ g 10 0 0 cX8_returned yX8_returned (some .int) Q 0 0 4 [some (.ref aM), some (.int (nI al)), some (.int (nI i))] [] [(aM, .inr (8, [.ref aS, .ref aK, .ref aL, .ref aC, .ref aW, .ref aR, .ref aT, .ref aH, .ref aF, .int (nI ts), .int kp])), (aS, .inr (6, [.ref aSk, .ref aSm, .ref aSp, .ref aSt, .ref aSc, .ref aSr, .ref aSe, .int (nI gr), .int (nI br), .int (nI cs), .int (nI wk), .int z])), (aSt, .inl (g.2.1 0, 40, .inl (nIf bt))), (aC, .inr (0, [.ref aS, .ref aL, .ref aV, .ref aO, .ref aCs, .ref aCl, .ref aCh, .ref aCw, .ref aCc, .ref aCb, .int (nI tot), .int (nI lat), .int se, .int sw]))] := by
    refine upTo br (fun i hi4 ih4 => ?_)
    intro al eal
    subst eal
    refine x_iload_n dX8_returned_4 rfl ?_
    refine x_aload_n dX8_returned_5 rfl ?_
    refine x_get dX8_returned_6 0 0 inX8 fl_X8_10 rfl rfl (by decide) rfl ?_
    refine x_get dX8_returned_9 1 8 inX6 fl_X8_130 rfl rfl (by decide) rfl ?_
    refine x_icmp_ge dX8_returned_12 (fun c12 => ?_) (fun c12 => ?_)
    · have c12 : (nI br) ≤ (nI i) := c12
      have c12n := (nI_leI (a := br) (b := i) (by omega) (by omega)).mp c12
      have hxc12 : i = br := by omega
      try rw [hxc12]
      refine x_aload_n dX8_returned_39 rfl ?_
      refine x_get dX8_returned_40 0 0 inX8 fl_X8_10 rfl rfl (by decide) rfl ?_
      refine x_iconst 0 dX8_returned_43 (by decide) ?_
      refine x_put (ws' := [(aM, .inr (8, [.ref aS, .ref aK, .ref aL, .ref aC, .ref aW, .ref aR, .ref aT, .ref aH, .ref aF, .int (nI ts), .int kp])), (aS, .inr (6, [.ref aSk, .ref aSm, .ref aSp, .ref aSt, .ref aSc, .ref aSr, .ref aSe, .int (nI gr), .int 0, .int (nI cs), .int (nI wk), .int z])), (aSt, .inl (g.2.1 0, 40, .inl (nIf bt))), (aC, .inr (0, [.ref aS, .ref aL, .ref aV, .ref aO, .ref aCs, .ref aCl, .ref aCh, .ref aCw, .ref aCc, .ref aCb, .int (nI tot), .int (nI lat), .int se, .int sw]))]) dX8_returned_44 1 8 inX6 tyX6_ok nmX6 fl_X8_130 rfl rfl (by decide) rfl (rfl) rfl (xlt rfl) rfl ?_
      refine x_aload_n dX8_returned_47 rfl ?_
      refine x_get dX8_returned_48 0 3 inX8 fl_X8_36 rfl rfl (by decide) rfl ?_
      refine x_cVv (ws' := [(aM, .inr (8, [.ref aS, .ref aK, .ref aL, .ref aC, .ref aW, .ref aR, .ref aT, .ref aH, .ref aF, .int (nI ts), .int kp])), (aS, .inr (6, [.ref aSk, .ref aSm, .ref aSp, .ref aSt, .ref aSc, .ref aSr, .ref aSe, .int (nI gr), .int 0, .int (nI cs), .int (nI wk), .int z])), (aSt, .inl (g.2.1 0, 40, .inl (nIf bt))), (aC, .inr (0, [.ref aS, .ref aL, .ref aV, .ref aO, .ref aCs, .ref aCl, .ref aCh, .ref aCw, .ref aCc, .ref aCb, .int (nI tot), .int (nI lat), .int 0, .int 0]))]) dX8_returned_51 ml_X8_104 mX0_stir (ct_X0_stir κ.2.1 g aC aS aL aV aO aCs aCl aCh aCw aCc aCb tot lat se sw) [3] rfl rfl 3 rfl rfl rfl (Nat.le_of_ble_eq_true rfl) (by decide) (Nat.le_refl _) (Nat.le_refl _) (rfl : [aC] = [aC]) rfl ?_
      refine x_iload_n dX8_returned_54 rfl ?_
      rw [← hQ]
      refine x_iret dX8_returned_55 rfl (Nat.le_of_ble_eq_true rfl) (Nat.le_of_ble_eq_true rfl) ?_
      exact ⟨rfl, rfl⟩
    · have c12 : ¬ ((nI br) ≤ (nI i)) := c12
      have c12n := mt (nI_leI (a := br) (b := i) (by omega) (by omega)).mpr c12
      refine x_iload_n dX8_returned_15 rfl ?_
      refine x_bipush 40 dX8_returned_16 (by decide) ?_
      refine x_icmp_ge dX8_returned_18 (fun c18 => ?_) (fun c18 => ?_)
      · have c18 : 40 ≤ (nI i) := c18
        have c18n := (nI_leI (a := 40) (b := i) (by omega) (by omega)).mp c18
        exact absurd c18n (by omega)
      · have c18 : ¬ (40 ≤ (nI i)) := c18
        have c18n := mt (nI_leI (a := 40) (b := i) (by omega) (by omega)).mpr c18
        refine x_iload_n dX8_returned_21 rfl ?_
        refine x_aload_n dX8_returned_22 rfl ?_
        refine x_get dX8_returned_23 0 0 inX8 fl_X8_10 rfl rfl (by decide) rfl ?_
        refine x_get dX8_returned_26 1 3 inX6 fl_X8_133 rfl rfl (by decide) rfl ?_
        refine x_iload_n dX8_returned_29 rfl ?_
        refine x_iald dX8_returned_30 2 i rfl (rfl) (by omega) (by decide) ?_
        refine x_iadd dX8_returned_31 ?_
        refine x_rei (nI ((sumN bt i) + (bt i))) (nI_iadd (sumN bt i) (bt i)) ?_
        refine x_istore_n (lv' := [some (.ref aM), some (.int (nI ((sumN bt i) + (bt i)))), some (.int (nI i))]) dX8_returned_32 (xlt rfl) rfl ?_
        refine x_iinc (lv' := [some (.ref aM), some (.int (nI ((sumN bt i) + (bt i)))), some (.int (nI (i + 1)))]) (nI (i + 1)) dX8_returned_33 rfl (nI_addc i 1 rfl) rfl ?_
        refine x_goto dX8_returned_36 ?_
        exact ih4 (by omega) ((sumN bt i) + (bt i)) (by rfl)
  exact L4_1 0 (Nat.zero_le _) 0 (by rfl)

-- == wipe_o ==
theorem dX8_wipe_0 : xd cX8_wipe 0 (.aload_n 0) 1 1 := ⟨by decide +kernel, rfl⟩
theorem dX8_wipe_1 : xd cX8_wipe 1 (.getfield 145) 3 4 := ⟨by decide +kernel, rfl⟩
theorem dX8_wipe_4 : xd cX8_wipe 4 (.istore_n 1) 1 5 := ⟨by decide +kernel, rfl⟩
theorem dX8_wipe_5 : xd cX8_wipe 5 (.aload_n 0) 1 6 := ⟨by decide +kernel, rfl⟩
theorem dX8_wipe_6 : xd cX8_wipe 6 (.iconst 0) 1 7 := ⟨by decide +kernel, rfl⟩
theorem dX8_wipe_7 : xd cX8_wipe 7 (.putfield 145) 3 10 := ⟨by decide +kernel, rfl⟩
theorem dX8_wipe_10 : xd cX8_wipe 10 (.iload_n 1) 1 11 := ⟨by decide +kernel, rfl⟩
theorem dX8_wipe_11 : xd cX8_wipe 11 .ireturn 1 12 := ⟨by decide +kernel, rfl⟩

set_option maxRecDepth 100000 in
set_option maxHeartbeats 4000000 in
theorem ct_wipe_o (l : Launch) (g : XG) (aM aS aK aL aC aW aR aT aH aF : Nat) (ts : Nat) (kp : Int32) : Ct l g 10 0 0 yX8_wipe cX8_wipe 2 (some .int) [.ref aM] [(aM, .inr (8, [.ref aS, .ref aK, .ref aL, .ref aC, .ref aW, .ref aR, .ref aT, .ref aH, .ref aF, .int (nI ts), .int kp]))] (xpi (nI (ts)) [(aM, .inr (8, [.ref aS, .ref aK, .ref aL, .ref aC, .ref aW, .ref aR, .ref aT, .ref aH, .ref aF, .int 0, .int kp]))]) := by
  refine Ct.ofX (lv := [some (.ref aM), none]) (by decide) rfl (Nat.le_of_ble_eq_true rfl) (fun κ => ?_)
  generalize hQ : xQ κ g 0 0 _ = Q
  refine x_aload_n dX8_wipe_0 rfl ?_
  refine x_get dX8_wipe_1 0 9 inX8 fl_X8_145 rfl rfl (by decide) rfl ?_
  refine x_istore_n (lv' := [some (.ref aM), some (.int (nI ts))]) dX8_wipe_4 (xlt rfl) rfl ?_
  refine x_aload_n dX8_wipe_5 rfl ?_
  refine x_iconst 0 dX8_wipe_6 (by decide) ?_
  refine x_put (ws' := [(aM, .inr (8, [.ref aS, .ref aK, .ref aL, .ref aC, .ref aW, .ref aR, .ref aT, .ref aH, .ref aF, .int 0, .int kp]))]) dX8_wipe_7 0 9 inX8 tyX8_ok nmX8 fl_X8_145 rfl rfl (by decide) rfl (rfl) rfl (xlt rfl) rfl ?_
  refine x_iload_n dX8_wipe_10 rfl ?_
  rw [← hQ]
  refine x_iret dX8_wipe_11 rfl (Nat.le_of_ble_eq_true rfl) (Nat.le_of_ble_eq_true rfl) ?_
  exact ⟨rfl, rfl⟩

-- == even_o ==
theorem dX8_even_0 : xd cX8_even 0 (.aload_n 0) 1 1 := ⟨by decide +kernel, rfl⟩
theorem dX8_even_1 : xd cX8_even 1 (.getfield 10) 3 4 := ⟨by decide +kernel, rfl⟩
theorem dX8_even_4 : xd cX8_even 4 (.invokevirtual 162) 3 7 := ⟨by decide +kernel, rfl⟩
theorem dX8_even_7 : xj cX8_even 7 (.ifCond .eq) 10 14 := ⟨7, by decide +kernel, rfl, by decide⟩
theorem dX8_even_10 : xd cX8_even 10 (.iconst 1) 1 11 := ⟨by decide +kernel, rfl⟩
theorem dX8_even_11 : xj cX8_even 11 .goto 14 15 := ⟨4, by decide +kernel, rfl, by decide⟩
theorem dX8_even_14 : xd cX8_even 14 (.iconst 0) 1 15 := ⟨by decide +kernel, rfl⟩
theorem dX8_even_15 : xd cX8_even 15 (.istore_n 1) 1 16 := ⟨by decide +kernel, rfl⟩
theorem dX8_even_16 : xd cX8_even 16 (.aload_n 0) 1 17 := ⟨by decide +kernel, rfl⟩
theorem dX8_even_17 : xd cX8_even 17 (.getfield 10) 3 20 := ⟨by decide +kernel, rfl⟩
theorem dX8_even_20 : xd cX8_even 20 (.iconst 0) 1 21 := ⟨by decide +kernel, rfl⟩
theorem dX8_even_21 : xd cX8_even 21 (.putfield 159) 3 24 := ⟨by decide +kernel, rfl⟩
theorem dX8_even_24 : xd cX8_even 24 (.aload_n 0) 1 25 := ⟨by decide +kernel, rfl⟩
theorem dX8_even_25 : xd cX8_even 25 (.getfield 36) 3 28 := ⟨by decide +kernel, rfl⟩
theorem dX8_even_28 : xd cX8_even 28 (.invokevirtual 104) 3 31 := ⟨by decide +kernel, rfl⟩
theorem dX8_even_31 : xd cX8_even 31 (.iload_n 1) 1 32 := ⟨by decide +kernel, rfl⟩
theorem dX8_even_32 : xd cX8_even 32 .ireturn 1 33 := ⟨by decide +kernel, rfl⟩

set_option maxRecDepth 100000 in
set_option maxHeartbeats 4000000 in
theorem ct_even_o (l : Launch) (g : XG) (aM aS aK aL aC aW aR aT aH aF : Nat) (ts : Nat) (kp : Int32) (aSk aSm aSp aSt aSc aSr aSe gr br cs wk : Nat) (z : Int32) (aV aO aCs aCl aCh aCw aCc aCb tot lat : Nat) (se sw : Int32) (hcs : cs ≤ 60) : Ct l g 10 0 0 yX8_even cX8_even 2 (some .int) [.ref aM] [(aM, .inr (8, [.ref aS, .ref aK, .ref aL, .ref aC, .ref aW, .ref aR, .ref aT, .ref aH, .ref aF, .int (nI ts), .int kp])), (aS, .inr (6, [.ref aSk, .ref aSm, .ref aSp, .ref aSt, .ref aSc, .ref aSr, .ref aSe, .int (nI gr), .int (nI br), .int (nI cs), .int (nI wk), .int z])), (aC, .inr (0, [.ref aS, .ref aL, .ref aV, .ref aO, .ref aCs, .ref aCl, .ref aCh, .ref aCw, .ref aCc, .ref aCb, .int (nI tot), .int (nI lat), .int se, .int sw]))] (xpi (if hasL cs = 0 then 0 else 1) [(aM, .inr (8, [.ref aS, .ref aK, .ref aL, .ref aC, .ref aW, .ref aR, .ref aT, .ref aH, .ref aF, .int (nI ts), .int kp])), (aS, .inr (6, [.ref aSk, .ref aSm, .ref aSp, .ref aSt, .ref aSc, .ref aSr, .ref aSe, .int (nI gr), .int (nI br), .int 0, .int (nI wk), .int z])), (aC, .inr (0, [.ref aS, .ref aL, .ref aV, .ref aO, .ref aCs, .ref aCl, .ref aCh, .ref aCw, .ref aCc, .ref aCb, .int (nI tot), .int (nI lat), .int 0, .int 0]))]) := by
  refine Ct.ofX (lv := [some (.ref aM), none]) (by decide) rfl (Nat.le_of_ble_eq_true rfl) (fun κ => ?_)
  generalize hQ : xQ κ g 0 0 _ = Q
  refine x_aload_n dX8_even_0 rfl ?_
  refine x_get dX8_even_1 0 0 inX8 fl_X8_10 rfl rfl (by decide) rfl ?_
  refine x_cVi0 dX8_even_4 ml_X8_162 mX6_hasLiking (ct_X6_hasLiking κ.2.1 g aS aSk aSm aSp aSt aSc aSr aSe gr br cs wk z (hcs)) [1] rfl rfl 1 rfl rfl rfl (Nat.le_of_ble_eq_true rfl) (by decide) (Nat.le_refl _) (Nat.le_refl _) ?_
  have J7_2 : ∀ (v1 : Int32), v1 = (if (hasL cs) = 0 then 0 else 1) → Xs κ g 10 0 0 cX8_even yX8_even (some .int) Q 0 0 15 [some (.ref aM), none] [.int v1] [(aM, .inr (8, [.ref aS, .ref aK, .ref aL, .ref aC, .ref aW, .ref aR, .ref aT, .ref aH, .ref aF, .int (nI ts), .int kp])), (aS, .inr (6, [.ref aSk, .ref aSm, .ref aSp, .ref aSt, .ref aSc, .ref aSr, .ref aSe, .int (nI gr), .int (nI br), .int (nI cs), .int (nI wk), .int z])), (aC, .inr (0, [.ref aS, .ref aL, .ref aV, .ref aO, .ref aCs, .ref aCl, .ref aCh, .ref aCw, .ref aCc, .ref aCb, .int (nI tot), .int (nI lat), .int se, .int sw]))] := by
    intro v1 ev1
    refine x_istore_n (lv' := [some (.ref aM), some (.int v1)]) dX8_even_15 (xlt rfl) rfl ?_
    refine x_aload_n dX8_even_16 rfl ?_
    refine x_get dX8_even_17 0 0 inX8 fl_X8_10 rfl rfl (by decide) rfl ?_
    refine x_iconst 0 dX8_even_20 (by decide) ?_
    refine x_put (ws' := [(aM, .inr (8, [.ref aS, .ref aK, .ref aL, .ref aC, .ref aW, .ref aR, .ref aT, .ref aH, .ref aF, .int (nI ts), .int kp])), (aS, .inr (6, [.ref aSk, .ref aSm, .ref aSp, .ref aSt, .ref aSc, .ref aSr, .ref aSe, .int (nI gr), .int (nI br), .int 0, .int (nI wk), .int z])), (aC, .inr (0, [.ref aS, .ref aL, .ref aV, .ref aO, .ref aCs, .ref aCl, .ref aCh, .ref aCw, .ref aCc, .ref aCb, .int (nI tot), .int (nI lat), .int se, .int sw]))]) dX8_even_21 1 9 inX6 tyX6_ok nmX6 fl_X8_159 rfl rfl (by decide) rfl (rfl) rfl (xlt rfl) rfl ?_
    refine x_aload_n dX8_even_24 rfl ?_
    refine x_get dX8_even_25 0 3 inX8 fl_X8_36 rfl rfl (by decide) rfl ?_
    refine x_cVv (ws' := [(aM, .inr (8, [.ref aS, .ref aK, .ref aL, .ref aC, .ref aW, .ref aR, .ref aT, .ref aH, .ref aF, .int (nI ts), .int kp])), (aS, .inr (6, [.ref aSk, .ref aSm, .ref aSp, .ref aSt, .ref aSc, .ref aSr, .ref aSe, .int (nI gr), .int (nI br), .int 0, .int (nI wk), .int z])), (aC, .inr (0, [.ref aS, .ref aL, .ref aV, .ref aO, .ref aCs, .ref aCl, .ref aCh, .ref aCw, .ref aCc, .ref aCb, .int (nI tot), .int (nI lat), .int 0, .int 0]))]) dX8_even_28 ml_X8_104 mX0_stir (ct_X0_stir κ.2.1 g aC aS aL aV aO aCs aCl aCh aCw aCc aCb tot lat se sw) [2] rfl rfl 2 rfl rfl rfl (Nat.le_of_ble_eq_true rfl) (by decide) (Nat.le_refl _) (Nat.le_refl _) (rfl : [aC] = [aC]) rfl ?_
    refine x_iload_n dX8_even_31 rfl ?_
    rw [← hQ]
    refine x_iret dX8_even_32 rfl (Nat.le_of_ble_eq_true rfl) (Nat.le_of_ble_eq_true rfl) ?_
    simp only [ev1]
    exact ⟨rfl, rfl⟩
  refine x_if_eq dX8_even_7 (fun c7 => ?_) (fun c7 => ?_)
  · have c7 : (hasL cs) = 0 := c7
    refine x_iconst 0 dX8_even_14 (by decide) ?_
    exact J7_2 _ (if_pos c7).symm
  · have c7 : ¬ ((hasL cs) = 0) := c7
    refine x_iconst 1 dX8_even_10 (by decide) ?_
    refine x_goto dX8_even_11 ?_
    exact J7_2 _ (if_neg c7).symm

-- == seed_o ==
theorem dX8_seed_0 : xd cX8_seed 0 (.aload_n 0) 1 1 := ⟨by decide +kernel, rfl⟩
theorem dX8_seed_1 : xd cX8_seed 1 (.getfield 10) 3 4 := ⟨by decide +kernel, rfl⟩
theorem dX8_seed_4 : xd cX8_seed 4 (.getfield 175) 3 7 := ⟨by decide +kernel, rfl⟩
theorem dX8_seed_7 : xd cX8_seed 7 (.istore_n 2) 1 8 := ⟨by decide +kernel, rfl⟩
theorem dX8_seed_8 : xd cX8_seed 8 (.aload_n 0) 1 9 := ⟨by decide +kernel, rfl⟩
theorem dX8_seed_9 : xd cX8_seed 9 (.getfield 10) 3 12 := ⟨by decide +kernel, rfl⟩
theorem dX8_seed_12 : xd cX8_seed 12 (.iload_n 1) 1 13 := ⟨by decide +kernel, rfl⟩
theorem dX8_seed_13 : xd cX8_seed 13 (.putfield 175) 3 16 := ⟨by decide +kernel, rfl⟩
theorem dX8_seed_16 : xd cX8_seed 16 (.iload_n 2) 1 17 := ⟨by decide +kernel, rfl⟩
theorem dX8_seed_17 : xd cX8_seed 17 .ireturn 1 18 := ⟨by decide +kernel, rfl⟩

set_option maxRecDepth 100000 in
set_option maxHeartbeats 4000000 in
theorem ct_seed_o (l : Launch) (g : XG) (aM aS aK aL aC aW aR aT aH aF : Nat) (ts : Nat) (kp : Int32) (aSk aSm aSp aSt aSc aSr aSe gr br cs wk : Nat) (z : Int32) (v : Int32) : Ct l g 10 0 0 yX8_seed cX8_seed 3 (some .int) [.ref aM, .int v] [(aM, .inr (8, [.ref aS, .ref aK, .ref aL, .ref aC, .ref aW, .ref aR, .ref aT, .ref aH, .ref aF, .int (nI ts), .int kp])), (aS, .inr (6, [.ref aSk, .ref aSm, .ref aSp, .ref aSt, .ref aSc, .ref aSr, .ref aSe, .int (nI gr), .int (nI br), .int (nI cs), .int (nI wk), .int z]))] (xpi (z) [(aM, .inr (8, [.ref aS, .ref aK, .ref aL, .ref aC, .ref aW, .ref aR, .ref aT, .ref aH, .ref aF, .int (nI ts), .int kp])), (aS, .inr (6, [.ref aSk, .ref aSm, .ref aSp, .ref aSt, .ref aSc, .ref aSr, .ref aSe, .int (nI gr), .int (nI br), .int (nI cs), .int (nI wk), .int v]))]) := by
  refine Ct.ofX (lv := [some (.ref aM), some (.int v), none]) (by decide) rfl (Nat.le_of_ble_eq_true rfl) (fun κ => ?_)
  generalize hQ : xQ κ g 0 0 _ = Q
  refine x_aload_n dX8_seed_0 rfl ?_
  refine x_get dX8_seed_1 0 0 inX8 fl_X8_10 rfl rfl (by decide) rfl ?_
  refine x_get dX8_seed_4 1 11 inX6 fl_X8_175 rfl rfl (by decide) rfl ?_
  refine x_istore_n (lv' := [some (.ref aM), some (.int v), some (.int z)]) dX8_seed_7 (xlt rfl) rfl ?_
  refine x_aload_n dX8_seed_8 rfl ?_
  refine x_get dX8_seed_9 0 0 inX8 fl_X8_10 rfl rfl (by decide) rfl ?_
  refine x_iload_n dX8_seed_12 rfl ?_
  refine x_put (ws' := [(aM, .inr (8, [.ref aS, .ref aK, .ref aL, .ref aC, .ref aW, .ref aR, .ref aT, .ref aH, .ref aF, .int (nI ts), .int kp])), (aS, .inr (6, [.ref aSk, .ref aSm, .ref aSp, .ref aSt, .ref aSc, .ref aSr, .ref aSe, .int (nI gr), .int (nI br), .int (nI cs), .int (nI wk), .int v]))]) dX8_seed_13 1 11 inX6 tyX6_ok nmX6 fl_X8_175 rfl rfl (by decide) rfl (rfl) rfl (xlt rfl) rfl ?_
  refine x_iload_n dX8_seed_16 rfl ?_
  rw [← hQ]
  refine x_iret dX8_seed_17 rfl (Nat.le_of_ble_eq_true rfl) (Nat.le_of_ble_eq_true rfl) ?_
  exact ⟨rfl, rfl⟩

-- == tear_o ==
theorem dX8_tear_0 : xd cX8_tear 0 (.aload_n 0) 1 1 := ⟨by decide +kernel, rfl⟩
theorem dX8_tear_1 : xd cX8_tear 1 (.getfield 274) 3 4 := ⟨by decide +kernel, rfl⟩
theorem dX8_tear_4 : xj cX8_tear 4 (.ifCond .eq) 7 11 := ⟨7, by decide +kernel, rfl, by decide⟩
theorem dX8_tear_7 : xd cX8_tear 7 (.iconst 1) 1 8 := ⟨by decide +kernel, rfl⟩
theorem dX8_tear_8 : xj cX8_tear 8 .goto 11 12 := ⟨4, by decide +kernel, rfl, by decide⟩
theorem dX8_tear_11 : xd cX8_tear 11 (.iconst 0) 1 12 := ⟨by decide +kernel, rfl⟩
theorem dX8_tear_12 : xd cX8_tear 12 (.istore_n 1) 1 13 := ⟨by decide +kernel, rfl⟩
theorem dX8_tear_13 : xd cX8_tear 13 (.aload_n 0) 1 14 := ⟨by decide +kernel, rfl⟩
theorem dX8_tear_14 : xd cX8_tear 14 (.iconst 0) 1 15 := ⟨by decide +kernel, rfl⟩
theorem dX8_tear_15 : xd cX8_tear 15 (.putfield 274) 3 18 := ⟨by decide +kernel, rfl⟩
theorem dX8_tear_18 : xd cX8_tear 18 (.iload_n 1) 1 19 := ⟨by decide +kernel, rfl⟩
theorem dX8_tear_19 : xd cX8_tear 19 .ireturn 1 20 := ⟨by decide +kernel, rfl⟩

set_option maxRecDepth 100000 in
set_option maxHeartbeats 4000000 in
theorem ct_tear_o (l : Launch) (g : XG) (aM aS aK aL aC aW aR aT aH aF : Nat) (ts : Nat) (kp : Int32) : Ct l g 10 0 0 yX8_tear cX8_tear 2 (some .int) [.ref aM] [(aM, .inr (8, [.ref aS, .ref aK, .ref aL, .ref aC, .ref aW, .ref aR, .ref aT, .ref aH, .ref aF, .int (nI ts), .int kp]))] (xpi (if kp = 0 then 0 else 1) [(aM, .inr (8, [.ref aS, .ref aK, .ref aL, .ref aC, .ref aW, .ref aR, .ref aT, .ref aH, .ref aF, .int (nI ts), .int 0]))]) := by
  refine Ct.ofX (lv := [some (.ref aM), none]) (by decide) rfl (Nat.le_of_ble_eq_true rfl) (fun κ => ?_)
  generalize hQ : xQ κ g 0 0 _ = Q
  refine x_aload_n dX8_tear_0 rfl ?_
  refine x_get dX8_tear_1 0 10 inX8 fl_X8_274 rfl rfl (by decide) rfl ?_
  have J4_2 : ∀ (v1 : Int32), v1 = (if kp = 0 then 0 else 1) → Xs κ g 10 0 0 cX8_tear yX8_tear (some .int) Q 0 0 12 [some (.ref aM), none] [.int v1] [(aM, .inr (8, [.ref aS, .ref aK, .ref aL, .ref aC, .ref aW, .ref aR, .ref aT, .ref aH, .ref aF, .int (nI ts), .int kp]))] := by
    intro v1 ev1
    refine x_istore_n (lv' := [some (.ref aM), some (.int v1)]) dX8_tear_12 (xlt rfl) rfl ?_
    refine x_aload_n dX8_tear_13 rfl ?_
    refine x_iconst 0 dX8_tear_14 (by decide) ?_
    refine x_put (ws' := [(aM, .inr (8, [.ref aS, .ref aK, .ref aL, .ref aC, .ref aW, .ref aR, .ref aT, .ref aH, .ref aF, .int (nI ts), .int 0]))]) dX8_tear_15 0 10 inX8 tyX8_ok nmX8 fl_X8_274 rfl rfl (by decide) rfl (rfl) rfl (xlt rfl) rfl ?_
    refine x_iload_n dX8_tear_18 rfl ?_
    rw [← hQ]
    refine x_iret dX8_tear_19 rfl (Nat.le_of_ble_eq_true rfl) (Nat.le_of_ble_eq_true rfl) ?_
    simp only [ev1]
    exact ⟨rfl, rfl⟩
  refine x_if_eq dX8_tear_4 (fun c4 => ?_) (fun c4 => ?_)
  · have c4 : kp = 0 := c4
    refine x_iconst 0 dX8_tear_11 (by decide) ?_
    exact J4_2 _ (if_pos c4).symm
  · have c4 : ¬ (kp = 0) := c4
    refine x_iconst 1 dX8_tear_7 (by decide) ?_
    refine x_goto dX8_tear_8 ?_
    exact J4_2 _ (if_neg c4).symm

-- == image_o ==
theorem dX8_image_0 : xd cX8_image 0 (.aload_n 0) 1 1 := ⟨by decide +kernel, rfl⟩
theorem dX8_image_1 : xd cX8_image 1 (.getfield 16) 3 4 := ⟨by decide +kernel, rfl⟩
theorem dX8_image_4 : xd cX8_image 4 (.aload_n 0) 1 5 := ⟨by decide +kernel, rfl⟩
theorem dX8_image_5 : xd cX8_image 5 (.getfield 10) 3 8 := ⟨by decide +kernel, rfl⟩
theorem dX8_image_8 : xd cX8_image 8 (.invokevirtual 270) 3 11 := ⟨by decide +kernel, rfl⟩
theorem dX8_image_11 : xd cX8_image 11 (.aload_n 0) 1 12 := ⟨by decide +kernel, rfl⟩
theorem dX8_image_12 : xd cX8_image 12 (.iconst 1) 1 13 := ⟨by decide +kernel, rfl⟩
theorem dX8_image_13 : xd cX8_image 13 (.putfield 274) 3 16 := ⟨by decide +kernel, rfl⟩
theorem dX8_image_16 : xd cX8_image 16 (.iconst 1) 1 17 := ⟨by decide +kernel, rfl⟩
theorem dX8_image_17 : xd cX8_image 17 .ireturn 1 18 := ⟨by decide +kernel, rfl⟩

set_option maxRecDepth 100000 in
set_option maxHeartbeats 4000000 in
theorem ct_image_o (l : Launch) (g : XG) (aM aL aC aW aR aT aH aF ts : Nat) (kp : Int32) (aS aSk aSm aSp aSt aSc aSr aSe : Nat) (ki ma bp bt : Nat → Nat) (co : Nat → Int32) (ru : Nat → Nat) (ce : Nat → Int32) (gr br cs wk : Nat) (z : Int32) (aK aKk aKm aKp aKt aKc aKr aKe : Nat) (kki kma kbp kbt kru : Nat → Nat) (kco kce : Nat → Int32) (kgr kbr kcs kwk : Nat) (kz : Int32) : Ct l g 10 0 0 yX8_image cX8_image 1 (some .int) [.ref aM] [(aM, .inr (8, [.ref aS, .ref aK, .ref aL, .ref aC, .ref aW, .ref aR, .ref aT, .ref aH, .ref aF, .int (nI ts), .int kp])), (aS, .inr (6, [.ref aSk, .ref aSm, .ref aSp, .ref aSt, .ref aSc, .ref aSr, .ref aSe, .int (nI gr), .int (nI br), .int (nI cs), .int (nI wk), .int z])), (aSk, .inl (g.2.1 0, 12, .inl (nIf ki))), (aSm, .inl (g.2.1 0, 12, .inl (nIf ma))), (aSp, .inl (g.2.1 0, 40, .inl (nIf bp))), (aSt, .inl (g.2.1 0, 40, .inl (nIf bt))), (aSc, .inl (g.2.1 0, 60, .inl co)), (aSr, .inl (g.2.1 0, 8, .inl (nIf ru))), (aSe, .inl (g.2.1 0, 320, .inl ce)), (aK, .inr (6, [.ref aKk, .ref aKm, .ref aKp, .ref aKt, .ref aKc, .ref aKr, .ref aKe, .int (nI kgr), .int (nI kbr), .int (nI kcs), .int (nI kwk), .int kz])), (aKk, .inl (g.2.1 0, 12, .inl (nIf kki))), (aKm, .inl (g.2.1 0, 12, .inl (nIf kma))), (aKp, .inl (g.2.1 0, 40, .inl (nIf kbp))), (aKt, .inl (g.2.1 0, 40, .inl (nIf kbt))), (aKc, .inl (g.2.1 0, 60, .inl kco)), (aKr, .inl (g.2.1 0, 8, .inl (nIf kru))), (aKe, .inl (g.2.1 0, 320, .inl kce))] (xpi (1) [(aM, .inr (8, [.ref aS, .ref aK, .ref aL, .ref aC, .ref aW, .ref aR, .ref aT, .ref aH, .ref aF, .int (nI ts), .int 1])), (aS, .inr (6, [.ref aSk, .ref aSm, .ref aSp, .ref aSt, .ref aSc, .ref aSr, .ref aSe, .int (nI gr), .int (nI br), .int (nI cs), .int (nI wk), .int z])), (aSk, .inl (g.2.1 0, 12, .inl (nIf ki))), (aSm, .inl (g.2.1 0, 12, .inl (nIf ma))), (aSp, .inl (g.2.1 0, 40, .inl (nIf bp))), (aSt, .inl (g.2.1 0, 40, .inl (nIf bt))), (aSc, .inl (g.2.1 0, 60, .inl co)), (aSr, .inl (g.2.1 0, 8, .inl (nIf ru))), (aSe, .inl (g.2.1 0, 320, .inl ce)), (aK, .inr (6, [.ref aKk, .ref aKm, .ref aKp, .ref aKt, .ref aKc, .ref aKr, .ref aKe, .int (nI gr), .int (nI br), .int (nI cs), .int (nI wk), .int z])), (aKk, .inl (g.2.1 0, 12, .inl (nIf ki))), (aKm, .inl (g.2.1 0, 12, .inl (nIf ma))), (aKp, .inl (g.2.1 0, 40, .inl (nIf bp))), (aKt, .inl (g.2.1 0, 40, .inl (nIf bt))), (aKc, .inl (g.2.1 0, 60, .inl co)), (aKr, .inl (g.2.1 0, 8, .inl (nIf ru))), (aKe, .inl (g.2.1 0, 320, .inl ce))]) := by
  refine Ct.ofX (lv := [some (.ref aM)]) (by decide) rfl (Nat.le_of_ble_eq_true rfl) (fun κ => ?_)
  generalize hQ : xQ κ g 0 0 _ = Q
  refine x_aload_n dX8_image_0 rfl ?_
  refine x_get dX8_image_1 0 1 inX8 fl_X8_16 rfl rfl (by decide) rfl ?_
  refine x_aload_n dX8_image_4 rfl ?_
  refine x_get dX8_image_5 0 0 inX8 fl_X8_10 rfl rfl (by decide) rfl ?_
  refine x_cVv (ws' := [(aM, .inr (8, [.ref aS, .ref aK, .ref aL, .ref aC, .ref aW, .ref aR, .ref aT, .ref aH, .ref aF, .int (nI ts), .int kp])), (aS, .inr (6, [.ref aSk, .ref aSm, .ref aSp, .ref aSt, .ref aSc, .ref aSr, .ref aSe, .int (nI gr), .int (nI br), .int (nI cs), .int (nI wk), .int z])), (aSk, .inl (g.2.1 0, 12, .inl (nIf ki))), (aSm, .inl (g.2.1 0, 12, .inl (nIf ma))), (aSp, .inl (g.2.1 0, 40, .inl (nIf bp))), (aSt, .inl (g.2.1 0, 40, .inl (nIf bt))), (aSc, .inl (g.2.1 0, 60, .inl co)), (aSr, .inl (g.2.1 0, 8, .inl (nIf ru))), (aSe, .inl (g.2.1 0, 320, .inl ce)), (aK, .inr (6, [.ref aKk, .ref aKm, .ref aKp, .ref aKt, .ref aKc, .ref aKr, .ref aKe, .int (nI gr), .int (nI br), .int (nI cs), .int (nI wk), .int z])), (aKk, .inl (g.2.1 0, 12, .inl (nIf ki))), (aKm, .inl (g.2.1 0, 12, .inl (nIf ma))), (aKp, .inl (g.2.1 0, 40, .inl (nIf bp))), (aKt, .inl (g.2.1 0, 40, .inl (nIf bt))), (aKc, .inl (g.2.1 0, 60, .inl co)), (aKr, .inl (g.2.1 0, 8, .inl (nIf ru))), (aKe, .inl (g.2.1 0, 320, .inl ce))]) dX8_image_8 ml_X8_270 mX6_becomes (ct_X6_becomes κ.2.1 g aK aKk aKm aKp aKt aKc aKr aKe kki kma kbp kbt kco kru kce kgr kbr kcs kwk kz aS aSk aSm aSp aSt aSc aSr aSe ki ma bp bt ru co ce gr br cs wk z) [9, 10, 11, 12, 13, 14, 15, 16, 1, 2, 3, 4, 5, 6, 7, 8] rfl rfl 9 rfl rfl rfl (Nat.le_of_ble_eq_true rfl) (by decide) (Nat.le_refl _) (Nat.le_refl _) (rfl : [aK, aKk, aKm, aKp, aKt, aKc, aKr, aKe, aS, aSk, aSm, aSp, aSt, aSc, aSr, aSe] = [aK, aKk, aKm, aKp, aKt, aKc, aKr, aKe, aS, aSk, aSm, aSp, aSt, aSc, aSr, aSe]) rfl ?_
  refine x_aload_n dX8_image_11 rfl ?_
  refine x_iconst 1 dX8_image_12 (by decide) ?_
  refine x_put (ws' := [(aM, .inr (8, [.ref aS, .ref aK, .ref aL, .ref aC, .ref aW, .ref aR, .ref aT, .ref aH, .ref aF, .int (nI ts), .int 1])), (aS, .inr (6, [.ref aSk, .ref aSm, .ref aSp, .ref aSt, .ref aSc, .ref aSr, .ref aSe, .int (nI gr), .int (nI br), .int (nI cs), .int (nI wk), .int z])), (aSk, .inl (g.2.1 0, 12, .inl (nIf ki))), (aSm, .inl (g.2.1 0, 12, .inl (nIf ma))), (aSp, .inl (g.2.1 0, 40, .inl (nIf bp))), (aSt, .inl (g.2.1 0, 40, .inl (nIf bt))), (aSc, .inl (g.2.1 0, 60, .inl co)), (aSr, .inl (g.2.1 0, 8, .inl (nIf ru))), (aSe, .inl (g.2.1 0, 320, .inl ce)), (aK, .inr (6, [.ref aKk, .ref aKm, .ref aKp, .ref aKt, .ref aKc, .ref aKr, .ref aKe, .int (nI gr), .int (nI br), .int (nI cs), .int (nI wk), .int z])), (aKk, .inl (g.2.1 0, 12, .inl (nIf ki))), (aKm, .inl (g.2.1 0, 12, .inl (nIf ma))), (aKp, .inl (g.2.1 0, 40, .inl (nIf bp))), (aKt, .inl (g.2.1 0, 40, .inl (nIf bt))), (aKc, .inl (g.2.1 0, 60, .inl co)), (aKr, .inl (g.2.1 0, 8, .inl (nIf ru))), (aKe, .inl (g.2.1 0, 320, .inl ce))]) dX8_image_13 0 10 inX8 tyX8_ok nmX8 fl_X8_274 rfl rfl (by decide) rfl (rfl) rfl (xlt rfl) rfl ?_
  refine x_iconst 1 dX8_image_16 (by decide) ?_
  rw [← hQ]
  refine x_iret dX8_image_17 rfl (Nat.le_of_ble_eq_true rfl) (Nat.le_of_ble_eq_true rfl) ?_
  exact ⟨rfl, rfl⟩

-- == undo_n ==
theorem dX8_undo_0 : xd cX8_undo 0 (.aload_n 0) 1 1 := ⟨by decide +kernel, rfl⟩
theorem dX8_undo_1 : xd cX8_undo 1 (.getfield 274) 3 4 := ⟨by decide +kernel, rfl⟩
theorem dX8_undo_4 : xj cX8_undo 4 (.ifCond .ne) 7 13 := ⟨9, by decide +kernel, rfl, by decide⟩
theorem dX8_undo_7 : xd cX8_undo 7 (.aload_n 0) 1 8 := ⟨by decide +kernel, rfl⟩
theorem dX8_undo_8 : xd cX8_undo 8 (.iconst 3) 1 9 := ⟨by decide +kernel, rfl⟩
theorem dX8_undo_9 : xd cX8_undo 9 (.invokevirtual 79) 3 12 := ⟨by decide +kernel, rfl⟩
theorem dX8_undo_12 : xd cX8_undo 12 .ireturn 1 13 := ⟨by decide +kernel, rfl⟩
theorem dX8_undo_13 : xd cX8_undo 13 (.aload_n 0) 1 14 := ⟨by decide +kernel, rfl⟩
theorem dX8_undo_14 : xd cX8_undo 14 (.getfield 10) 3 17 := ⟨by decide +kernel, rfl⟩
theorem dX8_undo_17 : xd cX8_undo 17 (.aload_n 0) 1 18 := ⟨by decide +kernel, rfl⟩
theorem dX8_undo_18 : xd cX8_undo 18 (.getfield 16) 3 21 := ⟨by decide +kernel, rfl⟩
theorem dX8_undo_21 : xd cX8_undo 21 (.invokevirtual 270) 3 24 := ⟨by decide +kernel, rfl⟩
theorem dX8_undo_24 : xd cX8_undo 24 (.aload_n 0) 1 25 := ⟨by decide +kernel, rfl⟩
theorem dX8_undo_25 : xd cX8_undo 25 (.getfield 36) 3 28 := ⟨by decide +kernel, rfl⟩
theorem dX8_undo_28 : xd cX8_undo 28 (.invokevirtual 104) 3 31 := ⟨by decide +kernel, rfl⟩
theorem dX8_undo_31 : xd cX8_undo 31 (.aload_n 0) 1 32 := ⟨by decide +kernel, rfl⟩
theorem dX8_undo_32 : xd cX8_undo 32 (.getfield 10) 3 35 := ⟨by decide +kernel, rfl⟩
theorem dX8_undo_35 : xd cX8_undo 35 (.getfield 189) 3 38 := ⟨by decide +kernel, rfl⟩
theorem dX8_undo_38 : xd cX8_undo 38 .ireturn 1 39 := ⟨by decide +kernel, rfl⟩

set_option maxRecDepth 100000 in
set_option maxHeartbeats 4000000 in
theorem ct_undo_n (l : Launch) (g : XG) (aM aS aK aL aC aW aR aT aH aF : Nat) (ts : Nat) (kp : Int32) (aSk aSm aSp aSt aSc aSr aSe gr br cs wk : Nat) (z : Int32) (fi : Nat → Nat) : Ct l g 10 0 0 yX8_undo cX8_undo 1 (some .int) [.ref aM] [(aM, .inr (8, [.ref aS, .ref aK, .ref aL, .ref aC, .ref aW, .ref aR, .ref aT, .ref aH, .ref aF, .int (nI ts), .int 0])), (aF, .inl (g.2.1 0, 7, .inl (nIf fi))), (aS, .inr (6, [.ref aSk, .ref aSm, .ref aSp, .ref aSt, .ref aSc, .ref aSr, .ref aSe, .int (nI gr), .int (nI br), .int (nI cs), .int (nI wk), .int z]))] (xpi (fndI 3) [(aM, .inr (8, [.ref aS, .ref aK, .ref aL, .ref aC, .ref aW, .ref aR, .ref aT, .ref aH, .ref aF, .int (nI ts), .int 0])), (aF, .inl (g.2.1 0, 7, .inl (nIf (updN fi 3 (fi 3 + 1))))), (aS, .inr (6, [.ref aSk, .ref aSm, .ref aSp, .ref aSt, .ref aSc, .ref aSr, .ref aSe, .int (nI gr), .int (nI br), .int (nI cs), .int (nI wk), .int z]))]) := by
  refine Ct.ofX (lv := [some (.ref aM)]) (by decide) rfl (Nat.le_of_ble_eq_true rfl) (fun κ => ?_)
  generalize hQ : xQ κ g 0 0 _ = Q
  refine x_aload_n dX8_undo_0 rfl ?_
  refine x_get dX8_undo_1 0 10 inX8 fl_X8_274 rfl rfl (by decide) rfl ?_
  refine x_if_ne dX8_undo_4 (fun c4 => ?_) (fun c4 => ?_)
  · exact absurd c4 (by decide)
  refine x_aload_n dX8_undo_7 rfl ?_
  refine x_iconst 3 dX8_undo_8 (by decide) ?_
  refine x_cVi (ws' := [(aM, .inr (8, [.ref aS, .ref aK, .ref aL, .ref aC, .ref aW, .ref aR, .ref aT, .ref aH, .ref aF, .int (nI ts), .int 0])), (aF, .inl (g.2.1 0, 7, .inl (nIf (updN fi 3 (fi 3 + 1))))), (aS, .inr (6, [.ref aSk, .ref aSm, .ref aSp, .ref aSt, .ref aSc, .ref aSr, .ref aSe, .int (nI gr), .int (nI br), .int (nI cs), .int (nI wk), .int z]))]) dX8_undo_9 ml_X8_79 mX8_tell (ct_X8_tell κ.2.1 g aM aS aK aL aC aW aR aT aH aF ts 0 fi 3 (by decide)) [0, 1] rfl rfl 0 rfl rfl rfl (Nat.le_of_ble_eq_true rfl) (by decide) (Nat.le_refl _) (Nat.le_refl _) (rfl : [aM, aF] = [aM, aF]) rfl ?_
  rw [← hQ]
  refine x_iret dX8_undo_12 rfl (Nat.le_of_ble_eq_true rfl) (Nat.le_of_ble_eq_true rfl) ?_
  exact ⟨rfl, rfl⟩

-- == undo_o ==
set_option maxRecDepth 100000 in
set_option maxHeartbeats 4000000 in
theorem ct_undo_o (l : Launch) (g : XG) (aM aL aC aW aR aT aH aF ts : Nat) (kp : Int32) (aS aSk aSm aSp aSt aSc aSr aSe : Nat) (ki ma bp bt : Nat → Nat) (co : Nat → Int32) (ru : Nat → Nat) (ce : Nat → Int32) (gr br cs wk : Nat) (z : Int32) (aK aKk aKm aKp aKt aKc aKr aKe : Nat) (kki kma kbp kbt kru : Nat → Nat) (kco kce : Nat → Int32) (kgr kbr kcs kwk : Nat) (kz : Int32) (aV aO aCs aCl aCh aCw aCc aCb tot lat : Nat) (se sw : Int32) : Ct l g 10 0 0 yX8_undo cX8_undo 1 (some .int) [.ref aM] [(aM, .inr (8, [.ref aS, .ref aK, .ref aL, .ref aC, .ref aW, .ref aR, .ref aT, .ref aH, .ref aF, .int (nI ts), .int 1])), (aS, .inr (6, [.ref aSk, .ref aSm, .ref aSp, .ref aSt, .ref aSc, .ref aSr, .ref aSe, .int (nI gr), .int (nI br), .int (nI cs), .int (nI wk), .int z])), (aSk, .inl (g.2.1 0, 12, .inl (nIf ki))), (aSm, .inl (g.2.1 0, 12, .inl (nIf ma))), (aSp, .inl (g.2.1 0, 40, .inl (nIf bp))), (aSt, .inl (g.2.1 0, 40, .inl (nIf bt))), (aSc, .inl (g.2.1 0, 60, .inl co)), (aSr, .inl (g.2.1 0, 8, .inl (nIf ru))), (aSe, .inl (g.2.1 0, 320, .inl ce)), (aK, .inr (6, [.ref aKk, .ref aKm, .ref aKp, .ref aKt, .ref aKc, .ref aKr, .ref aKe, .int (nI kgr), .int (nI kbr), .int (nI kcs), .int (nI kwk), .int kz])), (aKk, .inl (g.2.1 0, 12, .inl (nIf kki))), (aKm, .inl (g.2.1 0, 12, .inl (nIf kma))), (aKp, .inl (g.2.1 0, 40, .inl (nIf kbp))), (aKt, .inl (g.2.1 0, 40, .inl (nIf kbt))), (aKc, .inl (g.2.1 0, 60, .inl kco)), (aKr, .inl (g.2.1 0, 8, .inl (nIf kru))), (aKe, .inl (g.2.1 0, 320, .inl kce)), (aC, .inr (0, [.ref aS, .ref aL, .ref aV, .ref aO, .ref aCs, .ref aCl, .ref aCh, .ref aCw, .ref aCc, .ref aCb, .int (nI tot), .int (nI lat), .int se, .int sw]))] (xpi (nI (kwk)) [(aM, .inr (8, [.ref aS, .ref aK, .ref aL, .ref aC, .ref aW, .ref aR, .ref aT, .ref aH, .ref aF, .int (nI ts), .int 1])), (aS, .inr (6, [.ref aSk, .ref aSm, .ref aSp, .ref aSt, .ref aSc, .ref aSr, .ref aSe, .int (nI kgr), .int (nI kbr), .int (nI kcs), .int (nI kwk), .int kz])), (aSk, .inl (g.2.1 0, 12, .inl (nIf kki))), (aSm, .inl (g.2.1 0, 12, .inl (nIf kma))), (aSp, .inl (g.2.1 0, 40, .inl (nIf kbp))), (aSt, .inl (g.2.1 0, 40, .inl (nIf kbt))), (aSc, .inl (g.2.1 0, 60, .inl kco)), (aSr, .inl (g.2.1 0, 8, .inl (nIf kru))), (aSe, .inl (g.2.1 0, 320, .inl kce)), (aK, .inr (6, [.ref aKk, .ref aKm, .ref aKp, .ref aKt, .ref aKc, .ref aKr, .ref aKe, .int (nI kgr), .int (nI kbr), .int (nI kcs), .int (nI kwk), .int kz])), (aKk, .inl (g.2.1 0, 12, .inl (nIf kki))), (aKm, .inl (g.2.1 0, 12, .inl (nIf kma))), (aKp, .inl (g.2.1 0, 40, .inl (nIf kbp))), (aKt, .inl (g.2.1 0, 40, .inl (nIf kbt))), (aKc, .inl (g.2.1 0, 60, .inl kco)), (aKr, .inl (g.2.1 0, 8, .inl (nIf kru))), (aKe, .inl (g.2.1 0, 320, .inl kce)), (aC, .inr (0, [.ref aS, .ref aL, .ref aV, .ref aO, .ref aCs, .ref aCl, .ref aCh, .ref aCw, .ref aCc, .ref aCb, .int (nI tot), .int (nI lat), .int 0, .int 0]))]) := by
  refine Ct.ofX (lv := [some (.ref aM)]) (by decide) rfl (Nat.le_of_ble_eq_true rfl) (fun κ => ?_)
  generalize hQ : xQ κ g 0 0 _ = Q
  refine x_aload_n dX8_undo_0 rfl ?_
  refine x_get dX8_undo_1 0 10 inX8 fl_X8_274 rfl rfl (by decide) rfl ?_
  refine x_if_ne dX8_undo_4 (fun c4 => ?_) (fun c4 => ?_)
  rotate_left
  · exact absurd c4 (by decide)
  refine x_aload_n dX8_undo_13 rfl ?_
  refine x_get dX8_undo_14 0 0 inX8 fl_X8_10 rfl rfl (by decide) rfl ?_
  refine x_aload_n dX8_undo_17 rfl ?_
  refine x_get dX8_undo_18 0 1 inX8 fl_X8_16 rfl rfl (by decide) rfl ?_
  refine x_cVv (ws' := [(aM, .inr (8, [.ref aS, .ref aK, .ref aL, .ref aC, .ref aW, .ref aR, .ref aT, .ref aH, .ref aF, .int (nI ts), .int 1])), (aS, .inr (6, [.ref aSk, .ref aSm, .ref aSp, .ref aSt, .ref aSc, .ref aSr, .ref aSe, .int (nI kgr), .int (nI kbr), .int (nI kcs), .int (nI kwk), .int kz])), (aSk, .inl (g.2.1 0, 12, .inl (nIf kki))), (aSm, .inl (g.2.1 0, 12, .inl (nIf kma))), (aSp, .inl (g.2.1 0, 40, .inl (nIf kbp))), (aSt, .inl (g.2.1 0, 40, .inl (nIf kbt))), (aSc, .inl (g.2.1 0, 60, .inl kco)), (aSr, .inl (g.2.1 0, 8, .inl (nIf kru))), (aSe, .inl (g.2.1 0, 320, .inl kce)), (aK, .inr (6, [.ref aKk, .ref aKm, .ref aKp, .ref aKt, .ref aKc, .ref aKr, .ref aKe, .int (nI kgr), .int (nI kbr), .int (nI kcs), .int (nI kwk), .int kz])), (aKk, .inl (g.2.1 0, 12, .inl (nIf kki))), (aKm, .inl (g.2.1 0, 12, .inl (nIf kma))), (aKp, .inl (g.2.1 0, 40, .inl (nIf kbp))), (aKt, .inl (g.2.1 0, 40, .inl (nIf kbt))), (aKc, .inl (g.2.1 0, 60, .inl kco)), (aKr, .inl (g.2.1 0, 8, .inl (nIf kru))), (aKe, .inl (g.2.1 0, 320, .inl kce)), (aC, .inr (0, [.ref aS, .ref aL, .ref aV, .ref aO, .ref aCs, .ref aCl, .ref aCh, .ref aCw, .ref aCc, .ref aCb, .int (nI tot), .int (nI lat), .int se, .int sw]))]) dX8_undo_21 ml_X8_270 mX6_becomes (ct_X6_becomes κ.2.1 g aS aSk aSm aSp aSt aSc aSr aSe ki ma bp bt co ru ce gr br cs wk z aK aKk aKm aKp aKt aKc aKr aKe kki kma kbp kbt kru kco kce kgr kbr kcs kwk kz) [1, 2, 3, 4, 5, 6, 7, 8, 9, 10, 11, 12, 13, 14, 15, 16] rfl rfl 1 rfl rfl rfl (Nat.le_of_ble_eq_true rfl) (by decide) (Nat.le_refl _) (Nat.le_refl _) (rfl : [aS, aSk, aSm, aSp, aSt, aSc, aSr, aSe, aK, aKk, aKm, aKp, aKt, aKc, aKr, aKe] = [aS, aSk, aSm, aSp, aSt, aSc, aSr, aSe, aK, aKk, aKm, aKp, aKt, aKc, aKr, aKe]) rfl ?_
  refine x_aload_n dX8_undo_24 rfl ?_
  refine x_get dX8_undo_25 0 3 inX8 fl_X8_36 rfl rfl (by decide) rfl ?_
  refine x_cVv (ws' := [(aM, .inr (8, [.ref aS, .ref aK, .ref aL, .ref aC, .ref aW, .ref aR, .ref aT, .ref aH, .ref aF, .int (nI ts), .int 1])), (aS, .inr (6, [.ref aSk, .ref aSm, .ref aSp, .ref aSt, .ref aSc, .ref aSr, .ref aSe, .int (nI kgr), .int (nI kbr), .int (nI kcs), .int (nI kwk), .int kz])), (aSk, .inl (g.2.1 0, 12, .inl (nIf kki))), (aSm, .inl (g.2.1 0, 12, .inl (nIf kma))), (aSp, .inl (g.2.1 0, 40, .inl (nIf kbp))), (aSt, .inl (g.2.1 0, 40, .inl (nIf kbt))), (aSc, .inl (g.2.1 0, 60, .inl kco)), (aSr, .inl (g.2.1 0, 8, .inl (nIf kru))), (aSe, .inl (g.2.1 0, 320, .inl kce)), (aK, .inr (6, [.ref aKk, .ref aKm, .ref aKp, .ref aKt, .ref aKc, .ref aKr, .ref aKe, .int (nI kgr), .int (nI kbr), .int (nI kcs), .int (nI kwk), .int kz])), (aKk, .inl (g.2.1 0, 12, .inl (nIf kki))), (aKm, .inl (g.2.1 0, 12, .inl (nIf kma))), (aKp, .inl (g.2.1 0, 40, .inl (nIf kbp))), (aKt, .inl (g.2.1 0, 40, .inl (nIf kbt))), (aKc, .inl (g.2.1 0, 60, .inl kco)), (aKr, .inl (g.2.1 0, 8, .inl (nIf kru))), (aKe, .inl (g.2.1 0, 320, .inl kce)), (aC, .inr (0, [.ref aS, .ref aL, .ref aV, .ref aO, .ref aCs, .ref aCl, .ref aCh, .ref aCw, .ref aCc, .ref aCb, .int (nI tot), .int (nI lat), .int 0, .int 0]))]) dX8_undo_28 ml_X8_104 mX0_stir (ct_X0_stir κ.2.1 g aC aS aL aV aO aCs aCl aCh aCw aCc aCb tot lat se sw) [17] rfl rfl 17 rfl rfl rfl (Nat.le_of_ble_eq_true rfl) (by decide) (Nat.le_refl _) (Nat.le_refl _) (rfl : [aC] = [aC]) rfl ?_
  refine x_aload_n dX8_undo_31 rfl ?_
  refine x_get dX8_undo_32 0 0 inX8 fl_X8_10 rfl rfl (by decide) rfl ?_
  refine x_get dX8_undo_35 1 10 inX6 fl_X8_189 rfl rfl (by decide) rfl ?_
  rw [← hQ]
  refine x_iret dX8_undo_38 rfl (Nat.le_of_ble_eq_true rfl) (Nat.le_of_ble_eq_true rfl) ?_
  exact ⟨rfl, rfl⟩

-- == status_b ==
theorem dX8_status_0 : xd cX8_status 0 (.iload_n 1) 1 1 := ⟨by decide +kernel, rfl⟩
theorem dX8_status_1 : xd cX8_status 1 (.iconst (-1)) 1 2 := ⟨by decide +kernel, rfl⟩
theorem dX8_status_2 : xd cX8_status 2 (.bipush 6) 2 4 := ⟨by decide +kernel, rfl⟩
theorem dX8_status_4 : xd cX8_status 4 (.invokestatic 89) 3 7 := ⟨by decide +kernel, rfl⟩
theorem dX8_status_7 : xj cX8_status 7 (.ifCond .ne) 10 16 := ⟨9, by decide +kernel, rfl, by decide⟩
theorem dX8_status_10 : xd cX8_status 10 (.aload_n 0) 1 11 := ⟨by decide +kernel, rfl⟩
theorem dX8_status_11 : xd cX8_status 11 (.iconst 0) 1 12 := ⟨by decide +kernel, rfl⟩
theorem dX8_status_12 : xd cX8_status 12 (.invokevirtual 79) 3 15 := ⟨by decide +kernel, rfl⟩
theorem dX8_status_15 : xd cX8_status 15 .ireturn 1 16 := ⟨by decide +kernel, rfl⟩
theorem dX8_status_16 : xd cX8_status 16 (.iload_n 1) 1 17 := ⟨by decide +kernel, rfl⟩
theorem dX8_status_17 : xj cX8_status 17 (.ifCond .lt) 20 27 := ⟨10, by decide +kernel, rfl, by decide⟩
theorem dX8_status_20 : xd cX8_status 20 (.aload_n 0) 1 21 := ⟨by decide +kernel, rfl⟩
theorem dX8_status_21 : xd cX8_status 21 (.getfield 67) 3 24 := ⟨by decide +kernel, rfl⟩
theorem dX8_status_24 : xd cX8_status 24 (.iload_n 1) 1 25 := ⟨by decide +kernel, rfl⟩
theorem dX8_status_25 : xd cX8_status 25 .iaload 1 26 := ⟨by decide +kernel, rfl⟩
theorem dX8_status_26 : xd cX8_status 26 .ireturn 1 27 := ⟨by decide +kernel, rfl⟩
theorem dX8_status_27 : xd cX8_status 27 (.iconst 0) 1 28 := ⟨by decide +kernel, rfl⟩
theorem dX8_status_28 : xd cX8_status 28 (.istore_n 2) 1 29 := ⟨by decide +kernel, rfl⟩
theorem dX8_status_29 : xd cX8_status 29 (.iconst 0) 1 30 := ⟨by decide +kernel, rfl⟩
theorem dX8_status_30 : xd cX8_status 30 (.istore_n 3) 1 31 := ⟨by decide +kernel, rfl⟩
theorem dX8_status_31 : xd cX8_status 31 (.iload_n 3) 1 32 := ⟨by decide +kernel, rfl⟩
theorem dX8_status_32 : xd cX8_status 32 (.bipush 7) 2 34 := ⟨by decide +kernel, rfl⟩
theorem dX8_status_34 : xj cX8_status 34 (.if_icmp .ge) 37 52 := ⟨18, by decide +kernel, rfl, by decide⟩
theorem dX8_status_37 : xd cX8_status 37 (.iload_n 2) 1 38 := ⟨by decide +kernel, rfl⟩
theorem dX8_status_38 : xd cX8_status 38 (.aload_n 0) 1 39 := ⟨by decide +kernel, rfl⟩
theorem dX8_status_39 : xd cX8_status 39 (.getfield 67) 3 42 := ⟨by decide +kernel, rfl⟩
theorem dX8_status_42 : xd cX8_status 42 (.iload_n 3) 1 43 := ⟨by decide +kernel, rfl⟩
theorem dX8_status_43 : xd cX8_status 43 .iaload 1 44 := ⟨by decide +kernel, rfl⟩
theorem dX8_status_44 : xd cX8_status 44 .iadd 1 45 := ⟨by decide +kernel, rfl⟩
theorem dX8_status_45 : xd cX8_status 45 (.istore_n 2) 1 46 := ⟨by decide +kernel, rfl⟩
theorem dX8_status_46 : xd cX8_status 46 (.iinc 3 1) 3 49 := ⟨by decide +kernel, rfl⟩
theorem dX8_status_49 : xj cX8_status 49 .goto 52 31 := ⟨(-18), by decide +kernel, rfl, by decide⟩
theorem dX8_status_52 : xd cX8_status 52 (.iload_n 2) 1 53 := ⟨by decide +kernel, rfl⟩
theorem dX8_status_53 : xd cX8_status 53 .ireturn 1 54 := ⟨by decide +kernel, rfl⟩

set_option maxRecDepth 100000 in
set_option maxHeartbeats 4000000 in
theorem ct_status_b (l : Launch) (g : XG) (aM aS aK aL aC aW aR aT aH aF : Nat) (ts : Nat) (kp : Int32) (aSk aSm aSp aSt aSc aSr aSe gr br cs wk : Nat) (z : Int32) (fi : Nat → Nat) (wh : Int32) (hb : wI wh (-1) 6 = 0) : Ct l g 10 0 0 yX8_status cX8_status 4 (some .int) [.ref aM, .int wh] [(aM, .inr (8, [.ref aS, .ref aK, .ref aL, .ref aC, .ref aW, .ref aR, .ref aT, .ref aH, .ref aF, .int (nI ts), .int kp])), (aF, .inl (g.2.1 0, 7, .inl (nIf fi))), (aS, .inr (6, [.ref aSk, .ref aSm, .ref aSp, .ref aSt, .ref aSc, .ref aSr, .ref aSe, .int (nI gr), .int (nI br), .int (nI cs), .int (nI wk), .int z]))] (xpi (fndI 0) [(aM, .inr (8, [.ref aS, .ref aK, .ref aL, .ref aC, .ref aW, .ref aR, .ref aT, .ref aH, .ref aF, .int (nI ts), .int kp])), (aF, .inl (g.2.1 0, 7, .inl (nIf (updN fi 0 (fi 0 + 1))))), (aS, .inr (6, [.ref aSk, .ref aSm, .ref aSp, .ref aSt, .ref aSc, .ref aSr, .ref aSe, .int (nI gr), .int (nI br), .int (nI cs), .int (nI wk), .int z]))]) := by
  refine Ct.ofX (lv := [some (.ref aM), some (.int wh), none, none]) (by decide) rfl (Nat.le_of_ble_eq_true rfl) (fun κ => ?_)
  generalize hQ : xQ κ g 0 0 _ = Q
  refine x_iload_n dX8_status_0 rfl ?_
  refine x_iconst (-1) dX8_status_1 (by decide) ?_
  refine x_bipush 6 dX8_status_2 (by decide) ?_
  refine x_cSi dX8_status_4 ml_X8_89 mX8_within (ct_X8_within κ.2.1 g wh (-1) 6) rfl (Nat.le_of_ble_eq_true rfl) (by decide) (Nat.le_refl _) (Nat.le_refl _) ?_
  refine x_if_ne dX8_status_7 (fun c7 => ?_) (fun c7 => ?_)
  · have c7 : ¬ ((wI wh (-1) 6) = 0) := c7
    exact absurd hb c7
  · have c7 : (wI wh (-1) 6) = 0 := c7
    refine x_aload_n dX8_status_10 rfl ?_
    refine x_iconst 0 dX8_status_11 (by decide) ?_
    refine x_cVi (ws' := [(aM, .inr (8, [.ref aS, .ref aK, .ref aL, .ref aC, .ref aW, .ref aR, .ref aT, .ref aH, .ref aF, .int (nI ts), .int kp])), (aF, .inl (g.2.1 0, 7, .inl (nIf (updN fi 0 (fi 0 + 1))))), (aS, .inr (6, [.ref aSk, .ref aSm, .ref aSp, .ref aSt, .ref aSc, .ref aSr, .ref aSe, .int (nI gr), .int (nI br), .int (nI cs), .int (nI wk), .int z]))]) dX8_status_12 ml_X8_79 mX8_tell (ct_X8_tell κ.2.1 g aM aS aK aL aC aW aR aT aH aF ts kp fi 0 (by decide)) [0, 1] rfl rfl 0 rfl rfl rfl (Nat.le_of_ble_eq_true rfl) (by decide) (Nat.le_refl _) (Nat.le_refl _) (rfl : [aM, aF] = [aM, aF]) rfl ?_
    rw [← hQ]
    refine x_iret dX8_status_15 rfl (Nat.le_of_ble_eq_true rfl) (Nat.le_of_ble_eq_true rfl) ?_
    exact ⟨rfl, rfl⟩

-- == status_o ==
set_option maxRecDepth 100000 in
set_option maxHeartbeats 4000000 in
theorem ct_status_o (l : Launch) (g : XG) (aM aS aK aL aC aW aR aT aH aF : Nat) (ts : Nat) (kp : Int32) (fi : Nat → Nat) (n : Nat) (hn : n ≤ 6) : Ct l g 10 0 0 yX8_status cX8_status 4 (some .int) [.ref aM, .int (nI n)] [(aM, .inr (8, [.ref aS, .ref aK, .ref aL, .ref aC, .ref aW, .ref aR, .ref aT, .ref aH, .ref aF, .int (nI ts), .int kp])), (aF, .inl (g.2.1 0, 7, .inl (nIf fi)))] (xpi (nI (fi n)) [(aM, .inr (8, [.ref aS, .ref aK, .ref aL, .ref aC, .ref aW, .ref aR, .ref aT, .ref aH, .ref aF, .int (nI ts), .int kp])), (aF, .inl (g.2.1 0, 7, .inl (nIf fi)))]) := by
  refine Ct.ofX (lv := [some (.ref aM), some (.int (nI n)), none, none]) (by decide) rfl (Nat.le_of_ble_eq_true rfl) (fun κ => ?_)
  generalize hQ : xQ κ g 0 0 _ = Q
  refine x_iload_n dX8_status_0 rfl ?_
  refine x_iconst (-1) dX8_status_1 (by decide) ?_
  refine x_bipush 6 dX8_status_2 (by decide) ?_
  refine x_cSi dX8_status_4 ml_X8_89 mX8_within (ct_within_s κ.2.1 g n (hn)) rfl (Nat.le_of_ble_eq_true rfl) (by decide) (Nat.le_refl _) (Nat.le_refl _) ?_
  refine x_if_ne dX8_status_7 (fun c7 => ?_) (fun c7 => ?_)
  rotate_left
  · exact absurd c7 (by decide)
  refine x_iload_n dX8_status_16 rfl ?_
  refine x_if_lt dX8_status_17 (fun c17 => ?_) (fun c17 => ?_)
  · have c17 : (nI n) < 0 := c17
    have c17n := (nI_ltI (a := n) (b := 0) (by omega) (by omega)).mp c17
    exact absurd c17n (by omega)
  · have c17 : ¬ ((nI n) < 0) := c17
    have c17n := mt (nI_ltI (a := n) (b := 0) (by omega) (by omega)).mpr c17
    refine x_aload_n dX8_status_20 rfl ?_
    refine x_get dX8_status_21 0 8 inX8 fl_X8_67 rfl rfl (by decide) rfl ?_
    refine x_iload_n dX8_status_24 rfl ?_
    refine x_iald dX8_status_25 1 n rfl (rfl) (by omega) (by decide) ?_
    rw [← hQ]
    refine x_iret dX8_status_26 rfl (Nat.le_of_ble_eq_true rfl) (Nat.le_of_ble_eq_true rfl) ?_
    exact ⟨rfl, rfl⟩

-- == status_a ==
set_option maxRecDepth 100000 in
set_option maxHeartbeats 4000000 in
theorem ct_status_a (l : Launch) (g : XG) (aM aS aK aL aC aW aR aT aH aF : Nat) (ts : Nat) (kp : Int32) (fi : Nat → Nat) : Ct l g 10 0 0 yX8_status cX8_status 4 (some .int) [.ref aM, .int ((-1))] [(aM, .inr (8, [.ref aS, .ref aK, .ref aL, .ref aC, .ref aW, .ref aR, .ref aT, .ref aH, .ref aF, .int (nI ts), .int kp])), (aF, .inl (g.2.1 0, 7, .inl (nIf fi)))] (xpi (nI (sumN fi 7)) [(aM, .inr (8, [.ref aS, .ref aK, .ref aL, .ref aC, .ref aW, .ref aR, .ref aT, .ref aH, .ref aF, .int (nI ts), .int kp])), (aF, .inl (g.2.1 0, 7, .inl (nIf fi)))]) := by
  refine Ct.ofX (lv := [some (.ref aM), some (.int ((-1))), none, none]) (by decide) rfl (Nat.le_of_ble_eq_true rfl) (fun κ => ?_)
  generalize hQ : xQ κ g 0 0 _ = Q
  refine x_iload_n dX8_status_0 rfl ?_
  refine x_iconst (-1) dX8_status_1 (by decide) ?_
  refine x_bipush 6 dX8_status_2 (by decide) ?_
  refine x_cSi dX8_status_4 ml_X8_89 mX8_within (ct_within_t κ.2.1 g ) rfl (Nat.le_of_ble_eq_true rfl) (by decide) (Nat.le_refl _) (Nat.le_refl _) ?_
  refine x_if_ne dX8_status_7 (fun c7 => ?_) (fun c7 => ?_)
  rotate_left
  · exact absurd c7 (by decide)
  refine x_iload_n dX8_status_16 rfl ?_
  refine x_if_lt dX8_status_17 (fun c17 => ?_) (fun c17 => ?_)
  rotate_left
  · exact absurd c17 (by decide)
  refine x_iconst 0 dX8_status_27 (by decide) ?_
  refine x_istore_n (lv' := [some (.ref aM), some (.int ((-1))), some (.int 0), none]) dX8_status_28 (xlt rfl) rfl ?_
  refine x_iconst 0 dX8_status_29 (by decide) ?_
  refine x_istore_n (lv' := [some (.ref aM), some (.int ((-1))), some (.int 0), some (.int 0)]) dX8_status_30 (xlt rfl) rfl ?_
  have L31_1 : ∀ (i : Nat), i ≤ 7 → ∀ (al : Nat), al = sumN fi i → Xs κ g 10 0 0 cX8_status yX8_status (some .int) Q 0 0 31 [some (.ref aM), some (.int ((-1))), some (.int (nI al)), some (.int (nI i))] [] [(aM, .inr (8, [.ref aS, .ref aK, .ref aL, .ref aC, .ref aW, .ref aR, .ref aT, .ref aH, .ref aF, .int (nI ts), .int kp])), (aF, .inl (g.2.1 0, 7, .inl (nIf fi)))] := by
    refine upTo 7 (fun i hi31 ih31 => ?_)
    intro al eal
    subst eal
    refine x_iload_n dX8_status_31 rfl ?_
    refine x_bipush 7 dX8_status_32 (by decide) ?_
    refine x_icmp_ge dX8_status_34 (fun c34 => ?_) (fun c34 => ?_)
    · have c34 : 7 ≤ (nI i) := c34
      have c34n := (nI_leI (a := 7) (b := i) (by omega) (by omega)).mp c34
      have hxc34 : i = 7 := by omega
      try rw [hxc34]
      refine x_iload_n dX8_status_52 rfl ?_
      rw [← hQ]
      refine x_iret dX8_status_53 rfl (Nat.le_of_ble_eq_true rfl) (Nat.le_of_ble_eq_true rfl) ?_
      exact ⟨rfl, rfl⟩
    · have c34 : ¬ (7 ≤ (nI i)) := c34
      have c34n := mt (nI_leI (a := 7) (b := i) (by omega) (by omega)).mpr c34
      refine x_iload_n dX8_status_37 rfl ?_
      refine x_aload_n dX8_status_38 rfl ?_
      refine x_get dX8_status_39 0 8 inX8 fl_X8_67 rfl rfl (by decide) rfl ?_
      refine x_iload_n dX8_status_42 rfl ?_
      refine x_iald dX8_status_43 1 i rfl (rfl) (by omega) (by decide) ?_
      refine x_iadd dX8_status_44 ?_
      refine x_rei (nI ((sumN fi i) + (fi i))) (nI_iadd (sumN fi i) (fi i)) ?_
      refine x_istore_n (lv' := [some (.ref aM), some (.int (-1)), some (.int (nI ((sumN fi i) + (fi i)))), some (.int (nI i))]) dX8_status_45 (xlt rfl) rfl ?_
      refine x_iinc (lv' := [some (.ref aM), some (.int (-1)), some (.int (nI ((sumN fi i) + (fi i)))), some (.int (nI (i + 1)))]) (nI (i + 1)) dX8_status_46 rfl (nI_addc i 1 rfl) rfl ?_
      refine x_goto dX8_status_49 ?_
      exact ih31 (by omega) ((sumN fi i) + (fi i)) (by rfl)
  exact L31_1 0 (Nat.zero_le _) 0 (by rfl)

