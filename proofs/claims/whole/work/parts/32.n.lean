
-- == rule_b ==
theorem dX8_rule_0 : xd cX8_rule 0 (.iload_n 1) 1 1 := ⟨by decide +kernel, rfl⟩
theorem dX8_rule_1 : xd cX8_rule 1 (.iconst 0) 1 2 := ⟨by decide +kernel, rfl⟩
theorem dX8_rule_2 : xd cX8_rule 2 (.bipush 7) 2 4 := ⟨by decide +kernel, rfl⟩
theorem dX8_rule_4 : xd cX8_rule 4 (.invokestatic 89) 3 7 := ⟨by decide +kernel, rfl⟩
theorem dX8_rule_7 : xj cX8_rule 7 (.ifCond .eq) 10 27 := ⟨20, by decide +kernel, rfl, by decide⟩
theorem dX8_rule_10 : xd cX8_rule 10 (.iload_n 2) 1 11 := ⟨by decide +kernel, rfl⟩
theorem dX8_rule_11 : xd cX8_rule 11 (.getstatic 166) 3 14 := ⟨by decide +kernel, rfl⟩
theorem dX8_rule_14 : xd cX8_rule 14 (.iload_n 1) 1 15 := ⟨by decide +kernel, rfl⟩
theorem dX8_rule_15 : xd cX8_rule 15 .iaload 1 16 := ⟨by decide +kernel, rfl⟩
theorem dX8_rule_16 : xd cX8_rule 16 (.getstatic 169) 3 19 := ⟨by decide +kernel, rfl⟩
theorem dX8_rule_19 : xd cX8_rule 19 (.iload_n 1) 1 20 := ⟨by decide +kernel, rfl⟩
theorem dX8_rule_20 : xd cX8_rule 20 .iaload 1 21 := ⟨by decide +kernel, rfl⟩
theorem dX8_rule_21 : xd cX8_rule 21 (.invokestatic 89) 3 24 := ⟨by decide +kernel, rfl⟩
theorem dX8_rule_24 : xj cX8_rule 24 (.ifCond .ne) 27 33 := ⟨9, by decide +kernel, rfl, by decide⟩
theorem dX8_rule_27 : xd cX8_rule 27 (.aload_n 0) 1 28 := ⟨by decide +kernel, rfl⟩
theorem dX8_rule_28 : xd cX8_rule 28 (.iconst 0) 1 29 := ⟨by decide +kernel, rfl⟩
theorem dX8_rule_29 : xd cX8_rule 29 (.invokevirtual 79) 3 32 := ⟨by decide +kernel, rfl⟩
theorem dX8_rule_32 : xd cX8_rule 32 .ireturn 1 33 := ⟨by decide +kernel, rfl⟩
theorem dX8_rule_33 : xd cX8_rule 33 (.aload_n 0) 1 34 := ⟨by decide +kernel, rfl⟩
theorem dX8_rule_34 : xd cX8_rule 34 (.getfield 10) 3 37 := ⟨by decide +kernel, rfl⟩
theorem dX8_rule_37 : xd cX8_rule 37 (.getfield 172) 3 40 := ⟨by decide +kernel, rfl⟩
theorem dX8_rule_40 : xd cX8_rule 40 (.iload_n 1) 1 41 := ⟨by decide +kernel, rfl⟩
theorem dX8_rule_41 : xd cX8_rule 41 .iaload 1 42 := ⟨by decide +kernel, rfl⟩
theorem dX8_rule_42 : xd cX8_rule 42 (.istore_n 3) 1 43 := ⟨by decide +kernel, rfl⟩
theorem dX8_rule_43 : xd cX8_rule 43 (.aload_n 0) 1 44 := ⟨by decide +kernel, rfl⟩
theorem dX8_rule_44 : xd cX8_rule 44 (.getfield 10) 3 47 := ⟨by decide +kernel, rfl⟩
theorem dX8_rule_47 : xd cX8_rule 47 (.getfield 172) 3 50 := ⟨by decide +kernel, rfl⟩
theorem dX8_rule_50 : xd cX8_rule 50 (.iload_n 1) 1 51 := ⟨by decide +kernel, rfl⟩
theorem dX8_rule_51 : xd cX8_rule 51 (.iload_n 2) 1 52 := ⟨by decide +kernel, rfl⟩
theorem dX8_rule_52 : xd cX8_rule 52 .iastore 1 53 := ⟨by decide +kernel, rfl⟩
theorem dX8_rule_53 : xd cX8_rule 53 (.iload_n 3) 1 54 := ⟨by decide +kernel, rfl⟩
theorem dX8_rule_54 : xd cX8_rule 54 .ireturn 1 55 := ⟨by decide +kernel, rfl⟩

set_option maxRecDepth 100000 in
set_option maxHeartbeats 4000000 in
theorem ct_rule_b (l : Launch) (g : XG) (aM aS aK aL aC aW aR aT aH aF : Nat) (ts : Nat) (kp : Int32) (aSk aSm aSp aSt aSc aSr aSe gr br cs wk : Nat) (z : Int32) (fi : Nat → Nat) (wh v : Int32) (hb : wI wh 0 7 = 0) : Ct l g 10 0 0 yX8_rule cX8_rule 4 (some .int) [.ref aM, .int wh, .int v] [(aM, .inr (8, [.ref aS, .ref aK, .ref aL, .ref aC, .ref aW, .ref aR, .ref aT, .ref aH, .ref aF, .int (nI ts), .int kp])), (aF, .inl (g.2.1 0, 7, .inl (nIf fi))), (aS, .inr (6, [.ref aSk, .ref aSm, .ref aSp, .ref aSt, .ref aSc, .ref aSr, .ref aSe, .int (nI gr), .int (nI br), .int (nI cs), .int (nI wk), .int z]))] (xpi (fndI 0) [(aM, .inr (8, [.ref aS, .ref aK, .ref aL, .ref aC, .ref aW, .ref aR, .ref aT, .ref aH, .ref aF, .int (nI ts), .int kp])), (aF, .inl (g.2.1 0, 7, .inl (nIf (updN fi 0 (fi 0 + 1))))), (aS, .inr (6, [.ref aSk, .ref aSm, .ref aSp, .ref aSt, .ref aSc, .ref aSr, .ref aSe, .int (nI gr), .int (nI br), .int (nI cs), .int (nI wk), .int z]))]) := by
  refine Ct.ofX (lv := [some (.ref aM), some (.int wh), some (.int v), none]) (by decide) rfl (Nat.le_of_ble_eq_true rfl) (fun κ => ?_)
  generalize hQ : xQ κ g 0 0 _ = Q
  refine x_iload_n dX8_rule_0 rfl ?_
  refine x_iconst 0 dX8_rule_1 (by decide) ?_
  refine x_bipush 7 dX8_rule_2 (by decide) ?_
  refine x_cSi dX8_rule_4 ml_X8_89 mX8_within (ct_X8_within κ.2.1 g wh 0 7) rfl (Nat.le_of_ble_eq_true rfl) (by decide) (Nat.le_refl _) (Nat.le_refl _) ?_
  refine x_if_eq dX8_rule_7 (fun c7 => ?_) (fun c7 => ?_)
  · have c7 : (wI wh 0 7) = 0 := c7
    refine x_aload_n dX8_rule_27 rfl ?_
    refine x_iconst 0 dX8_rule_28 (by decide) ?_
    refine x_cVi (ws' := [(aM, .inr (8, [.ref aS, .ref aK, .ref aL, .ref aC, .ref aW, .ref aR, .ref aT, .ref aH, .ref aF, .int (nI ts), .int kp])), (aF, .inl (g.2.1 0, 7, .inl (nIf (updN fi 0 (fi 0 + 1))))), (aS, .inr (6, [.ref aSk, .ref aSm, .ref aSp, .ref aSt, .ref aSc, .ref aSr, .ref aSe, .int (nI gr), .int (nI br), .int (nI cs), .int (nI wk), .int z]))]) dX8_rule_29 ml_X8_79 mX8_tell (ct_X8_tell κ.2.1 g aM aS aK aL aC aW aR aT aH aF ts kp fi 0 (by decide)) [0, 1] rfl rfl 0 rfl rfl rfl (Nat.le_of_ble_eq_true rfl) (by decide) (Nat.le_refl _) (Nat.le_refl _) (rfl : [aM, aF] = [aM, aF]) rfl ?_
    rw [← hQ]
    refine x_iret dX8_rule_32 rfl (Nat.le_of_ble_eq_true rfl) (Nat.le_of_ble_eq_true rfl) ?_
    exact ⟨rfl, rfl⟩
  · have c7 : ¬ ((wI wh 0 7) = 0) := c7
    exact absurd hb c7

-- == rule_c ==
set_option maxRecDepth 100000 in
set_option maxHeartbeats 4000000 in
theorem ct_rule_c (l : Launch) (g : XG) (aM aS aK aL aC aW aR aT aH aF : Nat) (ts : Nat) (kp : Int32) (aSk aSm aSp aSt aSc aSr aSe gr br cs wk : Nat) (z : Int32) (fi : Nat → Nat) (ru : Nat → Nat) (w : Nat) (v : Int32) (hw : w < 8) (hb : wI v (nI (rlN w)) (nI (rmN w)) = 0) : Ct l g 10 0 0 yX8_rule cX8_rule 4 (some .int) [.ref aM, .int (nI w), .int v] [(aM, .inr (8, [.ref aS, .ref aK, .ref aL, .ref aC, .ref aW, .ref aR, .ref aT, .ref aH, .ref aF, .int (nI ts), .int kp])), (aF, .inl (g.2.1 0, 7, .inl (nIf fi))), (aS, .inr (6, [.ref aSk, .ref aSm, .ref aSp, .ref aSt, .ref aSc, .ref aSr, .ref aSe, .int (nI gr), .int (nI br), .int (nI cs), .int (nI wk), .int z])), (aSr, .inl (g.2.1 0, 8, .inl (nIf ru)))] (xpi (fndI 0) [(aM, .inr (8, [.ref aS, .ref aK, .ref aL, .ref aC, .ref aW, .ref aR, .ref aT, .ref aH, .ref aF, .int (nI ts), .int kp])), (aF, .inl (g.2.1 0, 7, .inl (nIf (updN fi 0 (fi 0 + 1))))), (aS, .inr (6, [.ref aSk, .ref aSm, .ref aSp, .ref aSt, .ref aSc, .ref aSr, .ref aSe, .int (nI gr), .int (nI br), .int (nI cs), .int (nI wk), .int z])), (aSr, .inl (g.2.1 0, 8, .inl (nIf ru)))]) := by
  refine Ct.ofX (lv := [some (.ref aM), some (.int (nI w)), some (.int v), none]) (by decide) rfl (Nat.le_of_ble_eq_true rfl) (fun κ => ?_)
  generalize hQ : xQ κ g 0 0 _ = Q
  refine x_iload_n dX8_rule_0 rfl ?_
  refine x_iconst 0 dX8_rule_1 (by decide) ?_
  refine x_bipush 7 dX8_rule_2 (by decide) ?_
  refine x_cSi dX8_rule_4 ml_X8_89 mX8_within (ct_within_n κ.2.1 g w 0 7 (⟨by omega, by omega, by omega, by omega⟩)) rfl (Nat.le_of_ble_eq_true rfl) (by decide) (Nat.le_refl _) (Nat.le_refl _) ?_
  refine x_if_eq dX8_rule_7 (fun c7 => ?_) (fun c7 => ?_)
  · exact absurd c7 (by decide)
  refine x_iload_n dX8_rule_10 rfl ?_
  refine x_gets dX8_rule_11 (n := "RULE_LEAST") (N := 8) (f := tRL) (fun h => h.2.2.1) fl_X8_166 ?_
  refine x_iload_n dX8_rule_14 rfl ?_
  refine x_tald dX8_rule_15 (n := "RULE_LEAST") (N := 8) (f := tRL) (fun h => h.2.2.1) w (rfl) (by omega) (by decide) ?_
  refine x_gets dX8_rule_16 (n := "RULE_MOST") (N := 8) (f := tRM) (fun h => h.2.2.2.1) fl_X8_169 ?_
  refine x_iload_n dX8_rule_19 rfl ?_
  refine x_tald dX8_rule_20 (n := "RULE_MOST") (N := 8) (f := tRM) (fun h => h.2.2.2.1) w (rfl) (by omega) (by decide) ?_
  refine x_cSi dX8_rule_21 ml_X8_89 mX8_within (ct_X8_within κ.2.1 g v (nI (rlN w)) (nI (rmN w))) rfl (Nat.le_of_ble_eq_true rfl) (by decide) (Nat.le_refl _) (Nat.le_refl _) ?_
  refine x_if_ne dX8_rule_24 (fun c24 => ?_) (fun c24 => ?_)
  · have c24 : ¬ ((wI v (nI (rlN w)) (nI (rmN w))) = 0) := c24
    exact absurd hb c24
  · have c24 : (wI v (nI (rlN w)) (nI (rmN w))) = 0 := c24
    refine x_aload_n dX8_rule_27 rfl ?_
    refine x_iconst 0 dX8_rule_28 (by decide) ?_
    refine x_cVi (ws' := [(aM, .inr (8, [.ref aS, .ref aK, .ref aL, .ref aC, .ref aW, .ref aR, .ref aT, .ref aH, .ref aF, .int (nI ts), .int kp])), (aF, .inl (g.2.1 0, 7, .inl (nIf (updN fi 0 (fi 0 + 1))))), (aS, .inr (6, [.ref aSk, .ref aSm, .ref aSp, .ref aSt, .ref aSc, .ref aSr, .ref aSe, .int (nI gr), .int (nI br), .int (nI cs), .int (nI wk), .int z])), (aSr, .inl (g.2.1 0, 8, .inl (nIf ru)))]) dX8_rule_29 ml_X8_79 mX8_tell (ct_X8_tell κ.2.1 g aM aS aK aL aC aW aR aT aH aF ts kp fi 0 (by decide)) [0, 1] rfl rfl 0 rfl rfl rfl (Nat.le_of_ble_eq_true rfl) (by decide) (Nat.le_refl _) (Nat.le_refl _) (rfl : [aM, aF] = [aM, aF]) rfl ?_
    rw [← hQ]
    refine x_iret dX8_rule_32 rfl (Nat.le_of_ble_eq_true rfl) (Nat.le_of_ble_eq_true rfl) ?_
    exact ⟨rfl, rfl⟩

-- == rule_o ==
set_option maxRecDepth 100000 in
set_option maxHeartbeats 4000000 in
theorem ct_rule_o (l : Launch) (g : XG) (aM aS aK aL aC aW aR aT aH aF : Nat) (ts : Nat) (kp : Int32) (aSk aSm aSp aSt aSc aSr aSe gr br cs wk : Nat) (z : Int32) (fi : Nat → Nat) (ru : Nat → Nat) (w v : Nat) (hw : w < 8) (hv : rlN w ≤ v ∧ v ≤ rmN w) : Ct l g 10 0 0 yX8_rule cX8_rule 4 (some .int) [.ref aM, .int (nI w), .int (nI v)] [(aM, .inr (8, [.ref aS, .ref aK, .ref aL, .ref aC, .ref aW, .ref aR, .ref aT, .ref aH, .ref aF, .int (nI ts), .int kp])), (aF, .inl (g.2.1 0, 7, .inl (nIf fi))), (aS, .inr (6, [.ref aSk, .ref aSm, .ref aSp, .ref aSt, .ref aSc, .ref aSr, .ref aSe, .int (nI gr), .int (nI br), .int (nI cs), .int (nI wk), .int z])), (aSr, .inl (g.2.1 0, 8, .inl (nIf ru)))] (xpi (nI (ru w)) [(aM, .inr (8, [.ref aS, .ref aK, .ref aL, .ref aC, .ref aW, .ref aR, .ref aT, .ref aH, .ref aF, .int (nI ts), .int kp])), (aF, .inl (g.2.1 0, 7, .inl (nIf fi))), (aS, .inr (6, [.ref aSk, .ref aSm, .ref aSp, .ref aSt, .ref aSc, .ref aSr, .ref aSe, .int (nI gr), .int (nI br), .int (nI cs), .int (nI wk), .int z])), (aSr, .inl (g.2.1 0, 8, .inl (nIf (updN ru w v))))]) := by
  refine Ct.ofX (lv := [some (.ref aM), some (.int (nI w)), some (.int (nI v)), none]) (by decide) rfl (Nat.le_of_ble_eq_true rfl) (fun κ => ?_)
  generalize hQ : xQ κ g 0 0 _ = Q
  have hrm := rmN_le w
  refine x_iload_n dX8_rule_0 rfl ?_
  refine x_iconst 0 dX8_rule_1 (by decide) ?_
  refine x_bipush 7 dX8_rule_2 (by decide) ?_
  refine x_cSi dX8_rule_4 ml_X8_89 mX8_within (ct_within_n κ.2.1 g w 0 7 (⟨by omega, by omega, by omega, by omega⟩)) rfl (Nat.le_of_ble_eq_true rfl) (by decide) (Nat.le_refl _) (Nat.le_refl _) ?_
  refine x_if_eq dX8_rule_7 (fun c7 => ?_) (fun c7 => ?_)
  · exact absurd c7 (by decide)
  refine x_iload_n dX8_rule_10 rfl ?_
  refine x_gets dX8_rule_11 (n := "RULE_LEAST") (N := 8) (f := tRL) (fun h => h.2.2.1) fl_X8_166 ?_
  refine x_iload_n dX8_rule_14 rfl ?_
  refine x_tald dX8_rule_15 (n := "RULE_LEAST") (N := 8) (f := tRL) (fun h => h.2.2.1) w (rfl) (by omega) (by decide) ?_
  refine x_gets dX8_rule_16 (n := "RULE_MOST") (N := 8) (f := tRM) (fun h => h.2.2.2.1) fl_X8_169 ?_
  refine x_iload_n dX8_rule_19 rfl ?_
  refine x_tald dX8_rule_20 (n := "RULE_MOST") (N := 8) (f := tRM) (fun h => h.2.2.2.1) w (rfl) (by omega) (by decide) ?_
  refine x_cSi dX8_rule_21 ml_X8_89 mX8_within (ct_within_n κ.2.1 g v (rlN w) (rmN w) (⟨hv.1, hv.2, by omega, by omega⟩)) rfl (Nat.le_of_ble_eq_true rfl) (by decide) (Nat.le_refl _) (Nat.le_refl _) ?_
  refine x_if_ne dX8_rule_24 (fun c24 => ?_) (fun c24 => ?_)
  rotate_left
  · exact absurd c24 (by decide)
  refine x_aload_n dX8_rule_33 rfl ?_
  refine x_get dX8_rule_34 0 0 inX8 fl_X8_10 rfl rfl (by decide) rfl ?_
  refine x_get dX8_rule_37 2 5 inX6 fl_X8_172 rfl rfl (by decide) rfl ?_
  refine x_iload_n dX8_rule_40 rfl ?_
  refine x_iald dX8_rule_41 3 w rfl (rfl) (by omega) (by decide) ?_
  refine x_istore_n (lv' := [some (.ref aM), some (.int (nI w)), some (.int (nI v)), some (.int (nI (ru w)))]) dX8_rule_42 (xlt rfl) rfl ?_
  refine x_aload_n dX8_rule_43 rfl ?_
  refine x_get dX8_rule_44 0 0 inX8 fl_X8_10 rfl rfl (by decide) rfl ?_
  refine x_get dX8_rule_47 2 5 inX6 fl_X8_172 rfl rfl (by decide) rfl ?_
  refine x_iload_n dX8_rule_50 rfl ?_
  refine x_iload_n dX8_rule_51 rfl ?_
  refine x_iast (ws' := [(aM, .inr (8, [.ref aS, .ref aK, .ref aL, .ref aC, .ref aW, .ref aR, .ref aT, .ref aH, .ref aF, .int (nI ts), .int kp])), (aF, .inl (g.2.1 0, 7, .inl (nIf fi))), (aS, .inr (6, [.ref aSk, .ref aSm, .ref aSp, .ref aSt, .ref aSc, .ref aSr, .ref aSe, .int (nI gr), .int (nI br), .int (nI cs), .int (nI wk), .int z])), (aSr, .inl (g.2.1 0, 8, .inl (nIf (updN ru w v))))]) dX8_rule_52 3 w rfl (rfl) (by omega) (by decide) (by rw [upd_nIf]; rfl) ?_
  refine x_iload_n dX8_rule_53 rfl ?_
  rw [← hQ]
  refine x_iret dX8_rule_54 rfl (Nat.le_of_ble_eq_true rfl) (Nat.le_of_ble_eq_true rfl) ?_
  exact ⟨rfl, rfl⟩

-- == feed_b ==
theorem dX8_feed_0 : xd cX8_feed 0 (.iload_n 2) 1 1 := ⟨by decide +kernel, rfl⟩
theorem dX8_feed_1 : xd cX8_feed 1 (.iconst 1) 1 2 := ⟨by decide +kernel, rfl⟩
theorem dX8_feed_2 : xd cX8_feed 2 (.iconst 4) 1 3 := ⟨by decide +kernel, rfl⟩
theorem dX8_feed_3 : xd cX8_feed 3 (.invokestatic 89) 3 6 := ⟨by decide +kernel, rfl⟩
theorem dX8_feed_6 : xj cX8_feed 6 (.ifCond .ne) 9 15 := ⟨9, by decide +kernel, rfl, by decide⟩
theorem dX8_feed_9 : xd cX8_feed 9 (.aload_n 0) 1 10 := ⟨by decide +kernel, rfl⟩
theorem dX8_feed_10 : xd cX8_feed 10 (.iconst 0) 1 11 := ⟨by decide +kernel, rfl⟩
theorem dX8_feed_11 : xd cX8_feed 11 (.invokevirtual 79) 3 14 := ⟨by decide +kernel, rfl⟩
theorem dX8_feed_14 : xd cX8_feed 14 .ireturn 1 15 := ⟨by decide +kernel, rfl⟩
theorem dX8_feed_15 : xd cX8_feed 15 (.aload_n 0) 1 16 := ⟨by decide +kernel, rfl⟩
theorem dX8_feed_16 : xd cX8_feed 16 (.getfield 145) 3 19 := ⟨by decide +kernel, rfl⟩
theorem dX8_feed_19 : xd cX8_feed 19 (.iload_n 2) 1 20 := ⟨by decide +kernel, rfl⟩
theorem dX8_feed_20 : xd cX8_feed 20 .iadd 1 21 := ⟨by decide +kernel, rfl⟩
theorem dX8_feed_21 : xd cX8_feed 21 (.bipush 60) 2 23 := ⟨by decide +kernel, rfl⟩
theorem dX8_feed_23 : xj cX8_feed 23 (.if_icmp .le) 26 32 := ⟨9, by decide +kernel, rfl, by decide⟩
theorem dX8_feed_26 : xd cX8_feed 26 (.aload_n 0) 1 27 := ⟨by decide +kernel, rfl⟩
theorem dX8_feed_27 : xd cX8_feed 27 (.iconst 1) 1 28 := ⟨by decide +kernel, rfl⟩
theorem dX8_feed_28 : xd cX8_feed 28 (.invokevirtual 79) 3 31 := ⟨by decide +kernel, rfl⟩
theorem dX8_feed_31 : xd cX8_feed 31 .ireturn 1 32 := ⟨by decide +kernel, rfl⟩
theorem dX8_feed_32 : xd cX8_feed 32 (.iload_n 2) 1 33 := ⟨by decide +kernel, rfl⟩
theorem dX8_feed_33 : xd cX8_feed 33 (.iconst 1) 1 34 := ⟨by decide +kernel, rfl⟩
theorem dX8_feed_34 : xd cX8_feed 34 .isub 1 35 := ⟨by decide +kernel, rfl⟩
theorem dX8_feed_35 : xd cX8_feed 35 (.istore_n 3) 1 36 := ⟨by decide +kernel, rfl⟩
theorem dX8_feed_36 : xd cX8_feed 36 (.iload_n 3) 1 37 := ⟨by decide +kernel, rfl⟩
theorem dX8_feed_37 : xj cX8_feed 37 (.ifCond .lt) 40 72 := ⟨35, by decide +kernel, rfl, by decide⟩
theorem dX8_feed_40 : xd cX8_feed 40 (.aload_n 0) 1 41 := ⟨by decide +kernel, rfl⟩
theorem dX8_feed_41 : xd cX8_feed 41 (.getfield 56) 3 44 := ⟨by decide +kernel, rfl⟩
theorem dX8_feed_44 : xd cX8_feed 44 (.aload_n 0) 1 45 := ⟨by decide +kernel, rfl⟩
theorem dX8_feed_45 : xd cX8_feed 45 (.getfield 145) 3 48 := ⟨by decide +kernel, rfl⟩
theorem dX8_feed_48 : xd cX8_feed 48 (.iload_n 1) 1 49 := ⟨by decide +kernel, rfl⟩
theorem dX8_feed_49 : xd cX8_feed 49 (.bipush 8) 2 51 := ⟨by decide +kernel, rfl⟩
theorem dX8_feed_51 : xd cX8_feed 51 (.iload_n 3) 1 52 := ⟨by decide +kernel, rfl⟩
theorem dX8_feed_52 : xd cX8_feed 52 .imul 1 53 := ⟨by decide +kernel, rfl⟩
theorem dX8_feed_53 : xd cX8_feed 53 .ishr 1 54 := ⟨by decide +kernel, rfl⟩
theorem dX8_feed_54 : xd cX8_feed 54 .i2b 1 55 := ⟨by decide +kernel, rfl⟩
theorem dX8_feed_55 : xd cX8_feed 55 .bastore 1 56 := ⟨by decide +kernel, rfl⟩
theorem dX8_feed_56 : xd cX8_feed 56 (.aload_n 0) 1 57 := ⟨by decide +kernel, rfl⟩
theorem dX8_feed_57 : xd cX8_feed 57 .dup 1 58 := ⟨by decide +kernel, rfl⟩
theorem dX8_feed_58 : xd cX8_feed 58 (.getfield 145) 3 61 := ⟨by decide +kernel, rfl⟩
theorem dX8_feed_61 : xd cX8_feed 61 (.iconst 1) 1 62 := ⟨by decide +kernel, rfl⟩
theorem dX8_feed_62 : xd cX8_feed 62 .iadd 1 63 := ⟨by decide +kernel, rfl⟩
theorem dX8_feed_63 : xd cX8_feed 63 (.putfield 145) 3 66 := ⟨by decide +kernel, rfl⟩
theorem dX8_feed_66 : xd cX8_feed 66 (.iinc 3 (-1)) 3 69 := ⟨by decide +kernel, rfl⟩
theorem dX8_feed_69 : xj cX8_feed 69 .goto 72 36 := ⟨(-33), by decide +kernel, rfl, by decide⟩
theorem dX8_feed_72 : xd cX8_feed 72 (.aload_n 0) 1 73 := ⟨by decide +kernel, rfl⟩
theorem dX8_feed_73 : xd cX8_feed 73 (.getfield 145) 3 76 := ⟨by decide +kernel, rfl⟩
theorem dX8_feed_76 : xd cX8_feed 76 .ireturn 1 77 := ⟨by decide +kernel, rfl⟩

set_option maxRecDepth 100000 in
set_option maxHeartbeats 4000000 in
theorem ct_feed_b (l : Launch) (g : XG) (aM aS aK aL aC aW aR aT aH aF : Nat) (ts : Nat) (kp : Int32) (aSk aSm aSp aSt aSc aSr aSe gr br cs wk : Nat) (z : Int32) (fi : Nat → Nat) (bb n : Int32) (hb : wI n 1 4 = 0) : Ct l g 10 0 0 yX8_feed cX8_feed 4 (some .int) [.ref aM, .int bb, .int n] [(aM, .inr (8, [.ref aS, .ref aK, .ref aL, .ref aC, .ref aW, .ref aR, .ref aT, .ref aH, .ref aF, .int (nI ts), .int kp])), (aF, .inl (g.2.1 0, 7, .inl (nIf fi))), (aS, .inr (6, [.ref aSk, .ref aSm, .ref aSp, .ref aSt, .ref aSc, .ref aSr, .ref aSe, .int (nI gr), .int (nI br), .int (nI cs), .int (nI wk), .int z]))] (xpi (fndI 0) [(aM, .inr (8, [.ref aS, .ref aK, .ref aL, .ref aC, .ref aW, .ref aR, .ref aT, .ref aH, .ref aF, .int (nI ts), .int kp])), (aF, .inl (g.2.1 0, 7, .inl (nIf (updN fi 0 (fi 0 + 1))))), (aS, .inr (6, [.ref aSk, .ref aSm, .ref aSp, .ref aSt, .ref aSc, .ref aSr, .ref aSe, .int (nI gr), .int (nI br), .int (nI cs), .int (nI wk), .int z]))]) := by
  refine Ct.ofX (lv := [some (.ref aM), some (.int bb), some (.int n), none]) (by decide) rfl (Nat.le_of_ble_eq_true rfl) (fun κ => ?_)
  generalize hQ : xQ κ g 0 0 _ = Q
  refine x_iload_n dX8_feed_0 rfl ?_
  refine x_iconst 1 dX8_feed_1 (by decide) ?_
  refine x_iconst 4 dX8_feed_2 (by decide) ?_
  refine x_cSi dX8_feed_3 ml_X8_89 mX8_within (ct_X8_within κ.2.1 g n 1 4) rfl (Nat.le_of_ble_eq_true rfl) (by decide) (Nat.le_refl _) (Nat.le_refl _) ?_
  refine x_if_ne dX8_feed_6 (fun c6 => ?_) (fun c6 => ?_)
  · have c6 : ¬ ((wI n 1 4) = 0) := c6
    exact absurd hb c6
  · have c6 : (wI n 1 4) = 0 := c6
    refine x_aload_n dX8_feed_9 rfl ?_
    refine x_iconst 0 dX8_feed_10 (by decide) ?_
    refine x_cVi (ws' := [(aM, .inr (8, [.ref aS, .ref aK, .ref aL, .ref aC, .ref aW, .ref aR, .ref aT, .ref aH, .ref aF, .int (nI ts), .int kp])), (aF, .inl (g.2.1 0, 7, .inl (nIf (updN fi 0 (fi 0 + 1))))), (aS, .inr (6, [.ref aSk, .ref aSm, .ref aSp, .ref aSt, .ref aSc, .ref aSr, .ref aSe, .int (nI gr), .int (nI br), .int (nI cs), .int (nI wk), .int z]))]) dX8_feed_11 ml_X8_79 mX8_tell (ct_X8_tell κ.2.1 g aM aS aK aL aC aW aR aT aH aF ts kp fi 0 (by decide)) [0, 1] rfl rfl 0 rfl rfl rfl (Nat.le_of_ble_eq_true rfl) (by decide) (Nat.le_refl _) (Nat.le_refl _) (rfl : [aM, aF] = [aM, aF]) rfl ?_
    rw [← hQ]
    refine x_iret dX8_feed_14 rfl (Nat.le_of_ble_eq_true rfl) (Nat.le_of_ble_eq_true rfl) ?_
    exact ⟨rfl, rfl⟩

-- == feed_f ==
set_option maxRecDepth 100000 in
set_option maxHeartbeats 4000000 in
theorem ct_feed_f (l : Launch) (g : XG) (aM aS aK aL aC aW aR aT aH aF : Nat) (ts : Nat) (kp : Int32) (aSk aSm aSp aSt aSc aSr aSe gr br cs wk : Nat) (z : Int32) (fi : Nat → Nat) (bb : Int32) (n : Nat) (hn : 1 ≤ n ∧ n ≤ 4) (hts : ts ≤ 60) (hf : 60 < ts + n) : Ct l g 10 0 0 yX8_feed cX8_feed 4 (some .int) [.ref aM, .int bb, .int (nI n)] [(aM, .inr (8, [.ref aS, .ref aK, .ref aL, .ref aC, .ref aW, .ref aR, .ref aT, .ref aH, .ref aF, .int (nI ts), .int kp])), (aF, .inl (g.2.1 0, 7, .inl (nIf fi))), (aS, .inr (6, [.ref aSk, .ref aSm, .ref aSp, .ref aSt, .ref aSc, .ref aSr, .ref aSe, .int (nI gr), .int (nI br), .int (nI cs), .int (nI wk), .int z]))] (xpi (fndI 1) [(aM, .inr (8, [.ref aS, .ref aK, .ref aL, .ref aC, .ref aW, .ref aR, .ref aT, .ref aH, .ref aF, .int (nI ts), .int kp])), (aF, .inl (g.2.1 0, 7, .inl (nIf (updN fi 1 (fi 1 + 1))))), (aS, .inr (6, [.ref aSk, .ref aSm, .ref aSp, .ref aSt, .ref aSc, .ref aSr, .ref aSe, .int (nI gr), .int (nI br), .int (nI cs), .int (nI wk), .int z]))]) := by
  refine Ct.ofX (lv := [some (.ref aM), some (.int bb), some (.int (nI n)), none]) (by decide) rfl (Nat.le_of_ble_eq_true rfl) (fun κ => ?_)
  generalize hQ : xQ κ g 0 0 _ = Q
  refine x_iload_n dX8_feed_0 rfl ?_
  refine x_iconst 1 dX8_feed_1 (by decide) ?_
  refine x_iconst 4 dX8_feed_2 (by decide) ?_
  refine x_cSi dX8_feed_3 ml_X8_89 mX8_within (ct_within_n κ.2.1 g n 1 4 (⟨by omega, by omega, by omega, by omega⟩)) rfl (Nat.le_of_ble_eq_true rfl) (by decide) (Nat.le_refl _) (Nat.le_refl _) ?_
  refine x_if_ne dX8_feed_6 (fun c6 => ?_) (fun c6 => ?_)
  rotate_left
  · exact absurd c6 (by decide)
  refine x_aload_n dX8_feed_15 rfl ?_
  refine x_get dX8_feed_16 0 9 inX8 fl_X8_145 rfl rfl (by decide) rfl ?_
  refine x_iload_n dX8_feed_19 rfl ?_
  refine x_iadd dX8_feed_20 ?_
  refine x_rei (nI (ts + n)) (nI_iadd ts n) ?_
  refine x_bipush 60 dX8_feed_21 (by decide) ?_
  refine x_icmp_le dX8_feed_23 (fun c23 => ?_) (fun c23 => ?_)
  · have c23 : (nI (ts + n)) ≤ 60 := c23
    have c23n := (nI_leI (a := (ts + n)) (b := 60) (by omega) (by omega)).mp c23
    exact absurd c23n (by omega)
  · have c23 : ¬ ((nI (ts + n)) ≤ 60) := c23
    have c23n := mt (nI_leI (a := (ts + n)) (b := 60) (by omega) (by omega)).mpr c23
    refine x_aload_n dX8_feed_26 rfl ?_
    refine x_iconst 1 dX8_feed_27 (by decide) ?_
    refine x_cVi (ws' := [(aM, .inr (8, [.ref aS, .ref aK, .ref aL, .ref aC, .ref aW, .ref aR, .ref aT, .ref aH, .ref aF, .int (nI ts), .int kp])), (aF, .inl (g.2.1 0, 7, .inl (nIf (updN fi 1 (fi 1 + 1))))), (aS, .inr (6, [.ref aSk, .ref aSm, .ref aSp, .ref aSt, .ref aSc, .ref aSr, .ref aSe, .int (nI gr), .int (nI br), .int (nI cs), .int (nI wk), .int z]))]) dX8_feed_28 ml_X8_79 mX8_tell (ct_X8_tell κ.2.1 g aM aS aK aL aC aW aR aT aH aF ts kp fi 1 (by decide)) [0, 1] rfl rfl 0 rfl rfl rfl (Nat.le_of_ble_eq_true rfl) (by decide) (Nat.le_refl _) (Nat.le_refl _) (rfl : [aM, aF] = [aM, aF]) rfl ?_
    rw [← hQ]
    refine x_iret dX8_feed_31 rfl (Nat.le_of_ble_eq_true rfl) (Nat.le_of_ble_eq_true rfl) ?_
    exact ⟨rfl, rfl⟩

-- == feed_1 ==
set_option maxRecDepth 100000 in
set_option maxHeartbeats 4000000 in
theorem ct_feed_1 (l : Launch) (g : XG) (aM aS aK aL aC aW aR aT aH aF : Nat) (ts : Nat) (kp : Int32) (tp : Nat → Int32) (bb : Int32) (hf : ts + 1 ≤ 60) : Ct l g 10 0 0 yX8_feed cX8_feed 4 (some .int) [.ref aM, .int bb, .int 1] [(aM, .inr (8, [.ref aS, .ref aK, .ref aL, .ref aC, .ref aW, .ref aR, .ref aT, .ref aH, .ref aF, .int (nI ts), .int kp])), (aT, .inl (g.2.1 1, 60, .inl tp))] (xpi (nI (ts + 1)) [(aM, .inr (8, [.ref aS, .ref aK, .ref aL, .ref aC, .ref aW, .ref aR, .ref aT, .ref aH, .ref aF, .int (nI (ts + 1)), .int kp])), (aT, .inl (g.2.1 1, 60, .inl (upd (tp) (ts) (vp_nar .byte (bb >>> (0 &&& 31)).toInt8.toInt32))))]) := by
  refine Ct.ofX (lv := [some (.ref aM), some (.int bb), some (.int 1), none]) (by decide) rfl (Nat.le_of_ble_eq_true rfl) (fun κ => ?_)
  generalize hQ : xQ κ g 0 0 _ = Q
  refine x_iload_n dX8_feed_0 rfl ?_
  refine x_iconst 1 dX8_feed_1 (by decide) ?_
  refine x_iconst 4 dX8_feed_2 (by decide) ?_
  refine x_cSi dX8_feed_3 ml_X8_89 mX8_within (ct_within_n κ.2.1 g 1 1 4 (⟨by omega, by omega, by omega, by omega⟩)) rfl (Nat.le_of_ble_eq_true rfl) (by decide) (Nat.le_refl _) (Nat.le_refl _) ?_
  refine x_if_ne dX8_feed_6 (fun c6 => ?_) (fun c6 => ?_)
  rotate_left
  · exact absurd c6 (by decide)
  refine x_aload_n dX8_feed_15 rfl ?_
  refine x_get dX8_feed_16 0 9 inX8 fl_X8_145 rfl rfl (by decide) rfl ?_
  refine x_iload_n dX8_feed_19 rfl ?_
  refine x_iadd dX8_feed_20 ?_
  refine x_rei (nI (ts + 1)) (nI_addc ts 1 rfl) ?_
  refine x_bipush 60 dX8_feed_21 (by decide) ?_
  refine x_icmp_le dX8_feed_23 (fun c23 => ?_) (fun c23 => ?_)
  · have c23 : (nI (ts + 1)) ≤ 60 := c23
    have c23n := (nI_leI (a := (ts + 1)) (b := 60) (by omega) (by omega)).mp c23
    refine x_iload_n dX8_feed_32 rfl ?_
    refine x_iconst 1 dX8_feed_33 (by decide) ?_
    refine x_isub dX8_feed_34 ?_
    refine x_rei 0 (by decide) ?_
    refine x_istore_n (lv' := [some (.ref aM), some (.int bb), some (.int 1), some (.int 0)]) dX8_feed_35 (xlt rfl) rfl ?_
    refine x_iload_n dX8_feed_36 rfl ?_
    refine x_if_lt dX8_feed_37 (fun c37 => ?_) (fun c37 => ?_)
    · exact absurd c37 (by decide)
    refine x_aload_n dX8_feed_40 rfl ?_
    refine x_get dX8_feed_41 0 6 inX8 fl_X8_56 rfl rfl (by decide) rfl ?_
    refine x_aload_n dX8_feed_44 rfl ?_
    refine x_get dX8_feed_45 0 9 inX8 fl_X8_145 rfl rfl (by decide) rfl ?_
    refine x_iload_n dX8_feed_48 rfl ?_
    refine x_bipush 8 dX8_feed_49 (by decide) ?_
    refine x_iload_n dX8_feed_51 rfl ?_
    refine x_imul dX8_feed_52 ?_
    refine x_rei 0 (by decide) ?_
    refine x_ishr dX8_feed_53 ?_
    refine x_i2b dX8_feed_54 ?_
    refine x_bast (ws' := [(aM, .inr (8, [.ref aS, .ref aK, .ref aL, .ref aC, .ref aW, .ref aR, .ref aT, .ref aH, .ref aF, .int (nI ts), .int kp])), (aT, .inl (g.2.1 1, 60, .inl (upd tp ts (vp_nar .byte ((bb >>> (0 &&& 31)).toInt8.toInt32)))))]) dX8_feed_55 1 ts rfl (rfl) (by omega) (by decide) rfl ?_
    refine x_aload_n dX8_feed_56 rfl ?_
    refine x_dup dX8_feed_57 rfl ?_
    refine x_get dX8_feed_58 0 9 inX8 fl_X8_145 rfl rfl (by decide) rfl ?_
    refine x_iconst 1 dX8_feed_61 (by decide) ?_
    refine x_iadd dX8_feed_62 ?_
    refine x_rei (nI (ts + 1)) (nI_addc ts 1 rfl) ?_
    refine x_put (ws' := [(aM, .inr (8, [.ref aS, .ref aK, .ref aL, .ref aC, .ref aW, .ref aR, .ref aT, .ref aH, .ref aF, .int (nI (ts + 1)), .int kp])), (aT, .inl (g.2.1 1, 60, .inl (upd tp ts (vp_nar .byte ((bb >>> (0 &&& 31)).toInt8.toInt32)))))]) dX8_feed_63 0 9 inX8 tyX8_ok nmX8 fl_X8_145 rfl rfl (by decide) rfl (rfl) rfl (xlt rfl) rfl ?_
    refine x_iinc (lv' := [some (.ref aM), some (.int bb), some (.int 1), some (.int ((-1)))]) ((-1)) dX8_feed_66 rfl (by decide) rfl ?_
    refine x_goto dX8_feed_69 ?_
    refine x_iload_n dX8_feed_36 rfl ?_
    refine x_if_lt dX8_feed_37 (fun c37 => ?_) (fun c37 => ?_)
    rotate_left
    · exact absurd c37 (by decide)
    refine x_aload_n dX8_feed_72 rfl ?_
    refine x_get dX8_feed_73 0 9 inX8 fl_X8_145 rfl rfl (by decide) rfl ?_
    rw [← hQ]
    refine x_iret dX8_feed_76 rfl (Nat.le_of_ble_eq_true rfl) (Nat.le_of_ble_eq_true rfl) ?_
    exact ⟨rfl, rfl⟩
  · have c23 : ¬ ((nI (ts + 1)) ≤ 60) := c23
    have c23n := mt (nI_leI (a := (ts + 1)) (b := 60) (by omega) (by omega)).mpr c23
    exact absurd c23n (by omega)

-- == feed_2 ==
set_option maxRecDepth 100000 in
set_option maxHeartbeats 4000000 in
theorem ct_feed_2 (l : Launch) (g : XG) (aM aS aK aL aC aW aR aT aH aF : Nat) (ts : Nat) (kp : Int32) (tp : Nat → Int32) (bb : Int32) (hf : ts + 2 ≤ 60) : Ct l g 10 0 0 yX8_feed cX8_feed 4 (some .int) [.ref aM, .int bb, .int 2] [(aM, .inr (8, [.ref aS, .ref aK, .ref aL, .ref aC, .ref aW, .ref aR, .ref aT, .ref aH, .ref aF, .int (nI ts), .int kp])), (aT, .inl (g.2.1 1, 60, .inl tp))] (xpi (nI (ts + 1 + 1)) [(aM, .inr (8, [.ref aS, .ref aK, .ref aL, .ref aC, .ref aW, .ref aR, .ref aT, .ref aH, .ref aF, .int (nI (ts + 1 + 1)), .int kp])), (aT, .inl (g.2.1 1, 60, .inl (upd (upd (tp) (ts) (vp_nar .byte (bb >>> (8 &&& 31)).toInt8.toInt32)) (ts + 1) (vp_nar .byte (bb >>> (0 &&& 31)).toInt8.toInt32))))]) := by
  refine Ct.ofX (lv := [some (.ref aM), some (.int bb), some (.int 2), none]) (by decide) rfl (Nat.le_of_ble_eq_true rfl) (fun κ => ?_)
  generalize hQ : xQ κ g 0 0 _ = Q
  refine x_iload_n dX8_feed_0 rfl ?_
  refine x_iconst 1 dX8_feed_1 (by decide) ?_
  refine x_iconst 4 dX8_feed_2 (by decide) ?_
  refine x_cSi dX8_feed_3 ml_X8_89 mX8_within (ct_within_n κ.2.1 g 2 1 4 (⟨by omega, by omega, by omega, by omega⟩)) rfl (Nat.le_of_ble_eq_true rfl) (by decide) (Nat.le_refl _) (Nat.le_refl _) ?_
  refine x_if_ne dX8_feed_6 (fun c6 => ?_) (fun c6 => ?_)
  rotate_left
  · exact absurd c6 (by decide)
  refine x_aload_n dX8_feed_15 rfl ?_
  refine x_get dX8_feed_16 0 9 inX8 fl_X8_145 rfl rfl (by decide) rfl ?_
  refine x_iload_n dX8_feed_19 rfl ?_
  refine x_iadd dX8_feed_20 ?_
  refine x_rei (nI (ts + 2)) (nI_addc ts 2 rfl) ?_
  refine x_bipush 60 dX8_feed_21 (by decide) ?_
  refine x_icmp_le dX8_feed_23 (fun c23 => ?_) (fun c23 => ?_)
  · have c23 : (nI (ts + 2)) ≤ 60 := c23
    have c23n := (nI_leI (a := (ts + 2)) (b := 60) (by omega) (by omega)).mp c23
    refine x_iload_n dX8_feed_32 rfl ?_
    refine x_iconst 1 dX8_feed_33 (by decide) ?_
    refine x_isub dX8_feed_34 ?_
    refine x_rei 1 (by decide) ?_
    refine x_istore_n (lv' := [some (.ref aM), some (.int bb), some (.int 2), some (.int 1)]) dX8_feed_35 (xlt rfl) rfl ?_
    refine x_iload_n dX8_feed_36 rfl ?_
    refine x_if_lt dX8_feed_37 (fun c37 => ?_) (fun c37 => ?_)
    · exact absurd c37 (by decide)
    refine x_aload_n dX8_feed_40 rfl ?_
    refine x_get dX8_feed_41 0 6 inX8 fl_X8_56 rfl rfl (by decide) rfl ?_
    refine x_aload_n dX8_feed_44 rfl ?_
    refine x_get dX8_feed_45 0 9 inX8 fl_X8_145 rfl rfl (by decide) rfl ?_
    refine x_iload_n dX8_feed_48 rfl ?_
    refine x_bipush 8 dX8_feed_49 (by decide) ?_
    refine x_iload_n dX8_feed_51 rfl ?_
    refine x_imul dX8_feed_52 ?_
    refine x_rei 8 (by decide) ?_
    refine x_ishr dX8_feed_53 ?_
    refine x_i2b dX8_feed_54 ?_
    refine x_bast (ws' := [(aM, .inr (8, [.ref aS, .ref aK, .ref aL, .ref aC, .ref aW, .ref aR, .ref aT, .ref aH, .ref aF, .int (nI ts), .int kp])), (aT, .inl (g.2.1 1, 60, .inl (upd tp ts (vp_nar .byte ((bb >>> (8 &&& 31)).toInt8.toInt32)))))]) dX8_feed_55 1 ts rfl (rfl) (by omega) (by decide) rfl ?_
    refine x_aload_n dX8_feed_56 rfl ?_
    refine x_dup dX8_feed_57 rfl ?_
    refine x_get dX8_feed_58 0 9 inX8 fl_X8_145 rfl rfl (by decide) rfl ?_
    refine x_iconst 1 dX8_feed_61 (by decide) ?_
    refine x_iadd dX8_feed_62 ?_
    refine x_rei (nI (ts + 1)) (nI_addc ts 1 rfl) ?_
    refine x_put (ws' := [(aM, .inr (8, [.ref aS, .ref aK, .ref aL, .ref aC, .ref aW, .ref aR, .ref aT, .ref aH, .ref aF, .int (nI (ts + 1)), .int kp])), (aT, .inl (g.2.1 1, 60, .inl (upd tp ts (vp_nar .byte ((bb >>> (8 &&& 31)).toInt8.toInt32)))))]) dX8_feed_63 0 9 inX8 tyX8_ok nmX8 fl_X8_145 rfl rfl (by decide) rfl (rfl) rfl (xlt rfl) rfl ?_
    refine x_iinc (lv' := [some (.ref aM), some (.int bb), some (.int 2), some (.int 0)]) (0) dX8_feed_66 rfl (by decide) rfl ?_
    refine x_goto dX8_feed_69 ?_
    refine x_iload_n dX8_feed_36 rfl ?_
    refine x_if_lt dX8_feed_37 (fun c37 => ?_) (fun c37 => ?_)
    · exact absurd c37 (by decide)
    refine x_aload_n dX8_feed_40 rfl ?_
    refine x_get dX8_feed_41 0 6 inX8 fl_X8_56 rfl rfl (by decide) rfl ?_
    refine x_aload_n dX8_feed_44 rfl ?_
    refine x_get dX8_feed_45 0 9 inX8 fl_X8_145 rfl rfl (by decide) rfl ?_
    refine x_iload_n dX8_feed_48 rfl ?_
    refine x_bipush 8 dX8_feed_49 (by decide) ?_
    refine x_iload_n dX8_feed_51 rfl ?_
    refine x_imul dX8_feed_52 ?_
    refine x_rei 0 (by decide) ?_
    refine x_ishr dX8_feed_53 ?_
    refine x_i2b dX8_feed_54 ?_
    refine x_bast (ws' := [(aM, .inr (8, [.ref aS, .ref aK, .ref aL, .ref aC, .ref aW, .ref aR, .ref aT, .ref aH, .ref aF, .int (nI (ts + 1)), .int kp])), (aT, .inl (g.2.1 1, 60, .inl (upd (upd tp ts (vp_nar .byte ((bb >>> (8 &&& 31)).toInt8.toInt32))) (ts + 1) (vp_nar .byte ((bb >>> (0 &&& 31)).toInt8.toInt32)))))]) dX8_feed_55 1 (ts + 1) rfl (rfl) (by omega) (by decide) rfl ?_
    refine x_aload_n dX8_feed_56 rfl ?_
    refine x_dup dX8_feed_57 rfl ?_
    refine x_get dX8_feed_58 0 9 inX8 fl_X8_145 rfl rfl (by decide) rfl ?_
    refine x_iconst 1 dX8_feed_61 (by decide) ?_
    refine x_iadd dX8_feed_62 ?_
    refine x_rei (nI (ts + 1 + 1)) (nI_addc (ts + 1) 1 rfl) ?_
    refine x_put (ws' := [(aM, .inr (8, [.ref aS, .ref aK, .ref aL, .ref aC, .ref aW, .ref aR, .ref aT, .ref aH, .ref aF, .int (nI (ts + 1 + 1)), .int kp])), (aT, .inl (g.2.1 1, 60, .inl (upd (upd tp ts (vp_nar .byte ((bb >>> (8 &&& 31)).toInt8.toInt32))) (ts + 1) (vp_nar .byte ((bb >>> (0 &&& 31)).toInt8.toInt32)))))]) dX8_feed_63 0 9 inX8 tyX8_ok nmX8 fl_X8_145 rfl rfl (by decide) rfl (rfl) rfl (xlt rfl) rfl ?_
    refine x_iinc (lv' := [some (.ref aM), some (.int bb), some (.int 2), some (.int ((-1)))]) ((-1)) dX8_feed_66 rfl (by decide) rfl ?_
    refine x_goto dX8_feed_69 ?_
    refine x_iload_n dX8_feed_36 rfl ?_
    refine x_if_lt dX8_feed_37 (fun c37 => ?_) (fun c37 => ?_)
    rotate_left
    · exact absurd c37 (by decide)
    refine x_aload_n dX8_feed_72 rfl ?_
    refine x_get dX8_feed_73 0 9 inX8 fl_X8_145 rfl rfl (by decide) rfl ?_
    rw [← hQ]
    refine x_iret dX8_feed_76 rfl (Nat.le_of_ble_eq_true rfl) (Nat.le_of_ble_eq_true rfl) ?_
    exact ⟨rfl, rfl⟩
  · have c23 : ¬ ((nI (ts + 2)) ≤ 60) := c23
    have c23n := mt (nI_leI (a := (ts + 2)) (b := 60) (by omega) (by omega)).mpr c23
    exact absurd c23n (by omega)

-- == feed_3 ==
set_option maxRecDepth 100000 in
set_option maxHeartbeats 4000000 in
theorem ct_feed_3 (l : Launch) (g : XG) (aM aS aK aL aC aW aR aT aH aF : Nat) (ts : Nat) (kp : Int32) (tp : Nat → Int32) (bb : Int32) (hf : ts + 3 ≤ 60) : Ct l g 10 0 0 yX8_feed cX8_feed 4 (some .int) [.ref aM, .int bb, .int 3] [(aM, .inr (8, [.ref aS, .ref aK, .ref aL, .ref aC, .ref aW, .ref aR, .ref aT, .ref aH, .ref aF, .int (nI ts), .int kp])), (aT, .inl (g.2.1 1, 60, .inl tp))] (xpi (nI (ts + 1 + 1 + 1)) [(aM, .inr (8, [.ref aS, .ref aK, .ref aL, .ref aC, .ref aW, .ref aR, .ref aT, .ref aH, .ref aF, .int (nI (ts + 1 + 1 + 1)), .int kp])), (aT, .inl (g.2.1 1, 60, .inl (upd (upd (upd (tp) (ts) (vp_nar .byte (bb >>> (16 &&& 31)).toInt8.toInt32)) (ts + 1) (vp_nar .byte (bb >>> (8 &&& 31)).toInt8.toInt32)) (ts + 1 + 1) (vp_nar .byte (bb >>> (0 &&& 31)).toInt8.toInt32))))]) := by
  refine Ct.ofX (lv := [some (.ref aM), some (.int bb), some (.int 3), none]) (by decide) rfl (Nat.le_of_ble_eq_true rfl) (fun κ => ?_)
  generalize hQ : xQ κ g 0 0 _ = Q
  refine x_iload_n dX8_feed_0 rfl ?_
  refine x_iconst 1 dX8_feed_1 (by decide) ?_
  refine x_iconst 4 dX8_feed_2 (by decide) ?_
  refine x_cSi dX8_feed_3 ml_X8_89 mX8_within (ct_within_n κ.2.1 g 3 1 4 (⟨by omega, by omega, by omega, by omega⟩)) rfl (Nat.le_of_ble_eq_true rfl) (by decide) (Nat.le_refl _) (Nat.le_refl _) ?_
  refine x_if_ne dX8_feed_6 (fun c6 => ?_) (fun c6 => ?_)
  rotate_left
  · exact absurd c6 (by decide)
  refine x_aload_n dX8_feed_15 rfl ?_
  refine x_get dX8_feed_16 0 9 inX8 fl_X8_145 rfl rfl (by decide) rfl ?_
  refine x_iload_n dX8_feed_19 rfl ?_
  refine x_iadd dX8_feed_20 ?_
  refine x_rei (nI (ts + 3)) (nI_addc ts 3 rfl) ?_
  refine x_bipush 60 dX8_feed_21 (by decide) ?_
  refine x_icmp_le dX8_feed_23 (fun c23 => ?_) (fun c23 => ?_)
  · have c23 : (nI (ts + 3)) ≤ 60 := c23
    have c23n := (nI_leI (a := (ts + 3)) (b := 60) (by omega) (by omega)).mp c23
    refine x_iload_n dX8_feed_32 rfl ?_
    refine x_iconst 1 dX8_feed_33 (by decide) ?_
    refine x_isub dX8_feed_34 ?_
    refine x_rei 2 (by decide) ?_
    refine x_istore_n (lv' := [some (.ref aM), some (.int bb), some (.int 3), some (.int 2)]) dX8_feed_35 (xlt rfl) rfl ?_
    refine x_iload_n dX8_feed_36 rfl ?_
    refine x_if_lt dX8_feed_37 (fun c37 => ?_) (fun c37 => ?_)
    · exact absurd c37 (by decide)
    refine x_aload_n dX8_feed_40 rfl ?_
    refine x_get dX8_feed_41 0 6 inX8 fl_X8_56 rfl rfl (by decide) rfl ?_
    refine x_aload_n dX8_feed_44 rfl ?_
    refine x_get dX8_feed_45 0 9 inX8 fl_X8_145 rfl rfl (by decide) rfl ?_
    refine x_iload_n dX8_feed_48 rfl ?_
    refine x_bipush 8 dX8_feed_49 (by decide) ?_
    refine x_iload_n dX8_feed_51 rfl ?_
    refine x_imul dX8_feed_52 ?_
    refine x_rei 16 (by decide) ?_
    refine x_ishr dX8_feed_53 ?_
    refine x_i2b dX8_feed_54 ?_
    refine x_bast (ws' := [(aM, .inr (8, [.ref aS, .ref aK, .ref aL, .ref aC, .ref aW, .ref aR, .ref aT, .ref aH, .ref aF, .int (nI ts), .int kp])), (aT, .inl (g.2.1 1, 60, .inl (upd tp ts (vp_nar .byte ((bb >>> (16 &&& 31)).toInt8.toInt32)))))]) dX8_feed_55 1 ts rfl (rfl) (by omega) (by decide) rfl ?_
    refine x_aload_n dX8_feed_56 rfl ?_
    refine x_dup dX8_feed_57 rfl ?_
    refine x_get dX8_feed_58 0 9 inX8 fl_X8_145 rfl rfl (by decide) rfl ?_
    refine x_iconst 1 dX8_feed_61 (by decide) ?_
    refine x_iadd dX8_feed_62 ?_
    refine x_rei (nI (ts + 1)) (nI_addc ts 1 rfl) ?_
    refine x_put (ws' := [(aM, .inr (8, [.ref aS, .ref aK, .ref aL, .ref aC, .ref aW, .ref aR, .ref aT, .ref aH, .ref aF, .int (nI (ts + 1)), .int kp])), (aT, .inl (g.2.1 1, 60, .inl (upd tp ts (vp_nar .byte ((bb >>> (16 &&& 31)).toInt8.toInt32)))))]) dX8_feed_63 0 9 inX8 tyX8_ok nmX8 fl_X8_145 rfl rfl (by decide) rfl (rfl) rfl (xlt rfl) rfl ?_
    refine x_iinc (lv' := [some (.ref aM), some (.int bb), some (.int 3), some (.int 1)]) (1) dX8_feed_66 rfl (by decide) rfl ?_
    refine x_goto dX8_feed_69 ?_
    refine x_iload_n dX8_feed_36 rfl ?_
    refine x_if_lt dX8_feed_37 (fun c37 => ?_) (fun c37 => ?_)
    · exact absurd c37 (by decide)
    refine x_aload_n dX8_feed_40 rfl ?_
    refine x_get dX8_feed_41 0 6 inX8 fl_X8_56 rfl rfl (by decide) rfl ?_
    refine x_aload_n dX8_feed_44 rfl ?_
    refine x_get dX8_feed_45 0 9 inX8 fl_X8_145 rfl rfl (by decide) rfl ?_
    refine x_iload_n dX8_feed_48 rfl ?_
    refine x_bipush 8 dX8_feed_49 (by decide) ?_
    refine x_iload_n dX8_feed_51 rfl ?_
    refine x_imul dX8_feed_52 ?_
    refine x_rei 8 (by decide) ?_
    refine x_ishr dX8_feed_53 ?_
    refine x_i2b dX8_feed_54 ?_
    refine x_bast (ws' := [(aM, .inr (8, [.ref aS, .ref aK, .ref aL, .ref aC, .ref aW, .ref aR, .ref aT, .ref aH, .ref aF, .int (nI (ts + 1)), .int kp])), (aT, .inl (g.2.1 1, 60, .inl (upd (upd tp ts (vp_nar .byte ((bb >>> (16 &&& 31)).toInt8.toInt32))) (ts + 1) (vp_nar .byte ((bb >>> (8 &&& 31)).toInt8.toInt32)))))]) dX8_feed_55 1 (ts + 1) rfl (rfl) (by omega) (by decide) rfl ?_
    refine x_aload_n dX8_feed_56 rfl ?_
    refine x_dup dX8_feed_57 rfl ?_
    refine x_get dX8_feed_58 0 9 inX8 fl_X8_145 rfl rfl (by decide) rfl ?_
    refine x_iconst 1 dX8_feed_61 (by decide) ?_
    refine x_iadd dX8_feed_62 ?_
    refine x_rei (nI (ts + 1 + 1)) (nI_addc (ts + 1) 1 rfl) ?_
    refine x_put (ws' := [(aM, .inr (8, [.ref aS, .ref aK, .ref aL, .ref aC, .ref aW, .ref aR, .ref aT, .ref aH, .ref aF, .int (nI (ts + 1 + 1)), .int kp])), (aT, .inl (g.2.1 1, 60, .inl (upd (upd tp ts (vp_nar .byte ((bb >>> (16 &&& 31)).toInt8.toInt32))) (ts + 1) (vp_nar .byte ((bb >>> (8 &&& 31)).toInt8.toInt32)))))]) dX8_feed_63 0 9 inX8 tyX8_ok nmX8 fl_X8_145 rfl rfl (by decide) rfl (rfl) rfl (xlt rfl) rfl ?_
    refine x_iinc (lv' := [some (.ref aM), some (.int bb), some (.int 3), some (.int 0)]) (0) dX8_feed_66 rfl (by decide) rfl ?_
    refine x_goto dX8_feed_69 ?_
    refine x_iload_n dX8_feed_36 rfl ?_
    refine x_if_lt dX8_feed_37 (fun c37 => ?_) (fun c37 => ?_)
    · exact absurd c37 (by decide)
    refine x_aload_n dX8_feed_40 rfl ?_
    refine x_get dX8_feed_41 0 6 inX8 fl_X8_56 rfl rfl (by decide) rfl ?_
    refine x_aload_n dX8_feed_44 rfl ?_
    refine x_get dX8_feed_45 0 9 inX8 fl_X8_145 rfl rfl (by decide) rfl ?_
    refine x_iload_n dX8_feed_48 rfl ?_
    refine x_bipush 8 dX8_feed_49 (by decide) ?_
    refine x_iload_n dX8_feed_51 rfl ?_
    refine x_imul dX8_feed_52 ?_
    refine x_rei 0 (by decide) ?_
    refine x_ishr dX8_feed_53 ?_
    refine x_i2b dX8_feed_54 ?_
    refine x_bast (ws' := [(aM, .inr (8, [.ref aS, .ref aK, .ref aL, .ref aC, .ref aW, .ref aR, .ref aT, .ref aH, .ref aF, .int (nI (ts + 1 + 1)), .int kp])), (aT, .inl (g.2.1 1, 60, .inl (upd (upd (upd tp ts (vp_nar .byte ((bb >>> (16 &&& 31)).toInt8.toInt32))) (ts + 1) (vp_nar .byte ((bb >>> (8 &&& 31)).toInt8.toInt32))) (ts + 1 + 1) (vp_nar .byte ((bb >>> (0 &&& 31)).toInt8.toInt32)))))]) dX8_feed_55 1 (ts + 1 + 1) rfl (rfl) (by omega) (by decide) rfl ?_
    refine x_aload_n dX8_feed_56 rfl ?_
    refine x_dup dX8_feed_57 rfl ?_
    refine x_get dX8_feed_58 0 9 inX8 fl_X8_145 rfl rfl (by decide) rfl ?_
    refine x_iconst 1 dX8_feed_61 (by decide) ?_
    refine x_iadd dX8_feed_62 ?_
    refine x_rei (nI (ts + 1 + 1 + 1)) (nI_addc (ts + 1 + 1) 1 rfl) ?_
    refine x_put (ws' := [(aM, .inr (8, [.ref aS, .ref aK, .ref aL, .ref aC, .ref aW, .ref aR, .ref aT, .ref aH, .ref aF, .int (nI (ts + 1 + 1 + 1)), .int kp])), (aT, .inl (g.2.1 1, 60, .inl (upd (upd (upd tp ts (vp_nar .byte ((bb >>> (16 &&& 31)).toInt8.toInt32))) (ts + 1) (vp_nar .byte ((bb >>> (8 &&& 31)).toInt8.toInt32))) (ts + 1 + 1) (vp_nar .byte ((bb >>> (0 &&& 31)).toInt8.toInt32)))))]) dX8_feed_63 0 9 inX8 tyX8_ok nmX8 fl_X8_145 rfl rfl (by decide) rfl (rfl) rfl (xlt rfl) rfl ?_
    refine x_iinc (lv' := [some (.ref aM), some (.int bb), some (.int 3), some (.int ((-1)))]) ((-1)) dX8_feed_66 rfl (by decide) rfl ?_
    refine x_goto dX8_feed_69 ?_
    refine x_iload_n dX8_feed_36 rfl ?_
    refine x_if_lt dX8_feed_37 (fun c37 => ?_) (fun c37 => ?_)
    rotate_left
    · exact absurd c37 (by decide)
    refine x_aload_n dX8_feed_72 rfl ?_
    refine x_get dX8_feed_73 0 9 inX8 fl_X8_145 rfl rfl (by decide) rfl ?_
    rw [← hQ]
    refine x_iret dX8_feed_76 rfl (Nat.le_of_ble_eq_true rfl) (Nat.le_of_ble_eq_true rfl) ?_
    exact ⟨rfl, rfl⟩
  · have c23 : ¬ ((nI (ts + 3)) ≤ 60) := c23
    have c23n := mt (nI_leI (a := (ts + 3)) (b := 60) (by omega) (by omega)).mpr c23
    exact absurd c23n (by omega)

-- == feed_4 ==
set_option maxRecDepth 100000 in
set_option maxHeartbeats 4000000 in
theorem ct_feed_4 (l : Launch) (g : XG) (aM aS aK aL aC aW aR aT aH aF : Nat) (ts : Nat) (kp : Int32) (tp : Nat → Int32) (bb : Int32) (hf : ts + 4 ≤ 60) : Ct l g 10 0 0 yX8_feed cX8_feed 4 (some .int) [.ref aM, .int bb, .int 4] [(aM, .inr (8, [.ref aS, .ref aK, .ref aL, .ref aC, .ref aW, .ref aR, .ref aT, .ref aH, .ref aF, .int (nI ts), .int kp])), (aT, .inl (g.2.1 1, 60, .inl tp))] (xpi (nI (ts + 1 + 1 + 1 + 1)) [(aM, .inr (8, [.ref aS, .ref aK, .ref aL, .ref aC, .ref aW, .ref aR, .ref aT, .ref aH, .ref aF, .int (nI (ts + 1 + 1 + 1 + 1)), .int kp])), (aT, .inl (g.2.1 1, 60, .inl (upd (upd (upd (upd (tp) (ts) (vp_nar .byte (bb >>> (24 &&& 31)).toInt8.toInt32)) (ts + 1) (vp_nar .byte (bb >>> (16 &&& 31)).toInt8.toInt32)) (ts + 1 + 1) (vp_nar .byte (bb >>> (8 &&& 31)).toInt8.toInt32)) (ts + 1 + 1 + 1) (vp_nar .byte (bb >>> (0 &&& 31)).toInt8.toInt32))))]) := by
  refine Ct.ofX (lv := [some (.ref aM), some (.int bb), some (.int 4), none]) (by decide) rfl (Nat.le_of_ble_eq_true rfl) (fun κ => ?_)
  generalize hQ : xQ κ g 0 0 _ = Q
  refine x_iload_n dX8_feed_0 rfl ?_
  refine x_iconst 1 dX8_feed_1 (by decide) ?_
  refine x_iconst 4 dX8_feed_2 (by decide) ?_
  refine x_cSi dX8_feed_3 ml_X8_89 mX8_within (ct_within_n κ.2.1 g 4 1 4 (⟨by omega, by omega, by omega, by omega⟩)) rfl (Nat.le_of_ble_eq_true rfl) (by decide) (Nat.le_refl _) (Nat.le_refl _) ?_
  refine x_if_ne dX8_feed_6 (fun c6 => ?_) (fun c6 => ?_)
  rotate_left
  · exact absurd c6 (by decide)
  refine x_aload_n dX8_feed_15 rfl ?_
  refine x_get dX8_feed_16 0 9 inX8 fl_X8_145 rfl rfl (by decide) rfl ?_
  refine x_iload_n dX8_feed_19 rfl ?_
  refine x_iadd dX8_feed_20 ?_
  refine x_rei (nI (ts + 4)) (nI_addc ts 4 rfl) ?_
  refine x_bipush 60 dX8_feed_21 (by decide) ?_
  refine x_icmp_le dX8_feed_23 (fun c23 => ?_) (fun c23 => ?_)
  · have c23 : (nI (ts + 4)) ≤ 60 := c23
    have c23n := (nI_leI (a := (ts + 4)) (b := 60) (by omega) (by omega)).mp c23
    refine x_iload_n dX8_feed_32 rfl ?_
    refine x_iconst 1 dX8_feed_33 (by decide) ?_
    refine x_isub dX8_feed_34 ?_
    refine x_rei 3 (by decide) ?_
    refine x_istore_n (lv' := [some (.ref aM), some (.int bb), some (.int 4), some (.int 3)]) dX8_feed_35 (xlt rfl) rfl ?_
    refine x_iload_n dX8_feed_36 rfl ?_
    refine x_if_lt dX8_feed_37 (fun c37 => ?_) (fun c37 => ?_)
    · exact absurd c37 (by decide)
    refine x_aload_n dX8_feed_40 rfl ?_
    refine x_get dX8_feed_41 0 6 inX8 fl_X8_56 rfl rfl (by decide) rfl ?_
    refine x_aload_n dX8_feed_44 rfl ?_
    refine x_get dX8_feed_45 0 9 inX8 fl_X8_145 rfl rfl (by decide) rfl ?_
    refine x_iload_n dX8_feed_48 rfl ?_
    refine x_bipush 8 dX8_feed_49 (by decide) ?_
    refine x_iload_n dX8_feed_51 rfl ?_
    refine x_imul dX8_feed_52 ?_
    refine x_rei 24 (by decide) ?_
    refine x_ishr dX8_feed_53 ?_
    refine x_i2b dX8_feed_54 ?_
    refine x_bast (ws' := [(aM, .inr (8, [.ref aS, .ref aK, .ref aL, .ref aC, .ref aW, .ref aR, .ref aT, .ref aH, .ref aF, .int (nI ts), .int kp])), (aT, .inl (g.2.1 1, 60, .inl (upd tp ts (vp_nar .byte ((bb >>> (24 &&& 31)).toInt8.toInt32)))))]) dX8_feed_55 1 ts rfl (rfl) (by omega) (by decide) rfl ?_
    refine x_aload_n dX8_feed_56 rfl ?_
    refine x_dup dX8_feed_57 rfl ?_
    refine x_get dX8_feed_58 0 9 inX8 fl_X8_145 rfl rfl (by decide) rfl ?_
    refine x_iconst 1 dX8_feed_61 (by decide) ?_
    refine x_iadd dX8_feed_62 ?_
    refine x_rei (nI (ts + 1)) (nI_addc ts 1 rfl) ?_
    refine x_put (ws' := [(aM, .inr (8, [.ref aS, .ref aK, .ref aL, .ref aC, .ref aW, .ref aR, .ref aT, .ref aH, .ref aF, .int (nI (ts + 1)), .int kp])), (aT, .inl (g.2.1 1, 60, .inl (upd tp ts (vp_nar .byte ((bb >>> (24 &&& 31)).toInt8.toInt32)))))]) dX8_feed_63 0 9 inX8 tyX8_ok nmX8 fl_X8_145 rfl rfl (by decide) rfl (rfl) rfl (xlt rfl) rfl ?_
    refine x_iinc (lv' := [some (.ref aM), some (.int bb), some (.int 4), some (.int 2)]) (2) dX8_feed_66 rfl (by decide) rfl ?_
    refine x_goto dX8_feed_69 ?_
    refine x_iload_n dX8_feed_36 rfl ?_
    refine x_if_lt dX8_feed_37 (fun c37 => ?_) (fun c37 => ?_)
    · exact absurd c37 (by decide)
    refine x_aload_n dX8_feed_40 rfl ?_
    refine x_get dX8_feed_41 0 6 inX8 fl_X8_56 rfl rfl (by decide) rfl ?_
    refine x_aload_n dX8_feed_44 rfl ?_
    refine x_get dX8_feed_45 0 9 inX8 fl_X8_145 rfl rfl (by decide) rfl ?_
    refine x_iload_n dX8_feed_48 rfl ?_
    refine x_bipush 8 dX8_feed_49 (by decide) ?_
    refine x_iload_n dX8_feed_51 rfl ?_
    refine x_imul dX8_feed_52 ?_
    refine x_rei 16 (by decide) ?_
    refine x_ishr dX8_feed_53 ?_
    refine x_i2b dX8_feed_54 ?_
    refine x_bast (ws' := [(aM, .inr (8, [.ref aS, .ref aK, .ref aL, .ref aC, .ref aW, .ref aR, .ref aT, .ref aH, .ref aF, .int (nI (ts + 1)), .int kp])), (aT, .inl (g.2.1 1, 60, .inl (upd (upd tp ts (vp_nar .byte ((bb >>> (24 &&& 31)).toInt8.toInt32))) (ts + 1) (vp_nar .byte ((bb >>> (16 &&& 31)).toInt8.toInt32)))))]) dX8_feed_55 1 (ts + 1) rfl (rfl) (by omega) (by decide) rfl ?_
    refine x_aload_n dX8_feed_56 rfl ?_
    refine x_dup dX8_feed_57 rfl ?_
    refine x_get dX8_feed_58 0 9 inX8 fl_X8_145 rfl rfl (by decide) rfl ?_
    refine x_iconst 1 dX8_feed_61 (by decide) ?_
    refine x_iadd dX8_feed_62 ?_
    refine x_rei (nI (ts + 1 + 1)) (nI_addc (ts + 1) 1 rfl) ?_
    refine x_put (ws' := [(aM, .inr (8, [.ref aS, .ref aK, .ref aL, .ref aC, .ref aW, .ref aR, .ref aT, .ref aH, .ref aF, .int (nI (ts + 1 + 1)), .int kp])), (aT, .inl (g.2.1 1, 60, .inl (upd (upd tp ts (vp_nar .byte ((bb >>> (24 &&& 31)).toInt8.toInt32))) (ts + 1) (vp_nar .byte ((bb >>> (16 &&& 31)).toInt8.toInt32)))))]) dX8_feed_63 0 9 inX8 tyX8_ok nmX8 fl_X8_145 rfl rfl (by decide) rfl (rfl) rfl (xlt rfl) rfl ?_
    refine x_iinc (lv' := [some (.ref aM), some (.int bb), some (.int 4), some (.int 1)]) (1) dX8_feed_66 rfl (by decide) rfl ?_
    refine x_goto dX8_feed_69 ?_
    refine x_iload_n dX8_feed_36 rfl ?_
    refine x_if_lt dX8_feed_37 (fun c37 => ?_) (fun c37 => ?_)
    · exact absurd c37 (by decide)
    refine x_aload_n dX8_feed_40 rfl ?_
    refine x_get dX8_feed_41 0 6 inX8 fl_X8_56 rfl rfl (by decide) rfl ?_
    refine x_aload_n dX8_feed_44 rfl ?_
    refine x_get dX8_feed_45 0 9 inX8 fl_X8_145 rfl rfl (by decide) rfl ?_
    refine x_iload_n dX8_feed_48 rfl ?_
    refine x_bipush 8 dX8_feed_49 (by decide) ?_
    refine x_iload_n dX8_feed_51 rfl ?_
    refine x_imul dX8_feed_52 ?_
    refine x_rei 8 (by decide) ?_
    refine x_ishr dX8_feed_53 ?_
    refine x_i2b dX8_feed_54 ?_
    refine x_bast (ws' := [(aM, .inr (8, [.ref aS, .ref aK, .ref aL, .ref aC, .ref aW, .ref aR, .ref aT, .ref aH, .ref aF, .int (nI (ts + 1 + 1)), .int kp])), (aT, .inl (g.2.1 1, 60, .inl (upd (upd (upd tp ts (vp_nar .byte ((bb >>> (24 &&& 31)).toInt8.toInt32))) (ts + 1) (vp_nar .byte ((bb >>> (16 &&& 31)).toInt8.toInt32))) (ts + 1 + 1) (vp_nar .byte ((bb >>> (8 &&& 31)).toInt8.toInt32)))))]) dX8_feed_55 1 (ts + 1 + 1) rfl (rfl) (by omega) (by decide) rfl ?_
    refine x_aload_n dX8_feed_56 rfl ?_
    refine x_dup dX8_feed_57 rfl ?_
    refine x_get dX8_feed_58 0 9 inX8 fl_X8_145 rfl rfl (by decide) rfl ?_
    refine x_iconst 1 dX8_feed_61 (by decide) ?_
    refine x_iadd dX8_feed_62 ?_
    refine x_rei (nI (ts + 1 + 1 + 1)) (nI_addc (ts + 1 + 1) 1 rfl) ?_
    refine x_put (ws' := [(aM, .inr (8, [.ref aS, .ref aK, .ref aL, .ref aC, .ref aW, .ref aR, .ref aT, .ref aH, .ref aF, .int (nI (ts + 1 + 1 + 1)), .int kp])), (aT, .inl (g.2.1 1, 60, .inl (upd (upd (upd tp ts (vp_nar .byte ((bb >>> (24 &&& 31)).toInt8.toInt32))) (ts + 1) (vp_nar .byte ((bb >>> (16 &&& 31)).toInt8.toInt32))) (ts + 1 + 1) (vp_nar .byte ((bb >>> (8 &&& 31)).toInt8.toInt32)))))]) dX8_feed_63 0 9 inX8 tyX8_ok nmX8 fl_X8_145 rfl rfl (by decide) rfl (rfl) rfl (xlt rfl) rfl ?_
    refine x_iinc (lv' := [some (.ref aM), some (.int bb), some (.int 4), some (.int 0)]) (0) dX8_feed_66 rfl (by decide) rfl ?_
    refine x_goto dX8_feed_69 ?_
    refine x_iload_n dX8_feed_36 rfl ?_
    refine x_if_lt dX8_feed_37 (fun c37 => ?_) (fun c37 => ?_)
    · exact absurd c37 (by decide)
    refine x_aload_n dX8_feed_40 rfl ?_
    refine x_get dX8_feed_41 0 6 inX8 fl_X8_56 rfl rfl (by decide) rfl ?_
    refine x_aload_n dX8_feed_44 rfl ?_
    refine x_get dX8_feed_45 0 9 inX8 fl_X8_145 rfl rfl (by decide) rfl ?_
    refine x_iload_n dX8_feed_48 rfl ?_
    refine x_bipush 8 dX8_feed_49 (by decide) ?_
    refine x_iload_n dX8_feed_51 rfl ?_
    refine x_imul dX8_feed_52 ?_
    refine x_rei 0 (by decide) ?_
    refine x_ishr dX8_feed_53 ?_
    refine x_i2b dX8_feed_54 ?_
    refine x_bast (ws' := [(aM, .inr (8, [.ref aS, .ref aK, .ref aL, .ref aC, .ref aW, .ref aR, .ref aT, .ref aH, .ref aF, .int (nI (ts + 1 + 1 + 1)), .int kp])), (aT, .inl (g.2.1 1, 60, .inl (upd (upd (upd (upd tp ts (vp_nar .byte ((bb >>> (24 &&& 31)).toInt8.toInt32))) (ts + 1) (vp_nar .byte ((bb >>> (16 &&& 31)).toInt8.toInt32))) (ts + 1 + 1) (vp_nar .byte ((bb >>> (8 &&& 31)).toInt8.toInt32))) (ts + 1 + 1 + 1) (vp_nar .byte ((bb >>> (0 &&& 31)).toInt8.toInt32)))))]) dX8_feed_55 1 (ts + 1 + 1 + 1) rfl (rfl) (by omega) (by decide) rfl ?_
    refine x_aload_n dX8_feed_56 rfl ?_
    refine x_dup dX8_feed_57 rfl ?_
    refine x_get dX8_feed_58 0 9 inX8 fl_X8_145 rfl rfl (by decide) rfl ?_
    refine x_iconst 1 dX8_feed_61 (by decide) ?_
    refine x_iadd dX8_feed_62 ?_
    refine x_rei (nI (ts + 1 + 1 + 1 + 1)) (nI_addc (ts + 1 + 1 + 1) 1 rfl) ?_
    refine x_put (ws' := [(aM, .inr (8, [.ref aS, .ref aK, .ref aL, .ref aC, .ref aW, .ref aR, .ref aT, .ref aH, .ref aF, .int (nI (ts + 1 + 1 + 1 + 1)), .int kp])), (aT, .inl (g.2.1 1, 60, .inl (upd (upd (upd (upd tp ts (vp_nar .byte ((bb >>> (24 &&& 31)).toInt8.toInt32))) (ts + 1) (vp_nar .byte ((bb >>> (16 &&& 31)).toInt8.toInt32))) (ts + 1 + 1) (vp_nar .byte ((bb >>> (8 &&& 31)).toInt8.toInt32))) (ts + 1 + 1 + 1) (vp_nar .byte ((bb >>> (0 &&& 31)).toInt8.toInt32)))))]) dX8_feed_63 0 9 inX8 tyX8_ok nmX8 fl_X8_145 rfl rfl (by decide) rfl (rfl) rfl (xlt rfl) rfl ?_
    refine x_iinc (lv' := [some (.ref aM), some (.int bb), some (.int 4), some (.int ((-1)))]) ((-1)) dX8_feed_66 rfl (by decide) rfl ?_
    refine x_goto dX8_feed_69 ?_
    refine x_iload_n dX8_feed_36 rfl ?_
    refine x_if_lt dX8_feed_37 (fun c37 => ?_) (fun c37 => ?_)
    rotate_left
    · exact absurd c37 (by decide)
    refine x_aload_n dX8_feed_72 rfl ?_
    refine x_get dX8_feed_73 0 9 inX8 fl_X8_145 rfl rfl (by decide) rfl ?_
    rw [← hQ]
    refine x_iret dX8_feed_76 rfl (Nat.le_of_ble_eq_true rfl) (Nat.le_of_ble_eq_true rfl) ?_
    exact ⟨rfl, rfl⟩
  · have c23 : ¬ ((nI (ts + 4)) ≤ 60) := c23
    have c23n := mt (nI_leI (a := (ts + 4)) (b := 60) (by omega) (by omega)).mpr c23
    exact absurd c23n (by omega)

-- == count_b ==
theorem dX8_count_0 : xd cX8_count 0 (.iload_n 1) 1 1 := ⟨by decide +kernel, rfl⟩
theorem dX8_count_1 : decode cX8_count 1 = .ok (.tableswitch 126 0 7 #[47, 55, 63, 78, 86, 102, 107, 115], 47) := by decide +kernel
theorem dX8_count_48 : xd cX8_count 48 (.aload_n 0) 1 49 := ⟨by decide +kernel, rfl⟩
theorem dX8_count_49 : xd cX8_count 49 (.getfield 10) 3 52 := ⟨by decide +kernel, rfl⟩
theorem dX8_count_52 : xd cX8_count 52 (.getfield 94) 3 55 := ⟨by decide +kernel, rfl⟩
theorem dX8_count_55 : xd cX8_count 55 .ireturn 1 56 := ⟨by decide +kernel, rfl⟩
theorem dX8_count_56 : xd cX8_count 56 (.aload_n 0) 1 57 := ⟨by decide +kernel, rfl⟩
theorem dX8_count_57 : xd cX8_count 57 (.getfield 10) 3 60 := ⟨by decide +kernel, rfl⟩
theorem dX8_count_60 : xd cX8_count 60 (.getfield 189) 3 63 := ⟨by decide +kernel, rfl⟩
theorem dX8_count_63 : xd cX8_count 63 .ireturn 1 64 := ⟨by decide +kernel, rfl⟩
theorem dX8_count_64 : xd cX8_count 64 (.aload_n 0) 1 65 := ⟨by decide +kernel, rfl⟩
theorem dX8_count_65 : xd cX8_count 65 (.getfield 36) 3 68 := ⟨by decide +kernel, rfl⟩
theorem dX8_count_68 : xd cX8_count 68 (.invokevirtual 114) 3 71 := ⟨by decide +kernel, rfl⟩
theorem dX8_count_71 : xd cX8_count 71 (.aload_n 0) 1 72 := ⟨by decide +kernel, rfl⟩
theorem dX8_count_72 : xd cX8_count 72 (.getfield 36) 3 75 := ⟨by decide +kernel, rfl⟩
theorem dX8_count_75 : xd cX8_count 75 (.getfield 195) 3 78 := ⟨by decide +kernel, rfl⟩
theorem dX8_count_78 : xd cX8_count 78 .ireturn 1 79 := ⟨by decide +kernel, rfl⟩
theorem dX8_count_79 : xd cX8_count 79 (.aload_n 0) 1 80 := ⟨by decide +kernel, rfl⟩
theorem dX8_count_80 : xd cX8_count 80 (.getfield 10) 3 83 := ⟨by decide +kernel, rfl⟩
theorem dX8_count_83 : xd cX8_count 83 (.getfield 130) 3 86 := ⟨by decide +kernel, rfl⟩
theorem dX8_count_86 : xd cX8_count 86 .ireturn 1 87 := ⟨by decide +kernel, rfl⟩
theorem dX8_count_87 : xd cX8_count 87 (.aload_n 0) 1 88 := ⟨by decide +kernel, rfl⟩
theorem dX8_count_88 : xd cX8_count 88 (.getfield 10) 3 91 := ⟨by decide +kernel, rfl⟩
theorem dX8_count_91 : xd cX8_count 91 (.invokevirtual 162) 3 94 := ⟨by decide +kernel, rfl⟩
theorem dX8_count_94 : xj cX8_count 94 (.ifCond .eq) 97 101 := ⟨7, by decide +kernel, rfl, by decide⟩
theorem dX8_count_97 : xd cX8_count 97 (.iconst 1) 1 98 := ⟨by decide +kernel, rfl⟩
theorem dX8_count_98 : xj cX8_count 98 .goto 101 102 := ⟨4, by decide +kernel, rfl, by decide⟩
theorem dX8_count_101 : xd cX8_count 101 (.iconst 0) 1 102 := ⟨by decide +kernel, rfl⟩
theorem dX8_count_102 : xd cX8_count 102 .ireturn 1 103 := ⟨by decide +kernel, rfl⟩
theorem dX8_count_103 : xd cX8_count 103 (.aload_n 0) 1 104 := ⟨by decide +kernel, rfl⟩
theorem dX8_count_104 : xd cX8_count 104 (.getfield 145) 3 107 := ⟨by decide +kernel, rfl⟩
theorem dX8_count_107 : xd cX8_count 107 .ireturn 1 108 := ⟨by decide +kernel, rfl⟩
theorem dX8_count_108 : xd cX8_count 108 (.aload_n 0) 1 109 := ⟨by decide +kernel, rfl⟩
theorem dX8_count_109 : xd cX8_count 109 (.getfield 10) 3 112 := ⟨by decide +kernel, rfl⟩
theorem dX8_count_112 : xd cX8_count 112 (.getfield 175) 3 115 := ⟨by decide +kernel, rfl⟩
theorem dX8_count_115 : xd cX8_count 115 .ireturn 1 116 := ⟨by decide +kernel, rfl⟩
theorem dX8_count_116 : xd cX8_count 116 (.aload_n 0) 1 117 := ⟨by decide +kernel, rfl⟩
theorem dX8_count_117 : xd cX8_count 117 (.getfield 10) 3 120 := ⟨by decide +kernel, rfl⟩
theorem dX8_count_120 : xd cX8_count 120 (.getfield 172) 3 123 := ⟨by decide +kernel, rfl⟩
theorem dX8_count_123 : xd cX8_count 123 (.bipush 7) 2 125 := ⟨by decide +kernel, rfl⟩
theorem dX8_count_125 : xd cX8_count 125 .iaload 1 126 := ⟨by decide +kernel, rfl⟩
theorem dX8_count_126 : xd cX8_count 126 .ireturn 1 127 := ⟨by decide +kernel, rfl⟩
theorem dX8_count_127 : xd cX8_count 127 (.aload_n 0) 1 128 := ⟨by decide +kernel, rfl⟩
theorem dX8_count_128 : xd cX8_count 128 (.iconst 0) 1 129 := ⟨by decide +kernel, rfl⟩
theorem dX8_count_129 : xd cX8_count 129 (.invokevirtual 79) 3 132 := ⟨by decide +kernel, rfl⟩
theorem dX8_count_132 : xd cX8_count 132 .ireturn 1 133 := ⟨by decide +kernel, rfl⟩

set_option maxRecDepth 100000 in
set_option maxHeartbeats 4000000 in
theorem ct_count_b (l : Launch) (g : XG) (aM aS aK aL aC aW aR aT aH aF : Nat) (ts : Nat) (kp : Int32) (aSk aSm aSp aSt aSc aSr aSe gr br cs wk : Nat) (z : Int32) (fi : Nat → Nat) (wh : Int32) (hb : wI wh 0 7 = 0) : Ct l g 10 0 0 yX8_count cX8_count 2 (some .int) [.ref aM, .int wh] [(aM, .inr (8, [.ref aS, .ref aK, .ref aL, .ref aC, .ref aW, .ref aR, .ref aT, .ref aH, .ref aF, .int (nI ts), .int kp])), (aF, .inl (g.2.1 0, 7, .inl (nIf fi))), (aS, .inr (6, [.ref aSk, .ref aSm, .ref aSp, .ref aSt, .ref aSc, .ref aSr, .ref aSe, .int (nI gr), .int (nI br), .int (nI cs), .int (nI wk), .int z]))] (xpi (fndI 0) [(aM, .inr (8, [.ref aS, .ref aK, .ref aL, .ref aC, .ref aW, .ref aR, .ref aT, .ref aH, .ref aF, .int (nI ts), .int kp])), (aF, .inl (g.2.1 0, 7, .inl (nIf (updN fi 0 (fi 0 + 1))))), (aS, .inr (6, [.ref aSk, .ref aSm, .ref aSp, .ref aSt, .ref aSc, .ref aSr, .ref aSe, .int (nI gr), .int (nI br), .int (nI cs), .int (nI wk), .int z]))]) := by
  refine Ct.ofX (lv := [some (.ref aM), some (.int wh)]) (by decide) rfl (Nat.le_of_ble_eq_true rfl) (fun κ => ?_)
  generalize hQ : xQ κ g 0 0 _ = Q
  refine x_iload_n dX8_count_0 rfl ?_
  by_cases c1_0 : wh = 0
  · exact absurd hb (by rw [c1_0]; decide)
  by_cases c1_1 : wh = 1
  · exact absurd hb (by rw [c1_1]; decide)
  by_cases c1_2 : wh = 2
  · exact absurd hb (by rw [c1_2]; decide)
  by_cases c1_3 : wh = 3
  · exact absurd hb (by rw [c1_3]; decide)
  by_cases c1_4 : wh = 4
  · exact absurd hb (by rw [c1_4]; decide)
  by_cases c1_5 : wh = 5
  · exact absurd hb (by rw [c1_5]; decide)
  by_cases c1_6 : wh = 6
  · exact absurd hb (by rw [c1_6]; decide)
  by_cases c1_7 : wh = 7
  · exact absurd hb (by rw [c1_7]; decide)
  refine x_tabD 127 dX8_count_1 (by decide) (fun t ht => match t, ht with | 0, _ => Or.inr (xtne c1_0 (by decide)) | 1, _ => Or.inr (xtne c1_1 (by decide)) | 2, _ => Or.inr (xtne c1_2 (by decide)) | 3, _ => Or.inr (xtne c1_3 (by decide)) | 4, _ => Or.inr (xtne c1_4 (by decide)) | 5, _ => Or.inr (xtne c1_5 (by decide)) | 6, _ => Or.inr (xtne c1_6 (by decide)) | 7, _ => Or.inr (xtne c1_7 (by decide)) | t + 8, ht => absurd ht (by simp)) (by decide) ?_
  refine x_aload_n dX8_count_127 rfl ?_
  refine x_iconst 0 dX8_count_128 (by decide) ?_
  refine x_cVi (ws' := [(aM, .inr (8, [.ref aS, .ref aK, .ref aL, .ref aC, .ref aW, .ref aR, .ref aT, .ref aH, .ref aF, .int (nI ts), .int kp])), (aF, .inl (g.2.1 0, 7, .inl (nIf (updN fi 0 (fi 0 + 1))))), (aS, .inr (6, [.ref aSk, .ref aSm, .ref aSp, .ref aSt, .ref aSc, .ref aSr, .ref aSe, .int (nI gr), .int (nI br), .int (nI cs), .int (nI wk), .int z]))]) dX8_count_129 ml_X8_79 mX8_tell (ct_X8_tell κ.2.1 g aM aS aK aL aC aW aR aT aH aF ts kp fi 0 (by decide)) [0, 1] rfl rfl 0 rfl rfl rfl (Nat.le_of_ble_eq_true rfl) (by decide) (Nat.le_refl _) (Nat.le_refl _) (rfl : [aM, aF] = [aM, aF]) rfl ?_
  rw [← hQ]
  refine x_iret dX8_count_132 rfl (Nat.le_of_ble_eq_true rfl) (Nat.le_of_ble_eq_true rfl) ?_
  exact ⟨rfl, rfl⟩

-- == count_0 ==
set_option maxRecDepth 100000 in
set_option maxHeartbeats 4000000 in
theorem ct_count_0 (l : Launch) (g : XG) (aM aS aK aL aC aW aR aT aH aF : Nat) (ts : Nat) (kp : Int32) (aSk aSm aSp aSt aSc aSr aSe gr br cs wk : Nat) (z : Int32) : Ct l g 10 0 0 yX8_count cX8_count 2 (some .int) [.ref aM, .int 0] [(aM, .inr (8, [.ref aS, .ref aK, .ref aL, .ref aC, .ref aW, .ref aR, .ref aT, .ref aH, .ref aF, .int (nI ts), .int kp])), (aS, .inr (6, [.ref aSk, .ref aSm, .ref aSp, .ref aSt, .ref aSc, .ref aSr, .ref aSe, .int (nI gr), .int (nI br), .int (nI cs), .int (nI wk), .int z]))] (xpi (nI (gr)) [(aM, .inr (8, [.ref aS, .ref aK, .ref aL, .ref aC, .ref aW, .ref aR, .ref aT, .ref aH, .ref aF, .int (nI ts), .int kp])), (aS, .inr (6, [.ref aSk, .ref aSm, .ref aSp, .ref aSt, .ref aSc, .ref aSr, .ref aSe, .int (nI gr), .int (nI br), .int (nI cs), .int (nI wk), .int z]))]) := by
  refine Ct.ofX (lv := [some (.ref aM), some (.int 0)]) (by decide) rfl (Nat.le_of_ble_eq_true rfl) (fun κ => ?_)
  generalize hQ : xQ κ g 0 0 _ = Q
  refine x_iload_n dX8_count_0 rfl ?_
  refine x_tabIn (off := 47) 48 dX8_count_1 (by decide) (by decide) rfl (by decide) ?_
  refine x_aload_n dX8_count_48 rfl ?_
  refine x_get dX8_count_49 0 0 inX8 fl_X8_10 rfl rfl (by decide) rfl ?_
  refine x_get dX8_count_52 1 7 inX6 fl_X8_94 rfl rfl (by decide) rfl ?_
  rw [← hQ]
  refine x_iret dX8_count_55 rfl (Nat.le_of_ble_eq_true rfl) (Nat.le_of_ble_eq_true rfl) ?_
  exact ⟨rfl, rfl⟩

-- == count_1 ==
set_option maxRecDepth 100000 in
set_option maxHeartbeats 4000000 in
theorem ct_count_1 (l : Launch) (g : XG) (aM aS aK aL aC aW aR aT aH aF : Nat) (ts : Nat) (kp : Int32) (aSk aSm aSp aSt aSc aSr aSe gr br cs wk : Nat) (z : Int32) : Ct l g 10 0 0 yX8_count cX8_count 2 (some .int) [.ref aM, .int 1] [(aM, .inr (8, [.ref aS, .ref aK, .ref aL, .ref aC, .ref aW, .ref aR, .ref aT, .ref aH, .ref aF, .int (nI ts), .int kp])), (aS, .inr (6, [.ref aSk, .ref aSm, .ref aSp, .ref aSt, .ref aSc, .ref aSr, .ref aSe, .int (nI gr), .int (nI br), .int (nI cs), .int (nI wk), .int z]))] (xpi (nI (wk)) [(aM, .inr (8, [.ref aS, .ref aK, .ref aL, .ref aC, .ref aW, .ref aR, .ref aT, .ref aH, .ref aF, .int (nI ts), .int kp])), (aS, .inr (6, [.ref aSk, .ref aSm, .ref aSp, .ref aSt, .ref aSc, .ref aSr, .ref aSe, .int (nI gr), .int (nI br), .int (nI cs), .int (nI wk), .int z]))]) := by
  refine Ct.ofX (lv := [some (.ref aM), some (.int 1)]) (by decide) rfl (Nat.le_of_ble_eq_true rfl) (fun κ => ?_)
  generalize hQ : xQ κ g 0 0 _ = Q
  refine x_iload_n dX8_count_0 rfl ?_
  refine x_tabIn (off := 55) 56 dX8_count_1 (by decide) (by decide) rfl (by decide) ?_
  refine x_aload_n dX8_count_56 rfl ?_
  refine x_get dX8_count_57 0 0 inX8 fl_X8_10 rfl rfl (by decide) rfl ?_
  refine x_get dX8_count_60 1 10 inX6 fl_X8_189 rfl rfl (by decide) rfl ?_
  rw [← hQ]
  refine x_iret dX8_count_63 rfl (Nat.le_of_ble_eq_true rfl) (Nat.le_of_ble_eq_true rfl) ?_
  exact ⟨rfl, rfl⟩

-- == count_3 ==
set_option maxRecDepth 100000 in
set_option maxHeartbeats 4000000 in
theorem ct_count_3 (l : Launch) (g : XG) (aM aS aK aL aC aW aR aT aH aF : Nat) (ts : Nat) (kp : Int32) (aSk aSm aSp aSt aSc aSr aSe gr br cs wk : Nat) (z : Int32) : Ct l g 10 0 0 yX8_count cX8_count 2 (some .int) [.ref aM, .int 3] [(aM, .inr (8, [.ref aS, .ref aK, .ref aL, .ref aC, .ref aW, .ref aR, .ref aT, .ref aH, .ref aF, .int (nI ts), .int kp])), (aS, .inr (6, [.ref aSk, .ref aSm, .ref aSp, .ref aSt, .ref aSc, .ref aSr, .ref aSe, .int (nI gr), .int (nI br), .int (nI cs), .int (nI wk), .int z]))] (xpi (nI (br)) [(aM, .inr (8, [.ref aS, .ref aK, .ref aL, .ref aC, .ref aW, .ref aR, .ref aT, .ref aH, .ref aF, .int (nI ts), .int kp])), (aS, .inr (6, [.ref aSk, .ref aSm, .ref aSp, .ref aSt, .ref aSc, .ref aSr, .ref aSe, .int (nI gr), .int (nI br), .int (nI cs), .int (nI wk), .int z]))]) := by
  refine Ct.ofX (lv := [some (.ref aM), some (.int 3)]) (by decide) rfl (Nat.le_of_ble_eq_true rfl) (fun κ => ?_)
  generalize hQ : xQ κ g 0 0 _ = Q
  refine x_iload_n dX8_count_0 rfl ?_
  refine x_tabIn (off := 78) 79 dX8_count_1 (by decide) (by decide) rfl (by decide) ?_
  refine x_aload_n dX8_count_79 rfl ?_
  refine x_get dX8_count_80 0 0 inX8 fl_X8_10 rfl rfl (by decide) rfl ?_
  refine x_get dX8_count_83 1 8 inX6 fl_X8_130 rfl rfl (by decide) rfl ?_
  rw [← hQ]
  refine x_iret dX8_count_86 rfl (Nat.le_of_ble_eq_true rfl) (Nat.le_of_ble_eq_true rfl) ?_
  exact ⟨rfl, rfl⟩

-- == count_5 ==
set_option maxRecDepth 100000 in
set_option maxHeartbeats 4000000 in
theorem ct_count_5 (l : Launch) (g : XG) (aM aS aK aL aC aW aR aT aH aF : Nat) (ts : Nat) (kp : Int32) (aSk aSm aSp aSt aSc aSr aSe gr br cs wk : Nat) (z : Int32) : Ct l g 10 0 0 yX8_count cX8_count 2 (some .int) [.ref aM, .int 5] [(aM, .inr (8, [.ref aS, .ref aK, .ref aL, .ref aC, .ref aW, .ref aR, .ref aT, .ref aH, .ref aF, .int (nI ts), .int kp])), (aS, .inr (6, [.ref aSk, .ref aSm, .ref aSp, .ref aSt, .ref aSc, .ref aSr, .ref aSe, .int (nI gr), .int (nI br), .int (nI cs), .int (nI wk), .int z]))] (xpi (nI (ts)) [(aM, .inr (8, [.ref aS, .ref aK, .ref aL, .ref aC, .ref aW, .ref aR, .ref aT, .ref aH, .ref aF, .int (nI ts), .int kp])), (aS, .inr (6, [.ref aSk, .ref aSm, .ref aSp, .ref aSt, .ref aSc, .ref aSr, .ref aSe, .int (nI gr), .int (nI br), .int (nI cs), .int (nI wk), .int z]))]) := by
  refine Ct.ofX (lv := [some (.ref aM), some (.int 5)]) (by decide) rfl (Nat.le_of_ble_eq_true rfl) (fun κ => ?_)
  generalize hQ : xQ κ g 0 0 _ = Q
  refine x_iload_n dX8_count_0 rfl ?_
  refine x_tabIn (off := 102) 103 dX8_count_1 (by decide) (by decide) rfl (by decide) ?_
  refine x_aload_n dX8_count_103 rfl ?_
  refine x_get dX8_count_104 0 9 inX8 fl_X8_145 rfl rfl (by decide) rfl ?_
  rw [← hQ]
  refine x_iret dX8_count_107 rfl (Nat.le_of_ble_eq_true rfl) (Nat.le_of_ble_eq_true rfl) ?_
  exact ⟨rfl, rfl⟩

-- == count_6 ==
set_option maxRecDepth 100000 in
set_option maxHeartbeats 4000000 in
theorem ct_count_6 (l : Launch) (g : XG) (aM aS aK aL aC aW aR aT aH aF : Nat) (ts : Nat) (kp : Int32) (aSk aSm aSp aSt aSc aSr aSe gr br cs wk : Nat) (z : Int32) : Ct l g 10 0 0 yX8_count cX8_count 2 (some .int) [.ref aM, .int 6] [(aM, .inr (8, [.ref aS, .ref aK, .ref aL, .ref aC, .ref aW, .ref aR, .ref aT, .ref aH, .ref aF, .int (nI ts), .int kp])), (aS, .inr (6, [.ref aSk, .ref aSm, .ref aSp, .ref aSt, .ref aSc, .ref aSr, .ref aSe, .int (nI gr), .int (nI br), .int (nI cs), .int (nI wk), .int z]))] (xpi (z) [(aM, .inr (8, [.ref aS, .ref aK, .ref aL, .ref aC, .ref aW, .ref aR, .ref aT, .ref aH, .ref aF, .int (nI ts), .int kp])), (aS, .inr (6, [.ref aSk, .ref aSm, .ref aSp, .ref aSt, .ref aSc, .ref aSr, .ref aSe, .int (nI gr), .int (nI br), .int (nI cs), .int (nI wk), .int z]))]) := by
  refine Ct.ofX (lv := [some (.ref aM), some (.int 6)]) (by decide) rfl (Nat.le_of_ble_eq_true rfl) (fun κ => ?_)
  generalize hQ : xQ κ g 0 0 _ = Q
  refine x_iload_n dX8_count_0 rfl ?_
  refine x_tabIn (off := 107) 108 dX8_count_1 (by decide) (by decide) rfl (by decide) ?_
  refine x_aload_n dX8_count_108 rfl ?_
  refine x_get dX8_count_109 0 0 inX8 fl_X8_10 rfl rfl (by decide) rfl ?_
  refine x_get dX8_count_112 1 11 inX6 fl_X8_175 rfl rfl (by decide) rfl ?_
  rw [← hQ]
  refine x_iret dX8_count_115 rfl (Nat.le_of_ble_eq_true rfl) (Nat.le_of_ble_eq_true rfl) ?_
  exact ⟨rfl, rfl⟩

-- == count_4 ==
set_option maxRecDepth 100000 in
set_option maxHeartbeats 4000000 in
theorem ct_count_4 (l : Launch) (g : XG) (aM aS aK aL aC aW aR aT aH aF : Nat) (ts : Nat) (kp : Int32) (aSk aSm aSp aSt aSc aSr aSe gr br cs wk : Nat) (z : Int32) (hcs : cs ≤ 60) : Ct l g 10 0 0 yX8_count cX8_count 2 (some .int) [.ref aM, .int 4] [(aM, .inr (8, [.ref aS, .ref aK, .ref aL, .ref aC, .ref aW, .ref aR, .ref aT, .ref aH, .ref aF, .int (nI ts), .int kp])), (aS, .inr (6, [.ref aSk, .ref aSm, .ref aSp, .ref aSt, .ref aSc, .ref aSr, .ref aSe, .int (nI gr), .int (nI br), .int (nI cs), .int (nI wk), .int z]))] (xpi (if hasL cs = 0 then 0 else 1) [(aM, .inr (8, [.ref aS, .ref aK, .ref aL, .ref aC, .ref aW, .ref aR, .ref aT, .ref aH, .ref aF, .int (nI ts), .int kp])), (aS, .inr (6, [.ref aSk, .ref aSm, .ref aSp, .ref aSt, .ref aSc, .ref aSr, .ref aSe, .int (nI gr), .int (nI br), .int (nI cs), .int (nI wk), .int z]))]) := by
  refine Ct.ofX (lv := [some (.ref aM), some (.int 4)]) (by decide) rfl (Nat.le_of_ble_eq_true rfl) (fun κ => ?_)
  generalize hQ : xQ κ g 0 0 _ = Q
  refine x_iload_n dX8_count_0 rfl ?_
  refine x_tabIn (off := 86) 87 dX8_count_1 (by decide) (by decide) rfl (by decide) ?_
  refine x_aload_n dX8_count_87 rfl ?_
  refine x_get dX8_count_88 0 0 inX8 fl_X8_10 rfl rfl (by decide) rfl ?_
  refine x_cVi0 dX8_count_91 ml_X8_162 mX6_hasLiking (ct_X6_hasLiking κ.2.1 g aS aSk aSm aSp aSt aSc aSr aSe gr br cs wk z (hcs)) [1] rfl rfl 1 rfl rfl rfl (Nat.le_of_ble_eq_true rfl) (by decide) (Nat.le_refl _) (Nat.le_refl _) ?_
  have J94_2 : ∀ (v1 : Int32), v1 = (if (hasL cs) = 0 then 0 else 1) → Xs κ g 10 0 0 cX8_count yX8_count (some .int) Q 0 0 102 [some (.ref aM), some (.int 4)] [.int v1] [(aM, .inr (8, [.ref aS, .ref aK, .ref aL, .ref aC, .ref aW, .ref aR, .ref aT, .ref aH, .ref aF, .int (nI ts), .int kp])), (aS, .inr (6, [.ref aSk, .ref aSm, .ref aSp, .ref aSt, .ref aSc, .ref aSr, .ref aSe, .int (nI gr), .int (nI br), .int (nI cs), .int (nI wk), .int z]))] := by
    intro v1 ev1
    rw [← hQ]
    refine x_iret dX8_count_102 rfl (Nat.le_of_ble_eq_true rfl) (Nat.le_of_ble_eq_true rfl) ?_
    simp only [ev1]
    exact ⟨rfl, rfl⟩
  refine x_if_eq dX8_count_94 (fun c94 => ?_) (fun c94 => ?_)
  · have c94 : (hasL cs) = 0 := c94
    refine x_iconst 0 dX8_count_101 (by decide) ?_
    exact J94_2 _ (if_pos c94).symm
  · have c94 : ¬ ((hasL cs) = 0) := c94
    refine x_iconst 1 dX8_count_97 (by decide) ?_
    refine x_goto dX8_count_98 ?_
    exact J94_2 _ (if_neg c94).symm

-- == count_7 ==
set_option maxRecDepth 100000 in
set_option maxHeartbeats 4000000 in
theorem ct_count_7 (l : Launch) (g : XG) (aM aS aK aL aC aW aR aT aH aF : Nat) (ts : Nat) (kp : Int32) (aSk aSm aSp aSt aSc aSr aSe gr br cs wk : Nat) (z : Int32) (ru : Nat → Nat) : Ct l g 10 0 0 yX8_count cX8_count 2 (some .int) [.ref aM, .int 7] [(aM, .inr (8, [.ref aS, .ref aK, .ref aL, .ref aC, .ref aW, .ref aR, .ref aT, .ref aH, .ref aF, .int (nI ts), .int kp])), (aS, .inr (6, [.ref aSk, .ref aSm, .ref aSp, .ref aSt, .ref aSc, .ref aSr, .ref aSe, .int (nI gr), .int (nI br), .int (nI cs), .int (nI wk), .int z])), (aSr, .inl (g.2.1 0, 8, .inl (nIf ru)))] (xpi (nI (ru 7)) [(aM, .inr (8, [.ref aS, .ref aK, .ref aL, .ref aC, .ref aW, .ref aR, .ref aT, .ref aH, .ref aF, .int (nI ts), .int kp])), (aS, .inr (6, [.ref aSk, .ref aSm, .ref aSp, .ref aSt, .ref aSc, .ref aSr, .ref aSe, .int (nI gr), .int (nI br), .int (nI cs), .int (nI wk), .int z])), (aSr, .inl (g.2.1 0, 8, .inl (nIf ru)))]) := by
  refine Ct.ofX (lv := [some (.ref aM), some (.int 7)]) (by decide) rfl (Nat.le_of_ble_eq_true rfl) (fun κ => ?_)
  generalize hQ : xQ κ g 0 0 _ = Q
  refine x_iload_n dX8_count_0 rfl ?_
  refine x_tabIn (off := 115) 116 dX8_count_1 (by decide) (by decide) rfl (by decide) ?_
  refine x_aload_n dX8_count_116 rfl ?_
  refine x_get dX8_count_117 0 0 inX8 fl_X8_10 rfl rfl (by decide) rfl ?_
  refine x_get dX8_count_120 1 5 inX6 fl_X8_172 rfl rfl (by decide) rfl ?_
  refine x_bipush 7 dX8_count_123 (by decide) ?_
  refine x_iald dX8_count_125 2 7 rfl (rfl) (by decide) (by decide) ?_
  rw [← hQ]
  refine x_iret dX8_count_126 rfl (Nat.le_of_ble_eq_true rfl) (Nat.le_of_ble_eq_true rfl) ?_
  exact ⟨rfl, rfl⟩

-- == count_2 ==
set_option maxRecDepth 100000 in
set_option maxHeartbeats 4000000 in
theorem ct_count_2 (l : Launch) (g : XG) (aM aK aW aR aT aH aF ts : Nat) (kp : Int32) (aC aS aL aV aO aCs aCl aCh aCw aCc aCb tot lat : Nat) (se sw : Int32) (aLb aLp aVs aSk aSm aSp aSt aSc aSr aSe gr br cs wk : Nat) (z : Int32) (sd li cr ki ma bp bt : Nat → Nat) (co ce sk : Nat → Int32) (V : Nat → Int32) (L : Nat) (hgr : gr ≤ 12) (hbr : br ≤ 40) (hcs : cs ≤ 60) (hwk : wk ≤ 40) (hki : ∀ j, ki j ≤ 7) (hma : ∀ j, ma j ≤ 99999) (hbp : ∀ j, bp j < 495) (hlat : latI ce wk = nI L) (hL : L < 4096) (hV : cs ≠ 0 → ∀ p, p < 495 → evR (nmI wk L p) (cdF co 0 cs) [] = some [V p]) (hse : se = 0 ∨ (se = 1 ∧ sd = sdF cs V ∧ cr = crF gr ki ma bp bt br L (sdF cs V) ∧ tot = totF gr ki ma bp bt br L (sdF cs V) ∧ lat = L)) : Ct l g 10 0 0 yX8_count cX8_count 2 (some .int) [.ref aM, .int 2] [(aM, .inr (8, [.ref aS, .ref aK, .ref aL, .ref aC, .ref aW, .ref aR, .ref aT, .ref aH, .ref aF, .int (nI ts), .int kp])), (aC, .inr (0, [.ref aS, .ref aL, .ref aV, .ref aO, .ref aCs, .ref aCl, .ref aCh, .ref aCw, .ref aCc, .ref aCb, .int (nI tot), .int (nI lat), .int se, .int sw])), (aCs, .inl (g.2.1 0, 495, .inl (nIf sd))), (aCl, .inl (g.2.1 0, 495, .inl (nIf li))), (aCc, .inl (g.2.1 0, 495, .inl (nIf cr))), (aL, .inr (5, [.ref aLb, .ref aLp])), (aLb, .inl (g.2.1 0, 495, .inl (nIf rowB))), (aLp, .inl (g.2.1 0, 495, .inl (nIf packB))), (aV, .inr (2, [.ref aS, .ref aVs])), (aVs, .inl (g.2.1 0, 60, .inl sk)), (aS, .inr (6, [.ref aSk, .ref aSm, .ref aSp, .ref aSt, .ref aSc, .ref aSr, .ref aSe, .int (nI gr), .int (nI br), .int (nI cs), .int (nI wk), .int z])), (aSk, .inl (g.2.1 0, 12, .inl (nIf ki))), (aSm, .inl (g.2.1 0, 12, .inl (nIf ma))), (aSp, .inl (g.2.1 0, 40, .inl (nIf bp))), (aSt, .inl (g.2.1 0, 40, .inl (nIf bt))), (aSc, .inl (g.2.1 0, 60, .inl co)), (aSe, .inl (g.2.1 0, 320, .inl ce))] (fun vv_ ww_ => ∃ (li2 : Nat → Nat) (sk2 : Nat → Int32), vv_ = some (.int (nI (totF gr ki ma bp bt br L (sdF cs V)))) ∧ ww_ = [(aM, .inr (8, [.ref aS, .ref aK, .ref aL, .ref aC, .ref aW, .ref aR, .ref aT, .ref aH, .ref aF, .int (nI ts), .int kp])), (aC, .inr (0, [.ref aS, .ref aL, .ref aV, .ref aO, .ref aCs, .ref aCl, .ref aCh, .ref aCw, .ref aCc, .ref aCb, .int (nI (totF gr ki ma bp bt br L (sdF cs V))), .int (nI L), .int 1, .int sw])), (aCs, .inl (g.2.1 0, 495, .inl (nIf (sdF cs V)))), (aCl, .inl (g.2.1 0, 495, .inl (nIf li2))), (aCc, .inl (g.2.1 0, 495, .inl (nIf (crF gr ki ma bp bt br L (sdF cs V))))), (aL, .inr (5, [.ref aLb, .ref aLp])), (aLb, .inl (g.2.1 0, 495, .inl (nIf rowB))), (aLp, .inl (g.2.1 0, 495, .inl (nIf packB))), (aV, .inr (2, [.ref aS, .ref aVs])), (aVs, .inl (g.2.1 0, 60, .inl sk2)), (aS, .inr (6, [.ref aSk, .ref aSm, .ref aSp, .ref aSt, .ref aSc, .ref aSr, .ref aSe, .int (nI gr), .int (nI br), .int (nI cs), .int (nI wk), .int z])), (aSk, .inl (g.2.1 0, 12, .inl (nIf ki))), (aSm, .inl (g.2.1 0, 12, .inl (nIf ma))), (aSp, .inl (g.2.1 0, 40, .inl (nIf bp))), (aSt, .inl (g.2.1 0, 40, .inl (nIf bt))), (aSc, .inl (g.2.1 0, 60, .inl co)), (aSe, .inl (g.2.1 0, 320, .inl ce))]) := by
  refine Ct.ofX (lv := [some (.ref aM), some (.int 2)]) (by decide) rfl (Nat.le_of_ble_eq_true rfl) (fun κ => ?_)
  generalize hQ : xQ κ g 0 0 _ = Q
  refine x_iload_n dX8_count_0 rfl ?_
  refine x_tabIn (off := 63) 64 dX8_count_1 (by decide) (by decide) rfl (by decide) ?_
  refine x_aload_n dX8_count_64 rfl ?_
  refine x_get dX8_count_65 0 3 inX8 fl_X8_36 rfl rfl (by decide) rfl ?_
  refine x_callV dX8_count_68 ml_X8_114 mX0_settle (ct_X0_settle κ.2.1 g aC aS aL aV aO aCs aCl aCh aCw aCc aCb tot lat se sw aLb aLp aVs aSk aSm aSp aSt aSc aSr aSe gr br cs wk z sd li cr ki ma bp bt co ce sk V L (hgr) (hbr) (hcs) (hwk) (hki) (hma) (hbp) (hlat) (hL) (hV) (hse)) [1, 2, 3, 4, 5, 6, 7, 8, 9, 10, 11, 12, 13, 14, 15, 16] rfl rfl 1 rfl rfl rfl (Nat.le_of_ble_eq_true rfl) (by decide) (Nat.le_refl _) (Nat.le_refl _) (fun vv ww hp => ?_)
  obtain ⟨z1, z2, rfl, rfl⟩ := hp
  refine ⟨(rfl : [aC, aCs, aCl, aCc, aL, aLb, aLp, aV, aVs, aS, aSk, aSm, aSp, aSt, aSc, aSe] = [aC, aCs, aCl, aCc, aL, aLb, aLp, aV, aVs, aS, aSk, aSm, aSp, aSt, aSc, aSe]), x_eq (lv' := [some (.ref aM), some (.int 2)]) (st' := []) (ws' := [(aM, .inr (8, [.ref aS, .ref aK, .ref aL, .ref aC, .ref aW, .ref aR, .ref aT, .ref aH, .ref aF, .int (nI ts), .int kp])), (aC, .inr (0, [.ref aS, .ref aL, .ref aV, .ref aO, .ref aCs, .ref aCl, .ref aCh, .ref aCw, .ref aCc, .ref aCb, .int (nI (totF gr ki ma bp bt br L (sdF cs V))), .int (nI L), .int 1, .int sw])), (aCs, .inl (g.2.1 0, 495, .inl (nIf (sdF cs V)))), (aCl, .inl (g.2.1 0, 495, .inl (nIf z1))), (aCc, .inl (g.2.1 0, 495, .inl (nIf (crF gr ki ma bp bt br L (sdF cs V))))), (aL, .inr (5, [.ref aLb, .ref aLp])), (aLb, .inl (g.2.1 0, 495, .inl (nIf rowB))), (aLp, .inl (g.2.1 0, 495, .inl (nIf packB))), (aV, .inr (2, [.ref aS, .ref aVs])), (aVs, .inl (g.2.1 0, 60, .inl z2)), (aS, .inr (6, [.ref aSk, .ref aSm, .ref aSp, .ref aSt, .ref aSc, .ref aSr, .ref aSe, .int (nI gr), .int (nI br), .int (nI cs), .int (nI wk), .int z])), (aSk, .inl (g.2.1 0, 12, .inl (nIf ki))), (aSm, .inl (g.2.1 0, 12, .inl (nIf ma))), (aSp, .inl (g.2.1 0, 40, .inl (nIf bp))), (aSt, .inl (g.2.1 0, 40, .inl (nIf bt))), (aSc, .inl (g.2.1 0, 60, .inl co)), (aSe, .inl (g.2.1 0, 320, .inl ce))]) ?_ rfl rfl rfl⟩
  refine x_aload_n dX8_count_71 rfl ?_
  refine x_get dX8_count_72 0 3 inX8 fl_X8_36 rfl rfl (by decide) rfl ?_
  refine x_get dX8_count_75 1 10 inX0 fl_X8_195 rfl rfl (by decide) rfl ?_
  rw [← hQ]
  refine x_iret dX8_count_78 rfl (Nat.le_of_ble_eq_true rfl) (Nat.le_of_ble_eq_true rfl) ?_
  exact ⟨_, _, rfl, rfl⟩

