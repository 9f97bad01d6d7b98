
-- == X1_faultOf ==
theorem dX1_faultOf_0 : xd cX1_faultOf 0 (.aload_n 0) 1 1 := ⟨by decide +kernel, rfl⟩
theorem dX1_faultOf_1 : xd cX1_faultOf 1 (.iconst 0) 1 2 := ⟨by decide +kernel, rfl⟩
theorem dX1_faultOf_2 : xd cX1_faultOf 2 (.iload_n 2) 1 3 := ⟨by decide +kernel, rfl⟩
theorem dX1_faultOf_3 : xd cX1_faultOf 3 (.aload_n 1) 1 4 := ⟨by decide +kernel, rfl⟩
theorem dX1_faultOf_4 : xd cX1_faultOf 4 .arraylength 1 5 := ⟨by decide +kernel, rfl⟩
theorem dX1_faultOf_5 : xd cX1_faultOf 5 (.bipush 60) 2 7 := ⟨by decide +kernel, rfl⟩
theorem dX1_faultOf_7 : xd cX1_faultOf 7 (.invokestatic 19) 3 10 := ⟨by decide +kernel, rfl⟩
theorem dX1_faultOf_10 : xd cX1_faultOf 10 (.invokestatic 19) 3 13 := ⟨by decide +kernel, rfl⟩
theorem dX1_faultOf_13 : xd cX1_faultOf 13 (.invokestatic 25) 3 16 := ⟨by decide +kernel, rfl⟩
theorem dX1_faultOf_16 : xd cX1_faultOf 16 (.putfield 28) 3 19 := ⟨by decide +kernel, rfl⟩
theorem dX1_faultOf_19 : xd cX1_faultOf 19 (.aload_n 1) 1 20 := ⟨by decide +kernel, rfl⟩
theorem dX1_faultOf_20 : xd cX1_faultOf 20 (.iconst 0) 1 21 := ⟨by decide +kernel, rfl⟩
theorem dX1_faultOf_21 : xd cX1_faultOf 21 (.aload_n 0) 1 22 := ⟨by decide +kernel, rfl⟩
theorem dX1_faultOf_22 : xd cX1_faultOf 22 (.getfield 9) 3 25 := ⟨by decide +kernel, rfl⟩
theorem dX1_faultOf_25 : xd cX1_faultOf 25 (.iconst 0) 1 26 := ⟨by decide +kernel, rfl⟩
theorem dX1_faultOf_26 : xd cX1_faultOf 26 (.aload_n 0) 1 27 := ⟨by decide +kernel, rfl⟩
theorem dX1_faultOf_27 : xd cX1_faultOf 27 (.getfield 28) 3 30 := ⟨by decide +kernel, rfl⟩
theorem dX1_faultOf_30 : xd cX1_faultOf 30 (.invokestatic 32) 3 33 := ⟨by decide +kernel, rfl⟩
theorem dX1_faultOf_33 : xd cX1_faultOf 33 (.aload_n 0) 1 34 := ⟨by decide +kernel, rfl⟩
theorem dX1_faultOf_34 : xd cX1_faultOf 34 (.iconst 0) 1 35 := ⟨by decide +kernel, rfl⟩
theorem dX1_faultOf_35 : xd cX1_faultOf 35 (.putfield 38) 3 38 := ⟨by decide +kernel, rfl⟩
theorem dX1_faultOf_38 : xd cX1_faultOf 38 (.aload_n 0) 1 39 := ⟨by decide +kernel, rfl⟩
theorem dX1_faultOf_39 : xd cX1_faultOf 39 (.iconst 0) 1 40 := ⟨by decide +kernel, rfl⟩
theorem dX1_faultOf_40 : xd cX1_faultOf 40 (.putfield 41) 3 43 := ⟨by decide +kernel, rfl⟩
theorem dX1_faultOf_43 : xd cX1_faultOf 43 (.aload_n 0) 1 44 := ⟨by decide +kernel, rfl⟩
theorem dX1_faultOf_44 : xd cX1_faultOf 44 (.iconst (-1)) 1 45 := ⟨by decide +kernel, rfl⟩
theorem dX1_faultOf_45 : xd cX1_faultOf 45 (.putfield 44) 3 48 := ⟨by decide +kernel, rfl⟩
theorem dX1_faultOf_48 : xd cX1_faultOf 48 (.aload_n 0) 1 49 := ⟨by decide +kernel, rfl⟩
theorem dX1_faultOf_49 : xd cX1_faultOf 49 (.iconst 0) 1 50 := ⟨by decide +kernel, rfl⟩
theorem dX1_faultOf_50 : xd cX1_faultOf 50 (.invokevirtual 47) 3 53 := ⟨by decide +kernel, rfl⟩
theorem dX1_faultOf_53 : xd cX1_faultOf 53 (.aload_n 0) 1 54 := ⟨by decide +kernel, rfl⟩
theorem dX1_faultOf_54 : xd cX1_faultOf 54 (.getfield 44) 3 57 := ⟨by decide +kernel, rfl⟩
theorem dX1_faultOf_57 : xj cX1_faultOf 57 (.ifCond .ge) 60 79 := ⟨22, by decide +kernel, rfl, by decide⟩
theorem dX1_faultOf_60 : xd cX1_faultOf 60 (.aload_n 0) 1 61 := ⟨by decide +kernel, rfl⟩
theorem dX1_faultOf_61 : xd cX1_faultOf 61 (.getfield 41) 3 64 := ⟨by decide +kernel, rfl⟩
theorem dX1_faultOf_64 : xd cX1_faultOf 64 (.aload_n 0) 1 65 := ⟨by decide +kernel, rfl⟩
theorem dX1_faultOf_65 : xd cX1_faultOf 65 (.getfield 28) 3 68 := ⟨by decide +kernel, rfl⟩
theorem dX1_faultOf_68 : xj cX1_faultOf 68 (.if_icmp .ge) 71 79 := ⟨11, by decide +kernel, rfl, by decide⟩
theorem dX1_faultOf_71 : xd cX1_faultOf 71 (.aload_n 0) 1 72 := ⟨by decide +kernel, rfl⟩
theorem dX1_faultOf_72 : xd cX1_faultOf 72 (.aload_n 0) 1 73 := ⟨by decide +kernel, rfl⟩
theorem dX1_faultOf_73 : xd cX1_faultOf 73 (.getfield 41) 3 76 := ⟨by decide +kernel, rfl⟩
theorem dX1_faultOf_76 : xd cX1_faultOf 76 (.putfield 44) 3 79 := ⟨by decide +kernel, rfl⟩
theorem dX1_faultOf_79 : xd cX1_faultOf 79 (.aload_n 0) 1 80 := ⟨by decide +kernel, rfl⟩
theorem dX1_faultOf_80 : xd cX1_faultOf 80 (.getfield 44) 3 83 := ⟨by decide +kernel, rfl⟩
theorem dX1_faultOf_83 : xd cX1_faultOf 83 .ireturn 1 84 := ⟨by decide +kernel, rfl⟩

set_option maxRecDepth 100000 in
set_option maxHeartbeats 4000000 in
theorem ct_X1_faultOf (l : Launch) (g : XG) (aR aRt aRc aT n n0 a0 cs0 : Nat) (ft : Int32) (bo tb : Nat → Nat) (f0 : Nat → Int32) (hn : n ≤ 60) (hbo : ∀ j, bo j < 256) (htb : ∀ j, tb j < 256) : Ct l g 28 0 0 yX1_faultOf cX1_faultOf 3 (some .int) [.ref aR, .ref aT, .int (nI n)] [(aR, .inr (1, [.ref aRt, .ref aRc, .int (nI n0), .int (nI cs0), .int (nI a0), .int ft])), (aRt, .inl (g.2.1 1, 60, .inl (fun j => sgB (bo j)))), (aRc, .inl (g.2.1 0, 60, .inl f0)), (aT, .inl (g.2.1 1, 60, .inl (fun j => sgB (tb j))))] (xpi (fltI (hB tb n) n) [(aR, .inr (1, [.ref aRt, .ref aRc, .int (nI n), .int (nI ((sumL_ (hB tb n) 4 (0, false, [])).2.2.length)), .int (nI ((sumL_ (hB tb n) 4 (0, false, [])).1)), .int (fltI (hB tb n) n)])), (aRt, .inl (g.2.1 1, 60, .inl (fun j => sgB (if j < n then tb j else bo j)))), (aRc, .inl (g.2.1 0, 60, .inl (coL (sumL_ (hB tb n) 4 (0, false, [])).2.2 f0))), (aT, .inl (g.2.1 1, 60, .inl (fun j => sgB (tb j))))]) := by
  refine Ct.ofX (lv := [some (.ref aR), some (.ref aT), some (.int (nI n))]) (by decide) rfl (Nat.le_of_ble_eq_true rfl) (fun κ => ?_)
  generalize hQ : xQ κ g 0 0 _ = Q
  have hmx : ∀ j, (if j < n then tb j else bo j) < 256 := fun j => by split; exact htb j; exact hbo j
  refine x_aload_n dX1_faultOf_0 rfl ?_
  refine x_iconst 0 dX1_faultOf_1 (by decide) ?_
  refine x_iload_n dX1_faultOf_2 rfl ?_
  refine x_aload_n dX1_faultOf_3 rfl ?_
  refine x_alen (ti := 1) 60 dX1_faultOf_4 3 rfl rfl rfl ?_
  refine x_bipush 60 dX1_faultOf_5 (by decide) ?_
  refine x_mmin dX1_faultOf_7 ml_X1_19 (Nat.le_of_ble_eq_true rfl) (by decide) (Nat.le_refl _) (Nat.le_refl _) ?_
  refine x_rei (60) (by decide) ?_
  refine x_mmin dX1_faultOf_10 ml_X1_19 (Nat.le_of_ble_eq_true rfl) (by decide) (Nat.le_refl _) (Nat.le_refl _) ?_
  refine x_rei (nI n) (if_neg (nI_nlt (a := 60) (b := n) hn (by decide))) ?_
  refine x_mmax dX1_faultOf_13 ml_X1_25 (Nat.le_of_ble_eq_true rfl) (by decide) (Nat.le_refl _) (Nat.le_refl _) ?_
  refine x_rei (nI n) (by first | exact if_neg (nI_pos (by omega)) | (rcases Nat.eq_zero_or_pos n with e | e; (subst e; rfl); exact if_pos (nI_lt (a := 0) e (by omega)))) ?_
  refine x_put (ws' := [(aR, .inr (1, [.ref aRt, .ref aRc, .int (nI n), .int (nI cs0), .int (nI a0), .int ft])), (aRt, .inl (g.2.1 1, 60, .inl (fun j => sgB (bo j)))), (aRc, .inl (g.2.1 0, 60, .inl f0)), (aT, .inl (g.2.1 1, 60, .inl (fun j => sgB (tb j))))]) dX1_faultOf_16 0 2 inX1 tyX1_ok nmX1 fl_X1_28 rfl rfl (by decide) rfl (rfl) rfl (xlt rfl) rfl ?_
  refine x_aload_n dX1_faultOf_19 rfl ?_
  refine x_iconst 0 dX1_faultOf_20 (by decide) ?_
  refine x_aload_n dX1_faultOf_21 rfl ?_
  refine x_get dX1_faultOf_22 0 0 inX1 fl_X1_9 rfl rfl (by decide) rfl ?_
  refine x_iconst 0 dX1_faultOf_25 (by decide) ?_
  refine x_aload_n dX1_faultOf_26 rfl ?_
  refine x_get dX1_faultOf_27 0 2 inX1 fl_X1_28 rfl rfl (by decide) rfl ?_
  refine x_copyi (ti := 1) (ws' := [(aR, .inr (1, [.ref aRt, .ref aRc, .int (nI n), .int (nI cs0), .int (nI a0), .int ft])), (aRt, .inl (g.2.1 1, 60, .inl (va_cpy (fun j => sgB (tb j)) (fun j => sgB (bo j)) 0 0 n))), (aRc, .inl (g.2.1 0, 60, .inl f0)), (aT, .inl (g.2.1 1, 60, .inl (fun j => sgB (tb j))))]) (sp := 0) (dp := 0) (n := n) dX1_faultOf_30 ml_X1_32 3 1 rfl rfl rfl rfl rfl (rfl) (rfl) (rfl) (by omega) (by omega) ⟨by decide, by decide⟩ (fun j hj => fit_sgB (htb _)) (Nat.le_of_ble_eq_true rfl) (by decide) rfl ?_
  refine x_funi (ws' := [(aR, .inr (1, [.ref aRt, .ref aRc, .int (nI n), .int (nI cs0), .int (nI a0), .int ft])), (aRt, .inl (g.2.1 1, 60, .inl (fun j => sgB (if j < n then tb j else bo j)))), (aRc, .inl (g.2.1 0, 60, .inl f0)), (aT, .inl (g.2.1 1, 60, .inl (fun j => sgB (tb j))))]) (q0 := 1) rfl (fun j _ => congrFun (cpy_txt tb bo n) j) rfl ?_
  refine x_aload_n dX1_faultOf_33 rfl ?_
  refine x_iconst 0 dX1_faultOf_34 (by decide) ?_
  refine x_put (ws' := [(aR, .inr (1, [.ref aRt, .ref aRc, .int (nI n), .int 0, .int (nI a0), .int ft])), (aRt, .inl (g.2.1 1, 60, .inl (fun j => sgB (if j < n then tb j else bo j)))), (aRc, .inl (g.2.1 0, 60, .inl f0)), (aT, .inl (g.2.1 1, 60, .inl (fun j => sgB (tb j))))]) dX1_faultOf_35 0 3 inX1 tyX1_ok nmX1 fl_X1_38 rfl rfl (by decide) rfl (rfl) rfl (xlt rfl) rfl ?_
  refine x_aload_n dX1_faultOf_38 rfl ?_
  refine x_iconst 0 dX1_faultOf_39 (by decide) ?_
  refine x_put (ws' := [(aR, .inr (1, [.ref aRt, .ref aRc, .int (nI n), .int 0, .int 0, .int ft])), (aRt, .inl (g.2.1 1, 60, .inl (fun j => sgB (if j < n then tb j else bo j)))), (aRc, .inl (g.2.1 0, 60, .inl f0)), (aT, .inl (g.2.1 1, 60, .inl (fun j => sgB (tb j))))]) dX1_faultOf_40 0 4 inX1 tyX1_ok nmX1 fl_X1_41 rfl rfl (by decide) rfl (rfl) rfl (xlt rfl) rfl ?_
  refine x_aload_n dX1_faultOf_43 rfl ?_
  refine x_iconst (-1) dX1_faultOf_44 (by decide) ?_
  refine x_put (ws' := [(aR, .inr (1, [.ref aRt, .ref aRc, .int (nI n), .int 0, .int 0, .int ((-1))])), (aRt, .inl (g.2.1 1, 60, .inl (fun j => sgB (if j < n then tb j else bo j)))), (aRc, .inl (g.2.1 0, 60, .inl f0)), (aT, .inl (g.2.1 1, 60, .inl (fun j => sgB (tb j))))]) dX1_faultOf_45 0 5 inX1 tyX1_ok nmX1 fl_X1_44 rfl rfl (by decide) rfl (rfl) rfl (xlt rfl) rfl ?_
  refine x_funi (ws' := [(aR, .inr (1, [.ref aRt, .ref aRc, .int (nI n), .int 0, .int 0, .int ((-1))])), (aRt, .inl (g.2.1 1, 60, .inl (fun j => sgB (if j < n then tb j else bo j)))), (aRc, .inl (g.2.1 0, 60, .inl (coL [] f0))), (aT, .inl (g.2.1 1, 60, .inl (fun j => sgB (tb j))))]) (q0 := 2) rfl (fun j _ => rfl) rfl ?_
  refine x_aload_n dX1_faultOf_48 rfl ?_
  refine x_iconst 0 dX1_faultOf_49 (by decide) ?_
  refine x_cVv (ws' := [(aR, .inr (1, [.ref aRt, .ref aRc, .int (nI n), .int (nI ((sumL_ (hB (fun j => if j < n then tb j else bo j) n) 4 (0, false, ([]))).2.2.length)), .int (nI ((sumL_ (hB (fun j => if j < n then tb j else bo j) n) 4 (0, false, ([]))).1)), .int (flB (sumL_ (hB (fun j => if j < n then tb j else bo j) n) 4 (0, false, ([]))).2.1 (sumL_ (hB (fun j => if j < n then tb j else bo j) n) 4 (0, false, ([]))).1)])), (aRt, .inl (g.2.1 1, 60, .inl (fun j => sgB ((fun j => if j < n then tb j else bo j) j)))), (aRc, .inl (g.2.1 0, 60, .inl (coL ((sumL_ (hB (fun j => if j < n then tb j else bo j) n) 4 (0, false, ([]))).2.2) f0))), (aT, .inl (g.2.1 1, 60, .inl (fun j => sgB (tb j))))]) dX1_faultOf_50 ml_X1_47 mX1_readSum (ct_rs_4 κ.2.1 g aR aRt aRc n 0 (fun j => if j < n then tb j else bo j) f0 ([]) (Nat.zero_le _) (hn) (hmx) (by decide)) [0, 1, 2] rfl rfl 0 rfl rfl rfl (Nat.le_of_ble_eq_true rfl) (by decide) (Nat.le_refl _) (Nat.le_refl _) (rfl : [aR, aRt, aRc] = [aR, aRt, aRc]) rfl ?_
  have hk := sumL_ok (okH_hB tb n) 4 (0, false, []) ⟨Nat.zero_le _, by decide⟩
  rw [hB_mix tb bo n]
  generalize hR : sumL_ (hB tb n) 4 (0, false, []) = R at hk ⊢
  obtain ⟨a1, b1, c1⟩ := R
  dsimp only [okS] at hk
  cases b1
  · skip
    refine x_eq (lv' := [some (.ref aR), some (.ref aT), some (.int (nI n))]) (st' := []) (ws' := [(aR, .inr (1, [.ref aRt, .ref aRc, .int (nI n), .int (nI c1.length), .int (nI a1), .int ((-1))])), (aRt, .inl (g.2.1 1, 60, .inl (fun j => sgB ((fun j => if j < n then tb j else bo j) j)))), (aRc, .inl (g.2.1 0, 60, .inl (coL (c1) f0))), (aT, .inl (g.2.1 1, 60, .inl (fun j => sgB (tb j))))]) ?_ rfl rfl rfl
    refine x_aload_n dX1_faultOf_53 rfl ?_
    refine x_get dX1_faultOf_54 0 5 inX1 fl_X1_44 rfl rfl (by decide) rfl ?_
    refine x_if_ge dX1_faultOf_57 (fun c57 => ?_) (fun c57 => ?_)
    · exact absurd c57 (by decide)
    refine x_aload_n dX1_faultOf_60 rfl ?_
    refine x_get dX1_faultOf_61 0 4 inX1 fl_X1_41 rfl rfl (by decide) rfl ?_
    refine x_aload_n dX1_faultOf_64 rfl ?_
    refine x_get dX1_faultOf_65 0 2 inX1 fl_X1_28 rfl rfl (by decide) rfl ?_
    refine x_icmp_ge dX1_faultOf_68 (fun c68 => ?_) (fun c68 => ?_)
    · have c68 : (nI n) ≤ (nI a1) := c68
      have c68n := (nI_leI (a := n) (b := a1) (by omega) (by omega)).mp c68
      refine x_aload_n dX1_faultOf_79 rfl ?_
      refine x_get dX1_faultOf_80 0 5 inX1 fl_X1_44 rfl rfl (by decide) rfl ?_
      rw [← hQ]
      refine x_iret dX1_faultOf_83 rfl (Nat.le_of_ble_eq_true rfl) (Nat.le_of_ble_eq_true rfl) ?_
      rw [fltI, hR]
      simp only [Bool.false_eq_true, if_false, if_true]
      first | exact ⟨rfl, rfl⟩ | (rw [if_pos (by omega)]; exact ⟨rfl, rfl⟩) | (rw [if_neg (by omega)]; exact ⟨rfl, rfl⟩)
    · have c68 : ¬ ((nI n) ≤ (nI a1)) := c68
      have c68n := mt (nI_leI (a := n) (b := a1) (by omega) (by omega)).mpr c68
      refine x_aload_n dX1_faultOf_71 rfl ?_
      refine x_aload_n dX1_faultOf_72 rfl ?_
      refine x_get dX1_faultOf_73 0 4 inX1 fl_X1_41 rfl rfl (by decide) rfl ?_
      refine x_put (ws' := [(aR, .inr (1, [.ref aRt, .ref aRc, .int (nI n), .int (nI c1.length), .int (nI a1), .int (nI a1)])), (aRt, .inl (g.2.1 1, 60, .inl (fun j => sgB ((fun j => if j < n then tb j else bo j) j)))), (aRc, .inl (g.2.1 0, 60, .inl (coL (c1) f0))), (aT, .inl (g.2.1 1, 60, .inl (fun j => sgB (tb j))))]) dX1_faultOf_76 0 5 inX1 tyX1_ok nmX1 fl_X1_44 rfl rfl (by decide) rfl (rfl) rfl (xlt rfl) rfl ?_
      refine x_aload_n dX1_faultOf_79 rfl ?_
      refine x_get dX1_faultOf_80 0 5 inX1 fl_X1_44 rfl rfl (by decide) rfl ?_
      rw [← hQ]
      refine x_iret dX1_faultOf_83 rfl (Nat.le_of_ble_eq_true rfl) (Nat.le_of_ble_eq_true rfl) ?_
      rw [fltI, hR]
      simp only [Bool.false_eq_true, if_false, if_true]
      first | exact ⟨rfl, rfl⟩ | (rw [if_pos (by omega)]; exact ⟨rfl, rfl⟩) | (rw [if_neg (by omega)]; exact ⟨rfl, rfl⟩)
  · skip
    refine x_eq (lv' := [some (.ref aR), some (.ref aT), some (.int (nI n))]) (st' := []) (ws' := [(aR, .inr (1, [.ref aRt, .ref aRc, .int (nI n), .int (nI c1.length), .int (nI a1), .int (nI a1)])), (aRt, .inl (g.2.1 1, 60, .inl (fun j => sgB ((fun j => if j < n then tb j else bo j) j)))), (aRc, .inl (g.2.1 0, 60, .inl (coL (c1) f0))), (aT, .inl (g.2.1 1, 60, .inl (fun j => sgB (tb j))))]) ?_ rfl rfl rfl
    refine x_aload_n dX1_faultOf_53 rfl ?_
    refine x_get dX1_faultOf_54 0 5 inX1 fl_X1_44 rfl rfl (by decide) rfl ?_
    refine x_if_ge dX1_faultOf_57 (fun c57 => ?_) (fun c57 => ?_)
    · have c57 : 0 ≤ (nI a1) := c57
      have c57n := (nI_leI (a := 0) (b := a1) (by omega) (by omega)).mp c57
      refine x_aload_n dX1_faultOf_79 rfl ?_
      refine x_get dX1_faultOf_80 0 5 inX1 fl_X1_44 rfl rfl (by decide) rfl ?_
      rw [← hQ]
      refine x_iret dX1_faultOf_83 rfl (Nat.le_of_ble_eq_true rfl) (Nat.le_of_ble_eq_true rfl) ?_
      rw [fltI, hR]
      simp only [Bool.false_eq_true, if_false, if_true]
      first | exact ⟨rfl, rfl⟩ | (rw [if_pos (by omega)]; exact ⟨rfl, rfl⟩) | (rw [if_neg (by omega)]; exact ⟨rfl, rfl⟩)
    · have c57 : ¬ (0 ≤ (nI a1)) := c57
      have c57n := mt (nI_leI (a := 0) (b := a1) (by omega) (by omega)).mpr c57
      exact absurd c57n (by omega)

-- == X1_putCodeInto ==
theorem dX1_putCodeInto_0 : xd cX1_putCodeInto 0 (.aload_n 0) 1 1 := ⟨by decide +kernel, rfl⟩
theorem dX1_putCodeInto_1 : xd cX1_putCodeInto 1 (.getfield 38) 3 4 := ⟨by decide +kernel, rfl⟩
theorem dX1_putCodeInto_4 : xd cX1_putCodeInto 4 (.aload_n 1) 1 5 := ⟨by decide +kernel, rfl⟩
theorem dX1_putCodeInto_5 : xd cX1_putCodeInto 5 .arraylength 1 6 := ⟨by decide +kernel, rfl⟩
theorem dX1_putCodeInto_6 : xd cX1_putCodeInto 6 (.invokestatic 19) 3 9 := ⟨by decide +kernel, rfl⟩
theorem dX1_putCodeInto_9 : xd cX1_putCodeInto 9 (.istore_n 2) 1 10 := ⟨by decide +kernel, rfl⟩
theorem dX1_putCodeInto_10 : xd cX1_putCodeInto 10 (.aload_n 0) 1 11 := ⟨by decide +kernel, rfl⟩
theorem dX1_putCodeInto_11 : xd cX1_putCodeInto 11 (.getfield 15) 3 14 := ⟨by decide +kernel, rfl⟩
theorem dX1_putCodeInto_14 : xd cX1_putCodeInto 14 (.iconst 0) 1 15 := ⟨by decide +kernel, rfl⟩
theorem dX1_putCodeInto_15 : xd cX1_putCodeInto 15 (.aload_n 1) 1 16 := ⟨by decide +kernel, rfl⟩
theorem dX1_putCodeInto_16 : xd cX1_putCodeInto 16 (.iconst 0) 1 17 := ⟨by decide +kernel, rfl⟩
theorem dX1_putCodeInto_17 : xd cX1_putCodeInto 17 (.iload_n 2) 1 18 := ⟨by decide +kernel, rfl⟩
theorem dX1_putCodeInto_18 : xd cX1_putCodeInto 18 (.invokestatic 32) 3 21 := ⟨by decide +kernel, rfl⟩
theorem dX1_putCodeInto_21 : xd cX1_putCodeInto 21 (.iload_n 2) 1 22 := ⟨by decide +kernel, rfl⟩
theorem dX1_putCodeInto_22 : xd cX1_putCodeInto 22 .ireturn 1 23 := ⟨by decide +kernel, rfl⟩

set_option maxRecDepth 100000 in
set_option maxHeartbeats 4000000 in
theorem ct_X1_putCodeInto (l : Launch) (g : XG) (aR aRt aRc n a aSc : Nat) (ft : Int32) (f0 co : Nat → Int32) (cl : List Int32) (hl : cl.length ≤ 60) : Ct l g 2 0 0 yX1_putCodeInto cX1_putCodeInto 3 (some .int) [.ref aR, .ref aSc] [(aR, .inr (1, [.ref aRt, .ref aRc, .int (nI n), .int (nI cl.length), .int (nI a), .int ft])), (aRc, .inl (g.2.1 0, 60, .inl (coL cl f0))), (aSc, .inl (g.2.1 0, 60, .inl co))] (xpi (nI (cl.length)) [(aR, .inr (1, [.ref aRt, .ref aRc, .int (nI n), .int (nI cl.length), .int (nI a), .int ft])), (aRc, .inl (g.2.1 0, 60, .inl (coL cl f0))), (aSc, .inl (g.2.1 0, 60, .inl (coL cl co)))]) := by
  refine Ct.ofX (lv := [some (.ref aR), some (.ref aSc), none]) (by decide) rfl (Nat.le_of_ble_eq_true rfl) (fun κ => ?_)
  generalize hQ : xQ κ g 0 0 _ = Q
  refine x_aload_n dX1_putCodeInto_0 rfl ?_
  refine x_get dX1_putCodeInto_1 0 3 inX1 fl_X1_38 rfl rfl (by decide) rfl ?_
  refine x_aload_n dX1_putCodeInto_4 rfl ?_
  refine x_alen (ti := 0) 60 dX1_putCodeInto_5 2 rfl rfl rfl ?_
  refine x_mmin dX1_putCodeInto_6 ml_X1_19 (Nat.le_of_ble_eq_true rfl) (by decide) (Nat.le_refl _) (Nat.le_refl _) ?_
  refine x_rei (nI cl.length) (if_neg (nI_nlt (a := 60) hl (by decide))) ?_
  refine x_istore_n (lv' := [some (.ref aR), some (.ref aSc), some (.int (nI cl.length))]) dX1_putCodeInto_9 (xlt rfl) rfl ?_
  refine x_aload_n dX1_putCodeInto_10 rfl ?_
  refine x_get dX1_putCodeInto_11 0 1 inX1 fl_X1_15 rfl rfl (by decide) rfl ?_
  refine x_iconst 0 dX1_putCodeInto_14 (by decide) ?_
  refine x_aload_n dX1_putCodeInto_15 rfl ?_
  refine x_iconst 0 dX1_putCodeInto_16 (by decide) ?_
  refine x_iload_n dX1_putCodeInto_17 rfl ?_
  refine x_copyi (ti := 0) (ws' := [(aR, .inr (1, [.ref aRt, .ref aRc, .int (nI n), .int (nI cl.length), .int (nI a), .int ft])), (aRc, .inl (g.2.1 0, 60, .inl (coL cl f0))), (aSc, .inl (g.2.1 0, 60, .inl (va_cpy (coL cl f0) co 0 0 cl.length)))]) (sp := 0) (dp := 0) (n := cl.length) dX1_putCodeInto_18 ml_X1_32 1 2 rfl rfl rfl rfl rfl (rfl) (rfl) (rfl) (by omega) (by omega) ⟨by decide, by decide⟩ (fun _ _ => rfl) (Nat.le_of_ble_eq_true rfl) (by decide) rfl ?_
  refine x_funi (ws' := [(aR, .inr (1, [.ref aRt, .ref aRc, .int (nI n), .int (nI cl.length), .int (nI a), .int ft])), (aRc, .inl (g.2.1 0, 60, .inl (coL cl f0))), (aSc, .inl (g.2.1 0, 60, .inl (coL cl co)))]) (q0 := 2) rfl (fun j _ => congrFun (cpy_code cl f0 co) j) rfl ?_
  refine x_iload_n dX1_putCodeInto_21 rfl ?_
  rw [← hQ]
  refine x_iret dX1_putCodeInto_22 rfl (Nat.le_of_ble_eq_true rfl) (Nat.le_of_ble_eq_true rfl) ?_
  exact ⟨rfl, rfl⟩

-- == alone_b ==
theorem dX8_alone_0 : xd cX8_alone 0 (.iload_n 1) 1 1 := ⟨by decide +kernel, rfl⟩
theorem dX8_alone_1 : xd cX8_alone 1 (.iconst 0) 1 2 := ⟨by decide +kernel, rfl⟩
theorem dX8_alone_2 : xd cX8_alone 2 (.iconst 1) 1 3 := ⟨by decide +kernel, rfl⟩
theorem dX8_alone_3 : xd cX8_alone 3 (.invokestatic 89) 3 6 := ⟨by decide +kernel, rfl⟩
theorem dX8_alone_6 : xj cX8_alone 6 (.ifCond .ne) 9 15 := ⟨9, by decide +kernel, rfl, by decide⟩
theorem dX8_alone_9 : xd cX8_alone 9 (.aload_n 0) 1 10 := ⟨by decide +kernel, rfl⟩
theorem dX8_alone_10 : xd cX8_alone 10 (.iconst 0) 1 11 := ⟨by decide +kernel, rfl⟩
theorem dX8_alone_11 : xd cX8_alone 11 (.invokevirtual 79) 3 14 := ⟨by decide +kernel, rfl⟩
theorem dX8_alone_14 : xd cX8_alone 14 .ireturn 1 15 := ⟨by decide +kernel, rfl⟩
theorem dX8_alone_15 : xd cX8_alone 15 (.aload_n 0) 1 16 := ⟨by decide +kernel, rfl⟩
theorem dX8_alone_16 : xd cX8_alone 16 (.getfield 36) 3 19 := ⟨by decide +kernel, rfl⟩
theorem dX8_alone_19 : xd cX8_alone 19 (.invokevirtual 114) 3 22 := ⟨by decide +kernel, rfl⟩
theorem dX8_alone_22 : xd cX8_alone 22 (.iconst (-1)) 1 23 := ⟨by decide +kernel, rfl⟩
theorem dX8_alone_23 : xd cX8_alone 23 (.istore_n 2) 1 24 := ⟨by decide +kernel, rfl⟩
theorem dX8_alone_24 : xd cX8_alone 24 (.iconst 0) 1 25 := ⟨by decide +kernel, rfl⟩
theorem dX8_alone_25 : xd cX8_alone 25 (.istore_n 3) 1 26 := ⟨by decide +kernel, rfl⟩
theorem dX8_alone_26 : xd cX8_alone 26 (.sipush 494) 3 29 := ⟨by decide +kernel, rfl⟩
theorem dX8_alone_29 : xd cX8_alone 29 (.istore 4) 2 31 := ⟨by decide +kernel, rfl⟩
theorem dX8_alone_31 : xd cX8_alone 31 (.iload 4) 2 33 := ⟨by decide +kernel, rfl⟩
theorem dX8_alone_33 : xj cX8_alone 33 (.ifCond .lt) 36 61 := ⟨28, by decide +kernel, rfl, by decide⟩
theorem dX8_alone_36 : xd cX8_alone 36 (.aload_n 0) 1 37 := ⟨by decide +kernel, rfl⟩
theorem dX8_alone_37 : xd cX8_alone 37 (.getfield 36) 3 40 := ⟨by decide +kernel, rfl⟩
theorem dX8_alone_40 : xd cX8_alone 40 (.getfield 121) 3 43 := ⟨by decide +kernel, rfl⟩
theorem dX8_alone_43 : xd cX8_alone 43 (.iload 4) 2 45 := ⟨by decide +kernel, rfl⟩
theorem dX8_alone_45 : xd cX8_alone 45 .iaload 1 46 := ⟨by decide +kernel, rfl⟩
theorem dX8_alone_46 : xj cX8_alone 46 (.ifCond .ne) 49 55 := ⟨9, by decide +kernel, rfl, by decide⟩
theorem dX8_alone_49 : xd cX8_alone 49 (.iload 4) 2 51 := ⟨by decide +kernel, rfl⟩
theorem dX8_alone_51 : xd cX8_alone 51 (.istore_n 2) 1 52 := ⟨by decide +kernel, rfl⟩
theorem dX8_alone_52 : xd cX8_alone 52 (.iinc 3 1) 3 55 := ⟨by decide +kernel, rfl⟩
theorem dX8_alone_55 : xd cX8_alone 55 (.iinc 4 (-1)) 3 58 := ⟨by decide +kernel, rfl⟩
theorem dX8_alone_58 : xj cX8_alone 58 .goto 61 31 := ⟨(-27), by decide +kernel, rfl, by decide⟩
theorem dX8_alone_61 : xd cX8_alone 61 (.iload_n 1) 1 62 := ⟨by decide +kernel, rfl⟩
theorem dX8_alone_62 : xj cX8_alone 62 (.ifCond .ne) 65 67 := ⟨5, by decide +kernel, rfl, by decide⟩
theorem dX8_alone_65 : xd cX8_alone 65 (.iload_n 3) 1 66 := ⟨by decide +kernel, rfl⟩
theorem dX8_alone_66 : xd cX8_alone 66 .ireturn 1 67 := ⟨by decide +kernel, rfl⟩
theorem dX8_alone_67 : xd cX8_alone 67 (.iload_n 2) 1 68 := ⟨by decide +kernel, rfl⟩
theorem dX8_alone_68 : xj cX8_alone 68 (.ifCond .lt) 71 75 := ⟨7, by decide +kernel, rfl, by decide⟩
theorem dX8_alone_71 : xd cX8_alone 71 (.iload_n 2) 1 72 := ⟨by decide +kernel, rfl⟩
theorem dX8_alone_72 : xj cX8_alone 72 .goto 75 80 := ⟨8, by decide +kernel, rfl, by decide⟩
theorem dX8_alone_75 : xd cX8_alone 75 (.aload_n 0) 1 76 := ⟨by decide +kernel, rfl⟩
theorem dX8_alone_76 : xd cX8_alone 76 (.iconst 3) 1 77 := ⟨by decide +kernel, rfl⟩
theorem dX8_alone_77 : xd cX8_alone 77 (.invokevirtual 79) 3 80 := ⟨by decide +kernel, rfl⟩
theorem dX8_alone_80 : xd cX8_alone 80 .ireturn 1 81 := ⟨by decide +kernel, rfl⟩

set_option maxRecDepth 100000 in
set_option maxHeartbeats 4000000 in
theorem ct_alone_b (l : Launch) (g : XG) (aM aS aK aL aC aW aR aT aH aF : Nat) (ts : Nat) (kp : Int32) (aSk aSm aSp aSt aSc aSr aSe gr br cs wk : Nat) (z : Int32) (fi : Nat → Nat) (wh : Int32) (hb : wI wh 0 1 = 0) : Ct l g 32 0 0 yX8_alone cX8_alone 5 (some .int) [.ref aM, .int wh] [(aM, .inr (8, [.ref aS, .ref aK, .ref aL, .ref aC, .ref aW, .ref aR, .ref aT, .ref aH, .ref aF, .int (nI ts), .int kp])), (aF, .inl (g.2.1 0, 7, .inl (nIf fi))), (aS, .inr (6, [.ref aSk, .ref aSm, .ref aSp, .ref aSt, .ref aSc, .ref aSr, .ref aSe, .int (nI gr), .int (nI br), .int (nI cs), .int (nI wk), .int z]))] (xpi (fndI 0) [(aM, .inr (8, [.ref aS, .ref aK, .ref aL, .ref aC, .ref aW, .ref aR, .ref aT, .ref aH, .ref aF, .int (nI ts), .int kp])), (aF, .inl (g.2.1 0, 7, .inl (nIf (updN fi 0 (fi 0 + 1))))), (aS, .inr (6, [.ref aSk, .ref aSm, .ref aSp, .ref aSt, .ref aSc, .ref aSr, .ref aSe, .int (nI gr), .int (nI br), .int (nI cs), .int (nI wk), .int z]))]) := by
  refine Ct.ofX (lv := [some (.ref aM), some (.int wh), none, none, none]) (by decide) rfl (Nat.le_of_ble_eq_true rfl) (fun κ => ?_)
  generalize hQ : xQ κ g 0 0 _ = Q
  refine x_iload_n dX8_alone_0 rfl ?_
  refine x_iconst 0 dX8_alone_1 (by decide) ?_
  refine x_iconst 1 dX8_alone_2 (by decide) ?_
  refine x_cSi dX8_alone_3 ml_X8_89 mX8_within (ct_X8_within κ.2.1 g wh 0 1) rfl (Nat.le_of_ble_eq_true rfl) (by decide) (Nat.le_refl _) (Nat.le_refl _) ?_
  refine x_if_ne dX8_alone_6 (fun c6 => ?_) (fun c6 => ?_)
  · have c6 : ¬ ((wI wh 0 1) = 0) := c6
    exact absurd hb c6
  · have c6 : (wI wh 0 1) = 0 := c6
    refine x_aload_n dX8_alone_9 rfl ?_
    refine x_iconst 0 dX8_alone_10 (by decide) ?_
    refine x_cVi (ws' := [(aM, .inr (8, [.ref aS, .ref aK, .ref aL, .ref aC, .ref aW, .ref aR, .ref aT, .ref aH, .ref aF, .int (nI ts), .int kp])), (aF, .inl (g.2.1 0, 7, .inl (nIf (updN fi 0 (fi 0 + 1))))), (aS, .inr (6, [.ref aSk, .ref aSm, .ref aSp, .ref aSt, .ref aSc, .ref aSr, .ref aSe, .int (nI gr), .int (nI br), .int (nI cs), .int (nI wk), .int z]))]) dX8_alone_11 ml_X8_79 mX8_tell (ct_X8_tell κ.2.1 g aM aS aK aL aC aW aR aT aH aF ts kp fi 0 (by decide)) [0, 1] rfl rfl 0 rfl rfl rfl (Nat.le_of_ble_eq_true rfl) (by decide) (Nat.le_refl _) (Nat.le_refl _) (rfl : [aM, aF] = [aM, aF]) rfl ?_
    rw [← hQ]
    refine x_iret dX8_alone_14 rfl (Nat.le_of_ble_eq_true rfl) (Nat.le_of_ble_eq_true rfl) ?_
    exact ⟨rfl, rfl⟩

-- == alone_0 ==
set_option maxRecDepth 100000 in
set_option maxHeartbeats 4000000 in
theorem ct_alone_0 (l : Launch) (g : XG) (aM aK aW aR aT aH aF ts : Nat) (kp : Int32) (aC aS aL aV aO aCs aCl aCh aCw aCc aCb tot lat : Nat) (se sw : Int32) (aLb aLp aVs aSk aSm aSp aSt aSc aSr aSe gr br cs wk : Nat) (z : Int32) (sd li cr ki ma bp bt : Nat → Nat) (co ce sk : Nat → Int32) (V : Nat → Int32) (L : Nat) (fi : Nat → Nat) (hgr : gr ≤ 12) (hbr : br ≤ 40) (hcs : cs ≤ 60) (hwk : wk ≤ 40) (hki : ∀ j, ki j ≤ 7) (hma : ∀ j, ma j ≤ 99999) (hbp : ∀ j, bp j < 495) (hlat : latI ce wk = nI L) (hL : L < 4096) (hV : cs ≠ 0 → ∀ p, p < 495 → evR (nmI wk L p) (cdF co 0 cs) [] = some [V p]) (hse : se = 0 ∨ (se = 1 ∧ sd = sdF cs V ∧ cr = crF gr ki ma bp bt br L (sdF cs V) ∧ tot = totF gr ki ma bp bt br L (sdF cs V) ∧ lat = L)) : Ct l g 32 0 0 yX8_alone cX8_alone 5 (some .int) [.ref aM, .int 0] [(aM, .inr (8, [.ref aS, .ref aK, .ref aL, .ref aC, .ref aW, .ref aR, .ref aT, .ref aH, .ref aF, .int (nI ts), .int kp])), (aF, .inl (g.2.1 0, 7, .inl (nIf fi))), (aC, .inr (0, [.ref aS, .ref aL, .ref aV, .ref aO, .ref aCs, .ref aCl, .ref aCh, .ref aCw, .ref aCc, .ref aCb, .int (nI tot), .int (nI lat), .int se, .int sw])), (aCs, .inl (g.2.1 0, 495, .inl (nIf sd))), (aCl, .inl (g.2.1 0, 495, .inl (nIf li))), (aCc, .inl (g.2.1 0, 495, .inl (nIf cr))), (aL, .inr (5, [.ref aLb, .ref aLp])), (aLb, .inl (g.2.1 0, 495, .inl (nIf rowB))), (aLp, .inl (g.2.1 0, 495, .inl (nIf packB))), (aV, .inr (2, [.ref aS, .ref aVs])), (aVs, .inl (g.2.1 0, 60, .inl sk)), (aS, .inr (6, [.ref aSk, .ref aSm, .ref aSp, .ref aSt, .ref aSc, .ref aSr, .ref aSe, .int (nI gr), .int (nI br), .int (nI cs), .int (nI wk), .int z])), (aSk, .inl (g.2.1 0, 12, .inl (nIf ki))), (aSm, .inl (g.2.1 0, 12, .inl (nIf ma))), (aSp, .inl (g.2.1 0, 40, .inl (nIf bp))), (aSt, .inl (g.2.1 0, 40, .inl (nIf bt))), (aSc, .inl (g.2.1 0, 60, .inl co)), (aSe, .inl (g.2.1 0, 320, .inl ce))] (fun vv_ ww_ => ∃ (li2 : Nat → Nat) (sk2 : Nat → Int32), vv_ = some (.int (nI (alC (crF gr ki ma bp bt br L (sdF cs V)) 495))) ∧ ww_ = [(aM, .inr (8, [.ref aS, .ref aK, .ref aL, .ref aC, .ref aW, .ref aR, .ref aT, .ref aH, .ref aF, .int (nI ts), .int kp])), (aF, .inl (g.2.1 0, 7, .inl (nIf fi))), (aC, .inr (0, [.ref aS, .ref aL, .ref aV, .ref aO, .ref aCs, .ref aCl, .ref aCh, .ref aCw, .ref aCc, .ref aCb, .int (nI (totF gr ki ma bp bt br L (sdF cs V))), .int (nI L), .int 1, .int sw])), (aCs, .inl (g.2.1 0, 495, .inl (nIf (sdF cs V)))), (aCl, .inl (g.2.1 0, 495, .inl (nIf li2))), (aCc, .inl (g.2.1 0, 495, .inl (nIf (crF gr ki ma bp bt br L (sdF cs V))))), (aL, .inr (5, [.ref aLb, .ref aLp])), (aLb, .inl (g.2.1 0, 495, .inl (nIf rowB))), (aLp, .inl (g.2.1 0, 495, .inl (nIf packB))), (aV, .inr (2, [.ref aS, .ref aVs])), (aVs, .inl (g.2.1 0, 60, .inl sk2)), (aS, .inr (6, [.ref aSk, .ref aSm, .ref aSp, .ref aSt, .ref aSc, .ref aSr, .ref aSe, .int (nI gr), .int (nI br), .int (nI cs), .int (nI wk), .int z])), (aSk, .inl (g.2.1 0, 12, .inl (nIf ki))), (aSm, .inl (g.2.1 0, 12, .inl (nIf ma))), (aSp, .inl (g.2.1 0, 40, .inl (nIf bp))), (aSt, .inl (g.2.1 0, 40, .inl (nIf bt))), (aSc, .inl (g.2.1 0, 60, .inl co)), (aSe, .inl (g.2.1 0, 320, .inl ce))]) := by
  refine Ct.ofX (lv := [some (.ref aM), some (.int 0), none, none, none]) (by decide) rfl (Nat.le_of_ble_eq_true rfl) (fun κ => ?_)
  generalize hQ : xQ κ g 0 0 _ = Q
  refine x_iload_n dX8_alone_0 rfl ?_
  refine x_iconst 0 dX8_alone_1 (by decide) ?_
  refine x_iconst 1 dX8_alone_2 (by decide) ?_
  refine x_cSi dX8_alone_3 ml_X8_89 mX8_within (ct_within_n κ.2.1 g 0 0 1 (⟨by omega, by omega, by omega, by omega⟩)) rfl (Nat.le_of_ble_eq_true rfl) (by decide) (Nat.le_refl _) (Nat.le_refl _) ?_
  refine x_if_ne dX8_alone_6 (fun c6 => ?_) (fun c6 => ?_)
  rotate_left
  · exact absurd c6 (by decide)
  refine x_aload_n dX8_alone_15 rfl ?_
  refine x_get dX8_alone_16 0 3 inX8 fl_X8_36 rfl rfl (by decide) rfl ?_
  refine x_callV dX8_alone_19 ml_X8_114 mX0_settle (ct_X0_settle κ.2.1 g aC aS aL aV aO aCs aCl aCh aCw aCc aCb tot lat se sw aLb aLp aVs aSk aSm aSp aSt aSc aSr aSe gr br cs wk z sd li cr ki ma bp bt co ce sk V L (hgr) (hbr) (hcs) (hwk) (hki) (hma) (hbp) (hlat) (hL) (hV) (hse)) [2, 3, 4, 5, 6, 7, 8, 9, 10, 11, 12, 13, 14, 15, 16, 17] rfl rfl 2 rfl rfl rfl (Nat.le_of_ble_eq_true rfl) (by decide) (Nat.le_refl _) (Nat.le_refl _) (fun vv ww hp => ?_)
  obtain ⟨z1, z2, rfl, rfl⟩ := hp
  refine ⟨(rfl : [aC, aCs, aCl, aCc, aL, aLb, aLp, aV, aVs, aS, aSk, aSm, aSp, aSt, aSc, aSe] = [aC, aCs, aCl, aCc, aL, aLb, aLp, aV, aVs, aS, aSk, aSm, aSp, aSt, aSc, aSe]), x_eq (lv' := [some (.ref aM), some (.int 0), none, none, none]) (st' := []) (ws' := [(aM, .inr (8, [.ref aS, .ref aK, .ref aL, .ref aC, .ref aW, .ref aR, .ref aT, .ref aH, .ref aF, .int (nI ts), .int kp])), (aF, .inl (g.2.1 0, 7, .inl (nIf fi))), (aC, .inr (0, [.ref aS, .ref aL, .ref aV, .ref aO, .ref aCs, .ref aCl, .ref aCh, .ref aCw, .ref aCc, .ref aCb, .int (nI (totF gr ki ma bp bt br L (sdF cs V))), .int (nI L), .int 1, .int sw])), (aCs, .inl (g.2.1 0, 495, .inl (nIf (sdF cs V)))), (aCl, .inl (g.2.1 0, 495, .inl (nIf z1))), (aCc, .inl (g.2.1 0, 495, .inl (nIf (crF gr ki ma bp bt br L (sdF cs V))))), (aL, .inr (5, [.ref aLb, .ref aLp])), (aLb, .inl (g.2.1 0, 495, .inl (nIf rowB))), (aLp, .inl (g.2.1 0, 495, .inl (nIf packB))), (aV, .inr (2, [.ref aS, .ref aVs])), (aVs, .inl (g.2.1 0, 60, .inl z2)), (aS, .inr (6, [.ref aSk, .ref aSm, .ref aSp, .ref aSt, .ref aSc, .ref aSr, .ref aSe, .int (nI gr), .int (nI br), .int (nI cs), .int (nI wk), .int z])), (aSk, .inl (g.2.1 0, 12, .inl (nIf ki))), (aSm, .inl (g.2.1 0, 12, .inl (nIf ma))), (aSp, .inl (g.2.1 0, 40, .inl (nIf bp))), (aSt, .inl (g.2.1 0, 40, .inl (nIf bt))), (aSc, .inl (g.2.1 0, 60, .inl co)), (aSe, .inl (g.2.1 0, 320, .inl ce))]) ?_ rfl rfl rfl⟩
  refine x_iconst (-1) dX8_alone_22 (by decide) ?_
  refine x_istore_n (lv' := [some (.ref aM), some (.int 0), some (.int ((-1))), none, none]) dX8_alone_23 (xlt rfl) rfl ?_
  refine x_iconst 0 dX8_alone_24 (by decide) ?_
  refine x_istore_n (lv' := [some (.ref aM), some (.int 0), some (.int ((-1))), some (.int 0), none]) dX8_alone_25 (xlt rfl) rfl ?_
  refine x_sipush 494 dX8_alone_26 (by decide) ?_
  refine x_istore (lv' := [some (.ref aM), some (.int 0), some (.int ((-1))), some (.int 0), some (.int 494)]) dX8_alone_29 (xlt rfl) rfl ?_
  have L31_3 : ∀ (i : Nat), i ≤ 495 → ∀ (fq : Int32), fq = alA (crF gr ki ma bp bt br L (sdF cs V)) i → ∀ (nq : Nat), nq = alC (crF gr ki ma bp bt br L (sdF cs V)) i → ∀ (pq : Int32), pq = nI (495 - i) + (-1) → Xs κ g 32 0 0 cX8_alone yX8_alone (some .int) Q 0 0 31 [some (.ref aM), some (.int 0), some (.int fq), some (.int (nI nq)), some (.int pq)] [] [(aM, .inr (8, [.ref aS, .ref aK, .ref aL, .ref aC, .ref aW, .ref aR, .ref aT, .ref aH, .ref aF, .int (nI ts), .int kp])), (aF, .inl (g.2.1 0, 7, .inl (nIf fi))), (aC, .inr (0, [.ref aS, .ref aL, .ref aV, .ref aO, .ref aCs, .ref aCl, .ref aCh, .ref aCw, .ref aCc, .ref aCb, .int (nI (totF gr ki ma bp bt br L (sdF cs V))), .int (nI L), .int 1, .int sw])), (aCs, .inl (g.2.1 0, 495, .inl (nIf (sdF cs V)))), (aCl, .inl (g.2.1 0, 495, .inl (nIf z1))), (aCc, .inl (g.2.1 0, 495, .inl (nIf (crF gr ki ma bp bt br L (sdF cs V))))), (aL, .inr (5, [.ref aLb, .ref aLp])), (aLb, .inl (g.2.1 0, 495, .inl (nIf rowB))), (aLp, .inl (g.2.1 0, 495, .inl (nIf packB))), (aV, .inr (2, [.ref aS, .ref aVs])), (aVs, .inl (g.2.1 0, 60, .inl z2)), (aS, .inr (6, [.ref aSk, .ref aSm, .ref aSp, .ref aSt, .ref aSc, .ref aSr, .ref aSe, .int (nI gr), .int (nI br), .int (nI cs), .int (nI wk), .int z])), (aSk, .inl (g.2.1 0, 12, .inl (nIf ki))), (aSm, .inl (g.2.1 0, 12, .inl (nIf ma))), (aSp, .inl (g.2.1 0, 40, .inl (nIf bp))), (aSt, .inl (g.2.1 0, 40, .inl (nIf bt))), (aSc, .inl (g.2.1 0, 60, .inl co)), (aSe, .inl (g.2.1 0, 320, .inl ce))] := by
    refine upTo 495 (fun i hi31 ih31 => ?_)
    intro fq efq
    subst efq
    intro nq enq
    subst enq
    intro pq epq
    subst epq
    refine x_iload dX8_alone_31 rfl ?_
    rcases (by omega : i < 495 ∨ i = 495) with hlt | rfl
    · rw [al_mid hlt]
      refine x_eq (lv' := [some (.ref aM), some (.int 0), some (.int (alA (crF gr ki ma bp bt br L (sdF cs V)) i)), some (.int (nI ((alC (crF gr ki ma bp bt br L (sdF cs V)) i)))), some (.int (nI (494 - i)))]) (st' := [.int (nI (494 - i))]) (ws' := [(aM, .inr (8, [.ref aS, .ref aK, .ref aL, .ref aC, .ref aW, .ref aR, .ref aT, .ref aH, .ref aF, .int (nI ts), .int kp])), (aF, .inl (g.2.1 0, 7, .inl (nIf fi))), (aC, .inr (0, [.ref aS, .ref aL, .ref aV, .ref aO, .ref aCs, .ref aCl, .ref aCh, .ref aCw, .ref aCc, .ref aCb, .int (nI (totF gr ki ma bp bt br L (sdF cs V))), .int (nI L), .int 1, .int sw])), (aCs, .inl (g.2.1 0, 495, .inl (nIf (sdF cs V)))), (aCl, .inl (g.2.1 0, 495, .inl (nIf z1))), (aCc, .inl (g.2.1 0, 495, .inl (nIf (crF gr ki ma bp bt br L (sdF cs V))))), (aL, .inr (5, [.ref aLb, .ref aLp])), (aLb, .inl (g.2.1 0, 495, .inl (nIf rowB))), (aLp, .inl (g.2.1 0, 495, .inl (nIf packB))), (aV, .inr (2, [.ref aS, .ref aVs])), (aVs, .inl (g.2.1 0, 60, .inl z2)), (aS, .inr (6, [.ref aSk, .ref aSm, .ref aSp, .ref aSt, .ref aSc, .ref aSr, .ref aSe, .int (nI gr), .int (nI br), .int (nI cs), .int (nI wk), .int z])), (aSk, .inl (g.2.1 0, 12, .inl (nIf ki))), (aSm, .inl (g.2.1 0, 12, .inl (nIf ma))), (aSp, .inl (g.2.1 0, 40, .inl (nIf bp))), (aSt, .inl (g.2.1 0, 40, .inl (nIf bt))), (aSc, .inl (g.2.1 0, 60, .inl co)), (aSe, .inl (g.2.1 0, 320, .inl ce))]) ?_ rfl rfl rfl
      refine x_if_lt dX8_alone_33 (fun c33 => ?_) (fun c33 => ?_)
      · have c33 : (nI (494 - i)) < 0 := c33
        have c33n := (nI_ltI (a := (494 - i)) (b := 0) (by omega) (by omega)).mp c33
        exact absurd c33n (by omega)
      · have c33 : ¬ ((nI (494 - i)) < 0) := c33
        have c33n := mt (nI_ltI (a := (494 - i)) (b := 0) (by omega) (by omega)).mpr c33
        refine x_aload_n dX8_alone_36 rfl ?_
        refine x_get dX8_alone_37 0 3 inX8 fl_X8_36 rfl rfl (by decide) rfl ?_
        refine x_get dX8_alone_40 2 8 inX0 fl_X8_121 rfl rfl (by decide) rfl ?_
        refine x_iload dX8_alone_43 rfl ?_
        refine x_iald dX8_alone_45 5 (494 - i) rfl (rfl) (by omega) (by decide) ?_
        have J46_9 : ∀ (v7 : Int32), v7 = (if (nI ((crF gr ki ma bp bt br L (sdF cs V)) (494 - i))) = 0 then nI (494 - i) else alA (crF gr ki ma bp bt br L (sdF cs V)) i) → ∀ (v8 : Nat), v8 = (if (nI ((crF gr ki ma bp bt br L (sdF cs V)) (494 - i))) = 0 then (alC (crF gr ki ma bp bt br L (sdF cs V)) i) + 1 else (alC (crF gr ki ma bp bt br L (sdF cs V)) i)) → Xs κ g 32 0 0 cX8_alone yX8_alone (some .int) Q 0 0 55 [some (.ref aM), some (.int 0), some (.int v7), some (.int (nI v8)), some (.int (nI (494 - i)))] [] [(aM, .inr (8, [.ref aS, .ref aK, .ref aL, .ref aC, .ref aW, .ref aR, .ref aT, .ref aH, .ref aF, .int (nI ts), .int kp])), (aF, .inl (g.2.1 0, 7, .inl (nIf fi))), (aC, .inr (0, [.ref aS, .ref aL, .ref aV, .ref aO, .ref aCs, .ref aCl, .ref aCh, .ref aCw, .ref aCc, .ref aCb, .int (nI (totF gr ki ma bp bt br L (sdF cs V))), .int (nI L), .int 1, .int sw])), (aCs, .inl (g.2.1 0, 495, .inl (nIf (sdF cs V)))), (aCl, .inl (g.2.1 0, 495, .inl (nIf z1))), (aCc, .inl (g.2.1 0, 495, .inl (nIf (crF gr ki ma bp bt br L (sdF cs V))))), (aL, .inr (5, [.ref aLb, .ref aLp])), (aLb, .inl (g.2.1 0, 495, .inl (nIf rowB))), (aLp, .inl (g.2.1 0, 495, .inl (nIf packB))), (aV, .inr (2, [.ref aS, .ref aVs])), (aVs, .inl (g.2.1 0, 60, .inl z2)), (aS, .inr (6, [.ref aSk, .ref aSm, .ref aSp, .ref aSt, .ref aSc, .ref aSr, .ref aSe, .int (nI gr), .int (nI br), .int (nI cs), .int (nI wk), .int z])), (aSk, .inl (g.2.1 0, 12, .inl (nIf ki))), (aSm, .inl (g.2.1 0, 12, .inl (nIf ma))), (aSp, .inl (g.2.1 0, 40, .inl (nIf bp))), (aSt, .inl (g.2.1 0, 40, .inl (nIf bt))), (aSc, .inl (g.2.1 0, 60, .inl co)), (aSe, .inl (g.2.1 0, 320, .inl ce))] := by
          intro v7 ev7 v8 ev8
          refine x_iinc (lv' := [some (.ref aM), some (.int 0), some (.int v7), some (.int (nI v8)), some (.int (nI (494 - i) + (-1)))]) (nI (494 - i) + (-1)) dX8_alone_55 rfl (rfl) rfl ?_
          refine x_goto dX8_alone_58 ?_
          exact ih31 (by omega) _ (by simp only [ev7]; rfl) v8 (by simp only [ev8]; rfl) _ (by exact al_dn)
        refine x_if_ne dX8_alone_46 (fun c46 => ?_) (fun c46 => ?_)
        · have c46 : ¬ ((nI ((crF gr ki ma bp bt br L (sdF cs V)) (494 - i))) = 0) := c46
          exact J46_9 _ (if_neg c46).symm (alC (crF gr ki ma bp bt br L (sdF cs V)) i) (if_neg c46).symm
        · have c46 : (nI ((crF gr ki ma bp bt br L (sdF cs V)) (494 - i))) = 0 := c46
          refine x_iload dX8_alone_49 rfl ?_
          refine x_istore_n (lv' := [some (.ref aM), some (.int 0), some (.int (nI (494 - i))), some (.int (nI ((alC (crF gr ki ma bp bt br L (sdF cs V)) i)))), some (.int (nI (494 - i)))]) dX8_alone_51 (xlt rfl) rfl ?_
          refine x_iinc (lv' := [some (.ref aM), some (.int 0), some (.int (nI (494 - i))), some (.int (nI ((alC (crF gr ki ma bp bt br L (sdF cs V)) i) + 1))), some (.int (nI (494 - i)))]) (nI ((alC (crF gr ki ma bp bt br L (sdF cs V)) i) + 1)) dX8_alone_52 rfl (nI_addc ((alC (crF gr ki ma bp bt br L (sdF cs V)) i)) 1 rfl) rfl ?_
          exact J46_9 _ (if_pos c46).symm ((alC (crF gr ki ma bp bt br L (sdF cs V)) i) + 1) (if_pos c46).symm
    · skip
      refine x_eq (lv' := [some (.ref aM), some (.int 0), some (.int (alA (crF gr ki ma bp bt br L (sdF cs V)) 495)), some (.int (nI ((alC (crF gr ki ma bp bt br L (sdF cs V)) 495)))), some (.int ((-1)))]) (st' := [.int ((-1))]) (ws' := [(aM, .inr (8, [.ref aS, .ref aK, .ref aL, .ref aC, .ref aW, .ref aR, .ref aT, .ref aH, .ref aF, .int (nI ts), .int kp])), (aF, .inl (g.2.1 0, 7, .inl (nIf fi))), (aC, .inr (0, [.ref aS, .ref aL, .ref aV, .ref aO, .ref aCs, .ref aCl, .ref aCh, .ref aCw, .ref aCc, .ref aCb, .int (nI (totF gr ki ma bp bt br L (sdF cs V))), .int (nI L), .int 1, .int sw])), (aCs, .inl (g.2.1 0, 495, .inl (nIf (sdF cs V)))), (aCl, .inl (g.2.1 0, 495, .inl (nIf z1))), (aCc, .inl (g.2.1 0, 495, .inl (nIf (crF gr ki ma bp bt br L (sdF cs V))))), (aL, .inr (5, [.ref aLb, .ref aLp])), (aLb, .inl (g.2.1 0, 495, .inl (nIf rowB))), (aLp, .inl (g.2.1 0, 495, .inl (nIf packB))), (aV, .inr (2, [.ref aS, .ref aVs])), (aVs, .inl (g.2.1 0, 60, .inl z2)), (aS, .inr (6, [.ref aSk, .ref aSm, .ref aSp, .ref aSt, .ref aSc, .ref aSr, .ref aSe, .int (nI gr), .int (nI br), .int (nI cs), .int (nI wk), .int z])), (aSk, .inl (g.2.1 0, 12, .inl (nIf ki))), (aSm, .inl (g.2.1 0, 12, .inl (nIf ma))), (aSp, .inl (g.2.1 0, 40, .inl (nIf bp))), (aSt, .inl (g.2.1 0, 40, .inl (nIf bt))), (aSc, .inl (g.2.1 0, 60, .inl co)), (aSe, .inl (g.2.1 0, 320, .inl ce))]) ?_ rfl rfl rfl
      refine x_if_lt dX8_alone_33 (fun c33 => ?_) (fun c33 => ?_)
      rotate_left
      · exact absurd c33 (by decide)
      refine x_iload_n dX8_alone_61 rfl ?_
      refine x_if_ne dX8_alone_62 (fun c62 => ?_) (fun c62 => ?_)
      · exact absurd c62 (by decide)
      refine x_iload_n dX8_alone_65 rfl ?_
      rw [← hQ]
      refine x_iret dX8_alone_66 rfl (Nat.le_of_ble_eq_true rfl) (Nat.le_of_ble_eq_true rfl) ?_
      exact ⟨_, _, rfl, rfl⟩
  exact L31_3 0 (Nat.zero_le _) _ (by rfl) 0 (by rfl) _ (by decide)

-- == alone_1 ==
set_option maxRecDepth 100000 in
set_option maxHeartbeats 4000000 in
theorem ct_alone_1 (l : Launch) (g : XG) (aM aK aW aR aT aH aF ts : Nat) (kp : Int32) (aC aS aL aV aO aCs aCl aCh aCw aCc aCb tot lat : Nat) (se sw : Int32) (aLb aLp aVs aSk aSm aSp aSt aSc aSr aSe gr br cs wk : Nat) (z : Int32) (sd li cr ki ma bp bt : Nat → Nat) (co ce sk : Nat → Int32) (V : Nat → Int32) (L : Nat) (fi : Nat → Nat) (p : Nat) (hgr : gr ≤ 12) (hbr : br ≤ 40) (hcs : cs ≤ 60) (hwk : wk ≤ 40) (hki : ∀ j, ki j ≤ 7) (hma : ∀ j, ma j ≤ 99999) (hbp : ∀ j, bp j < 495) (hlat : latI ce wk = nI L) (hL : L < 4096) (hV : cs ≠ 0 → ∀ p, p < 495 → evR (nmI wk L p) (cdF co 0 cs) [] = some [V p]) (hse : se = 0 ∨ (se = 1 ∧ sd = sdF cs V ∧ cr = crF gr ki ma bp bt br L (sdF cs V) ∧ tot = totF gr ki ma bp bt br L (sdF cs V) ∧ lat = L)) (hp1 : p < 495) (hal : alA (crF gr ki ma bp bt br L (sdF cs V)) 495 = nI p) : Ct l g 32 0 0 yX8_alone cX8_alone 5 (some .int) [.ref aM, .int 1] [(aM, .inr (8, [.ref aS, .ref aK, .ref aL, .ref aC, .ref aW, .ref aR, .ref aT, .ref aH, .ref aF, .int (nI ts), .int kp])), (aF, .inl (g.2.1 0, 7, .inl (nIf fi))), (aC, .inr (0, [.ref aS, .ref aL, .ref aV, .ref aO, .ref aCs, .ref aCl, .ref aCh, .ref aCw, .ref aCc, .ref aCb, .int (nI tot), .int (nI lat), .int se, .int sw])), (aCs, .inl (g.2.1 0, 495, .inl (nIf sd))), (aCl, .inl (g.2.1 0, 495, .inl (nIf li))), (aCc, .inl (g.2.1 0, 495, .inl (nIf cr))), (aL, .inr (5, [.ref aLb, .ref aLp])), (aLb, .inl (g.2.1 0, 495, .inl (nIf rowB))), (aLp, .inl (g.2.1 0, 495, .inl (nIf packB))), (aV, .inr (2, [.ref aS, .ref aVs])), (aVs, .inl (g.2.1 0, 60, .inl sk)), (aS, .inr (6, [.ref aSk, .ref aSm, .ref aSp, .ref aSt, .ref aSc, .ref aSr, .ref aSe, .int (nI gr), .int (nI br), .int (nI cs), .int (nI wk), .int z])), (aSk, .inl (g.2.1 0, 12, .inl (nIf ki))), (aSm, .inl (g.2.1 0, 12, .inl (nIf ma))), (aSp, .inl (g.2.1 0, 40, .inl (nIf bp))), (aSt, .inl (g.2.1 0, 40, .inl (nIf bt))), (aSc, .inl (g.2.1 0, 60, .inl co)), (aSe, .inl (g.2.1 0, 320, .inl ce))] (fun vv_ ww_ => ∃ (li2 : Nat → Nat) (sk2 : Nat → Int32), vv_ = some (.int (nI p)) ∧ ww_ = [(aM, .inr (8, [.ref aS, .ref aK, .ref aL, .ref aC, .ref aW, .ref aR, .ref aT, .ref aH, .ref aF, .int (nI ts), .int kp])), (aF, .inl (g.2.1 0, 7, .inl (nIf fi))), (aC, .inr (0, [.ref aS, .ref aL, .ref aV, .ref aO, .ref aCs, .ref aCl, .ref aCh, .ref aCw, .ref aCc, .ref aCb, .int (nI (totF gr ki ma bp bt br L (sdF cs V))), .int (nI L), .int 1, .int sw])), (aCs, .inl (g.2.1 0, 495, .inl (nIf (sdF cs V)))), (aCl, .inl (g.2.1 0, 495, .inl (nIf li2))), (aCc, .inl (g.2.1 0, 495, .inl (nIf (crF gr ki ma bp bt br L (sdF cs V))))), (aL, .inr (5, [.ref aLb, .ref aLp])), (aLb, .inl (g.2.1 0, 495, .inl (nIf rowB))), (aLp, .inl (g.2.1 0, 495, .inl (nIf packB))), (aV, .inr (2, [.ref aS, .ref aVs])), (aVs, .inl (g.2.1 0, 60, .inl sk2)), (aS, .inr (6, [.ref aSk, .ref aSm, .ref aSp, .ref aSt, .ref aSc, .ref aSr, .ref aSe, .int (nI gr), .int (nI br), .int (nI cs), .int (nI wk), .int z])), (aSk, .inl (g.2.1 0, 12, .inl (nIf ki))), (aSm, .inl (g.2.1 0, 12, .inl (nIf ma))), (aSp, .inl (g.2.1 0, 40, .inl (nIf bp))), (aSt, .inl (g.2.1 0, 40, .inl (nIf bt))), (aSc, .inl (g.2.1 0, 60, .inl co)), (aSe, .inl (g.2.1 0, 320, .inl ce))]) := by
  refine Ct.ofX (lv := [some (.ref aM), some (.int 1), none, none, none]) (by decide) rfl (Nat.le_of_ble_eq_true rfl) (fun κ => ?_)
  generalize hQ : xQ κ g 0 0 _ = Q
  refine x_iload_n dX8_alone_0 rfl ?_
  refine x_iconst 0 dX8_alone_1 (by decide) ?_
  refine x_iconst 1 dX8_alone_2 (by decide) ?_
  refine x_cSi dX8_alone_3 ml_X8_89 mX8_within (ct_within_n κ.2.1 g 1 0 1 (⟨by omega, by omega, by omega, by omega⟩)) rfl (Nat.le_of_ble_eq_true rfl) (by decide) (Nat.le_refl _) (Nat.le_refl _) ?_
  refine x_if_ne dX8_alone_6 (fun c6 => ?_) (fun c6 => ?_)
  rotate_left
  · exact absurd c6 (by decide)
  refine x_aload_n dX8_alone_15 rfl ?_
  refine x_get dX8_alone_16 0 3 inX8 fl_X8_36 rfl rfl (by decide) rfl ?_
  refine x_callV dX8_alone_19 ml_X8_114 mX0_settle (ct_X0_settle κ.2.1 g aC aS aL aV aO aCs aCl aCh aCw aCc aCb tot lat se sw aLb aLp aVs aSk aSm aSp aSt aSc aSr aSe gr br cs wk z sd li cr ki ma bp bt co ce sk V L (hgr) (hbr) (hcs) (hwk) (hki) (hma) (hbp) (hlat) (hL) (hV) (hse)) [2, 3, 4, 5, 6, 7, 8, 9, 10, 11, 12, 13, 14, 15, 16, 17] rfl rfl 2 rfl rfl rfl (Nat.le_of_ble_eq_true rfl) (by decide) (Nat.le_refl _) (Nat.le_refl _) (fun vv ww hp => ?_)
  obtain ⟨z1, z2, rfl, rfl⟩ := hp
  refine ⟨(rfl : [aC, aCs, aCl, aCc, aL, aLb, aLp, aV, aVs, aS, aSk, aSm, aSp, aSt, aSc, aSe] = [aC, aCs, aCl, aCc, aL, aLb, aLp, aV, aVs, aS, aSk, aSm, aSp, aSt, aSc, aSe]), x_eq (lv' := [some (.ref aM), some (.int 1), none, none, none]) (st' := []) (ws' := [(aM, .inr (8, [.ref aS, .ref aK, .ref aL, .ref aC, .ref aW, .ref aR, .ref aT, .ref aH, .ref aF, .int (nI ts), .int kp])), (aF, .inl (g.2.1 0, 7, .inl (nIf fi))), (aC, .inr (0, [.ref aS, .ref aL, .ref aV, .ref aO, .ref aCs, .ref aCl, .ref aCh, .ref aCw, .ref aCc, .ref aCb, .int (nI (totF gr ki ma bp bt br L (sdF cs V))), .int (nI L), .int 1, .int sw])), (aCs, .inl (g.2.1 0, 495, .inl (nIf (sdF cs V)))), (aCl, .inl (g.2.1 0, 495, .inl (nIf z1))), (aCc, .inl (g.2.1 0, 495, .inl (nIf (crF gr ki ma bp bt br L (sdF cs V))))), (aL, .inr (5, [.ref aLb, .ref aLp])), (aLb, .inl (g.2.1 0, 495, .inl (nIf rowB))), (aLp, .inl (g.2.1 0, 495, .inl (nIf packB))), (aV, .inr (2, [.ref aS, .ref aVs])), (aVs, .inl (g.2.1 0, 60, .inl z2)), (aS, .inr (6, [.ref aSk, .ref aSm, .ref aSp, .ref aSt, .ref aSc, .ref aSr, .ref aSe, .int (nI gr), .int (nI br), .int (nI cs), .int (nI wk), .int z])), (aSk, .inl (g.2.1 0, 12, .inl (nIf ki))), (aSm, .inl (g.2.1 0, 12, .inl (nIf ma))), (aSp, .inl (g.2.1 0, 40, .inl (nIf bp))), (aSt, .inl (g.2.1 0, 40, .inl (nIf bt))), (aSc, .inl (g.2.1 0, 60, .inl co)), (aSe, .inl (g.2.1 0, 320, .inl ce))]) ?_ rfl rfl rfl⟩
  refine x_iconst (-1) dX8_alone_22 (by decide) ?_
  refine x_istore_n (lv' := [some (.ref aM), some (.int 1), some (.int ((-1))), none, none]) dX8_alone_23 (xlt rfl) rfl ?_
  refine x_iconst 0 dX8_alone_24 (by decide) ?_
  refine x_istore_n (lv' := [some (.ref aM), some (.int 1), some (.int ((-1))), some (.int 0), none]) dX8_alone_25 (xlt rfl) rfl ?_
  refine x_sipush 494 dX8_alone_26 (by decide) ?_
  refine x_istore (lv' := [some (.ref aM), some (.int 1), some (.int ((-1))), some (.int 0), some (.int 494)]) dX8_alone_29 (xlt rfl) rfl ?_
  have L31_3 : ∀ (i : Nat), i ≤ 495 → ∀ (fq : Int32), fq = alA (crF gr ki ma bp bt br L (sdF cs V)) i → ∀ (nq : Nat), nq = alC (crF gr ki ma bp bt br L (sdF cs V)) i → ∀ (pq : Int32), pq = nI (495 - i) + (-1) → Xs κ g 32 0 0 cX8_alone yX8_alone (some .int) Q 0 0 31 [some (.ref aM), some (.int 1), some (.int fq), some (.int (nI nq)), some (.int pq)] [] [(aM, .inr (8, [.ref aS, .ref aK, .ref aL, .ref aC, .ref aW, .ref aR, .ref aT, .ref aH, .ref aF, .int (nI ts), .int kp])), (aF, .inl (g.2.1 0, 7, .inl (nIf fi))), (aC, .inr (0, [.ref aS, .ref aL, .ref aV, .ref aO, .ref aCs, .ref aCl, .ref aCh, .ref aCw, .ref aCc, .ref aCb, .int (nI (totF gr ki ma bp bt br L (sdF cs V))), .int (nI L), .int 1, .int sw])), (aCs, .inl (g.2.1 0, 495, .inl (nIf (sdF cs V)))), (aCl, .inl (g.2.1 0, 495, .inl (nIf z1))), (aCc, .inl (g.2.1 0, 495, .inl (nIf (crF gr ki ma bp bt br L (sdF cs V))))), (aL, .inr (5, [.ref aLb, .ref aLp])), (aLb, .inl (g.2.1 0, 495, .inl (nIf rowB))), (aLp, .inl (g.2.1 0, 495, .inl (nIf packB))), (aV, .inr (2, [.ref aS, .ref aVs])), (aVs, .inl (g.2.1 0, 60, .inl z2)), (aS, .inr (6, [.ref aSk, .ref aSm, .ref aSp, .ref aSt, .ref aSc, .ref aSr, .ref aSe, .int (nI gr), .int (nI br), .int (nI cs), .int (nI wk), .int z])), (aSk, .inl (g.2.1 0, 12, .inl (nIf ki))), (aSm, .inl (g.2.1 0, 12, .inl (nIf ma))), (aSp, .inl (g.2.1 0, 40, .inl (nIf bp))), (aSt, .inl (g.2.1 0, 40, .inl (nIf bt))), (aSc, .inl (g.2.1 0, 60, .inl co)), (aSe, .inl (g.2.1 0, 320, .inl ce))] := by
    refine upTo 495 (fun i hi31 ih31 => ?_)
    intro fq efq
    subst efq
    intro nq enq
    subst enq
    intro pq epq
    subst epq
    refine x_iload dX8_alone_31 rfl ?_
    rcases (by omega : i < 495 ∨ i = 495) with hlt | rfl
    · rw [al_mid hlt]
      refine x_eq (lv' := [some (.ref aM), some (.int 1), some (.int (alA (crF gr ki ma bp bt br L (sdF cs V)) i)), some (.int (nI ((alC (crF gr ki ma bp bt br L (sdF cs V)) i)))), some (.int (nI (494 - i)))]) (st' := [.int (nI (494 - i))]) (ws' := [(aM, .inr (8, [.ref aS, .ref aK, .ref aL, .ref aC, .ref aW, .ref aR, .ref aT, .ref aH, .ref aF, .int (nI ts), .int kp])), (aF, .inl (g.2.1 0, 7, .inl (nIf fi))), (aC, .inr (0, [.ref aS, .ref aL, .ref aV, .ref aO, .ref aCs, .ref aCl, .ref aCh, .ref aCw, .ref aCc, .ref aCb, .int (nI (totF gr ki ma bp bt br L (sdF cs V))), .int (nI L), .int 1, .int sw])), (aCs, .inl (g.2.1 0, 495, .inl (nIf (sdF cs V)))), (aCl, .inl (g.2.1 0, 495, .inl (nIf z1))), (aCc, .inl (g.2.1 0, 495, .inl (nIf (crF gr ki ma bp bt br L (sdF cs V))))), (aL, .inr (5, [.ref aLb, .ref aLp])), (aLb, .inl (g.2.1 0, 495, .inl (nIf rowB))), (aLp, .inl (g.2.1 0, 495, .inl (nIf packB))), (aV, .inr (2, [.ref aS, .ref aVs])), (aVs, .inl (g.2.1 0, 60, .inl z2)), (aS, .inr (6, [.ref aSk, .ref aSm, .ref aSp, .ref aSt, .ref aSc, .ref aSr, .ref aSe, .int (nI gr), .int (nI br), .int (nI cs), .int (nI wk), .int z])), (aSk, .inl (g.2.1 0, 12, .inl (nIf ki))), (aSm, .inl (g.2.1 0, 12, .inl (nIf ma))), (aSp, .inl (g.2.1 0, 40, .inl (nIf bp))), (aSt, .inl (g.2.1 0, 40, .inl (nIf bt))), (aSc, .inl (g.2.1 0, 60, .inl co)), (aSe, .inl (g.2.1 0, 320, .inl ce))]) ?_ rfl rfl rfl
      refine x_if_lt dX8_alone_33 (fun c33 => ?_) (fun c33 => ?_)
      · have c33 : (nI (494 - i)) < 0 := c33
        have c33n := (nI_ltI (a := (494 - i)) (b := 0) (by omega) (by omega)).mp c33
        exact absurd c33n (by omega)
      · have c33 : ¬ ((nI (494 - i)) < 0) := c33
        have c33n := mt (nI_ltI (a := (494 - i)) (b := 0) (by omega) (by omega)).mpr c33
        refine x_aload_n dX8_alone_36 rfl ?_
        refine x_get dX8_alone_37 0 3 inX8 fl_X8_36 rfl rfl (by decide) rfl ?_
        refine x_get dX8_alone_40 2 8 inX0 fl_X8_121 rfl rfl (by decide) rfl ?_
        refine x_iload dX8_alone_43 rfl ?_
        refine x_iald dX8_alone_45 5 (494 - i) rfl (rfl) (by omega) (by decide) ?_
        have J46_9 : ∀ (v7 : Int32), v7 = (if (nI ((crF gr ki ma bp bt br L (sdF cs V)) (494 - i))) = 0 then nI (494 - i) else alA (crF gr ki ma bp bt br L (sdF cs V)) i) → ∀ (v8 : Nat), v8 = (if (nI ((crF gr ki ma bp bt br L (sdF cs V)) (494 - i))) = 0 then (alC (crF gr ki ma bp bt br L (sdF cs V)) i) + 1 else (alC (crF gr ki ma bp bt br L (sdF cs V)) i)) → Xs κ g 32 0 0 cX8_alone yX8_alone (some .int) Q 0 0 55 [some (.ref aM), some (.int 1), some (.int v7), some (.int (nI v8)), some (.int (nI (494 - i)))] [] [(aM, .inr (8, [.ref aS, .ref aK, .ref aL, .ref aC, .ref aW, .ref aR, .ref aT, .ref aH, .ref aF, .int (nI ts), .int kp])), (aF, .inl (g.2.1 0, 7, .inl (nIf fi))), (aC, .inr (0, [.ref aS, .ref aL, .ref aV, .ref aO, .ref aCs, .ref aCl, .ref aCh, .ref aCw, .ref aCc, .ref aCb, .int (nI (totF gr ki ma bp bt br L (sdF cs V))), .int (nI L), .int 1, .int sw])), (aCs, .inl (g.2.1 0, 495, .inl (nIf (sdF cs V)))), (aCl, .inl (g.2.1 0, 495, .inl (nIf z1))), (aCc, .inl (g.2.1 0, 495, .inl (nIf (crF gr ki ma bp bt br L (sdF cs V))))), (aL, .inr (5, [.ref aLb, .ref aLp])), (aLb, .inl (g.2.1 0, 495, .inl (nIf rowB))), (aLp, .inl (g.2.1 0, 495, .inl (nIf packB))), (aV, .inr (2, [.ref aS, .ref aVs])), (aVs, .inl (g.2.1 0, 60, .inl z2)), (aS, .inr (6, [.ref aSk, .ref aSm, .ref aSp, .ref aSt, .ref aSc, .ref aSr, .ref aSe, .int (nI gr), .int (nI br), .int (nI cs), .int (nI wk), .int z])), (aSk, .inl (g.2.1 0, 12, .inl (nIf ki))), (aSm, .inl (g.2.1 0, 12, .inl (nIf ma))), (aSp, .inl (g.2.1 0, 40, .inl (nIf bp))), (aSt, .inl (g.2.1 0, 40, .inl (nIf bt))), (aSc, .inl (g.2.1 0, 60, .inl co)), (aSe, .inl (g.2.1 0, 320, .inl ce))] := by
          intro v7 ev7 v8 ev8
          refine x_iinc (lv' := [some (.ref aM), some (.int 1), some (.int v7), some (.int (nI v8)), some (.int (nI (494 - i) + (-1)))]) (nI (494 - i) + (-1)) dX8_alone_55 rfl (rfl) rfl ?_
          refine x_goto dX8_alone_58 ?_
          exact ih31 (by omega) _ (by simp only [ev7]; rfl) v8 (by simp only [ev8]; rfl) _ (by exact al_dn)
        refine x_if_ne dX8_alone_46 (fun c46 => ?_) (fun c46 => ?_)
        · have c46 : ¬ ((nI ((crF gr ki ma bp bt br L (sdF cs V)) (494 - i))) = 0) := c46
          exact J46_9 _ (if_neg c46).symm (alC (crF gr ki ma bp bt br L (sdF cs V)) i) (if_neg c46).symm
        · have c46 : (nI ((crF gr ki ma bp bt br L (sdF cs V)) (494 - i))) = 0 := c46
          refine x_iload dX8_alone_49 rfl ?_
          refine x_istore_n (lv' := [some (.ref aM), some (.int 1), some (.int (nI (494 - i))), some (.int (nI ((alC (crF gr ki ma bp bt br L (sdF cs V)) i)))), some (.int (nI (494 - i)))]) dX8_alone_51 (xlt rfl) rfl ?_
          refine x_iinc (lv' := [some (.ref aM), some (.int 1), some (.int (nI (494 - i))), some (.int (nI ((alC (crF gr ki ma bp bt br L (sdF cs V)) i) + 1))), some (.int (nI (494 - i)))]) (nI ((alC (crF gr ki ma bp bt br L (sdF cs V)) i) + 1)) dX8_alone_52 rfl (nI_addc ((alC (crF gr ki ma bp bt br L (sdF cs V)) i)) 1 rfl) rfl ?_
          exact J46_9 _ (if_pos c46).symm ((alC (crF gr ki ma bp bt br L (sdF cs V)) i) + 1) (if_pos c46).symm
    · skip
      refine x_eq (lv' := [some (.ref aM), some (.int 1), some (.int (alA (crF gr ki ma bp bt br L (sdF cs V)) 495)), some (.int (nI ((alC (crF gr ki ma bp bt br L (sdF cs V)) 495)))), some (.int ((-1)))]) (st' := [.int ((-1))]) (ws' := [(aM, .inr (8, [.ref aS, .ref aK, .ref aL, .ref aC, .ref aW, .ref aR, .ref aT, .ref aH, .ref aF, .int (nI ts), .int kp])), (aF, .inl (g.2.1 0, 7, .inl (nIf fi))), (aC, .inr (0, [.ref aS, .ref aL, .ref aV, .ref aO, .ref aCs, .ref aCl, .ref aCh, .ref aCw, .ref aCc, .ref aCb, .int (nI (totF gr ki ma bp bt br L (sdF cs V))), .int (nI L), .int 1, .int sw])), (aCs, .inl (g.2.1 0, 495, .inl (nIf (sdF cs V)))), (aCl, .inl (g.2.1 0, 495, .inl (nIf z1))), (aCc, .inl (g.2.1 0, 495, .inl (nIf (crF gr ki ma bp bt br L (sdF cs V))))), (aL, .inr (5, [.ref aLb, .ref aLp])), (aLb, .inl (g.2.1 0, 495, .inl (nIf rowB))), (aLp, .inl (g.2.1 0, 495, .inl (nIf packB))), (aV, .inr (2, [.ref aS, .ref aVs])), (aVs, .inl (g.2.1 0, 60, .inl z2)), (aS, .inr (6, [.ref aSk, .ref aSm, .ref aSp, .ref aSt, .ref aSc, .ref aSr, .ref aSe, .int (nI gr), .int (nI br), .int (nI cs), .int (nI wk), .int z])), (aSk, .inl (g.2.1 0, 12, .inl (nIf ki))), (aSm, .inl (g.2.1 0, 12, .inl (nIf ma))), (aSp, .inl (g.2.1 0, 40, .inl (nIf bp))), (aSt, .inl (g.2.1 0, 40, .inl (nIf bt))), (aSc, .inl (g.2.1 0, 60, .inl co)), (aSe, .inl (g.2.1 0, 320, .inl ce))]) ?_ rfl rfl rfl
      refine x_if_lt dX8_alone_33 (fun c33 => ?_) (fun c33 => ?_)
      rotate_left
      · exact absurd c33 (by decide)
      refine x_iload_n dX8_alone_61 rfl ?_
      refine x_if_ne dX8_alone_62 (fun c62 => ?_) (fun c62 => ?_)
      rotate_left
      · exact absurd c62 (by decide)
      refine x_iload_n dX8_alone_67 rfl ?_
      refine x_rei (nI p) (hal) ?_
      refine x_if_lt dX8_alone_68 (fun c68 => ?_) (fun c68 => ?_)
      · have c68 : (nI p) < 0 := c68
        have c68n := (nI_ltI (a := p) (b := 0) (by omega) (by omega)).mp c68
        exact absurd c68n (by omega)
      · have c68 : ¬ ((nI p) < 0) := c68
        have c68n := mt (nI_ltI (a := p) (b := 0) (by omega) (by omega)).mpr c68
        refine x_iload_n dX8_alone_71 rfl ?_
        refine x_rei (nI p) (hal) ?_
        refine x_goto dX8_alone_72 ?_
        rw [← hQ]
        refine x_iret dX8_alone_80 rfl (Nat.le_of_ble_eq_true rfl) (Nat.le_of_ble_eq_true rfl) ?_
        exact ⟨_, _, rfl, rfl⟩
  exact L31_3 0 (Nat.zero_le _) _ (by rfl) 0 (by rfl) _ (by decide)

-- == alone_n ==
set_option maxRecDepth 100000 in
set_option maxHeartbeats 4000000 in
theorem ct_alone_n (l : Launch) (g : XG) (aM aK aW aR aT aH aF ts : Nat) (kp : Int32) (aC aS aL aV aO aCs aCl aCh aCw aCc aCb tot lat : Nat) (se sw : Int32) (aLb aLp aVs aSk aSm aSp aSt aSc aSr aSe gr br cs wk : Nat) (z : Int32) (sd li cr ki ma bp bt : Nat → Nat) (co ce sk : Nat → Int32) (V : Nat → Int32) (L : Nat) (fi : Nat → Nat) (hgr : gr ≤ 12) (hbr : br ≤ 40) (hcs : cs ≤ 60) (hwk : wk ≤ 40) (hki : ∀ j, ki j ≤ 7) (hma : ∀ j, ma j ≤ 99999) (hbp : ∀ j, bp j < 495) (hlat : latI ce wk = nI L) (hL : L < 4096) (hV : cs ≠ 0 → ∀ p, p < 495 → evR (nmI wk L p) (cdF co 0 cs) [] = some [V p]) (hse : se = 0 ∨ (se = 1 ∧ sd = sdF cs V ∧ cr = crF gr ki ma bp bt br L (sdF cs V) ∧ tot = totF gr ki ma bp bt br L (sdF cs V) ∧ lat = L)) (hal : alA (crF gr ki ma bp bt br L (sdF cs V)) 495 = -1) : Ct l g 32 0 0 yX8_alone cX8_alone 5 (some .int) [.ref aM, .int 1] [(aM, .inr (8, [.ref aS, .ref aK, .ref aL, .ref aC, .ref aW, .ref aR, .ref aT, .ref aH, .ref aF, .int (nI ts), .int kp])), (aF, .inl (g.2.1 0, 7, .inl (nIf fi))), (aC, .inr (0, [.ref aS, .ref aL, .ref aV, .ref aO, .ref aCs, .ref aCl, .ref aCh, .ref aCw, .ref aCc, .ref aCb, .int (nI tot), .int (nI lat), .int se, .int sw])), (aCs, .inl (g.2.1 0, 495, .inl (nIf sd))), (aCl, .inl (g.2.1 0, 495, .inl (nIf li))), (aCc, .inl (g.2.1 0, 495, .inl (nIf cr))), (aL, .inr (5, [.ref aLb, .ref aLp])), (aLb, .inl (g.2.1 0, 495, .inl (nIf rowB))), (aLp, .inl (g.2.1 0, 495, .inl (nIf packB))), (aV, .inr (2, [.ref aS, .ref aVs])), (aVs, .inl (g.2.1 0, 60, .inl sk)), (aS, .inr (6, [.ref aSk, .ref aSm, .ref aSp, .ref aSt, .ref aSc, .ref aSr, .ref aSe, .int (nI gr), .int (nI br), .int (nI cs), .int (nI wk), .int z])), (aSk, .inl (g.2.1 0, 12, .inl (nIf ki))), (aSm, .inl (g.2.1 0, 12, .inl (nIf ma))), (aSp, .inl (g.2.1 0, 40, .inl (nIf bp))), (aSt, .inl (g.2.1 0, 40, .inl (nIf bt))), (aSc, .inl (g.2.1 0, 60, .inl co)), (aSe, .inl (g.2.1 0, 320, .inl ce))] (fun vv_ ww_ => ∃ (li2 : Nat → Nat) (sk2 : Nat → Int32), vv_ = some (.int (fndI 3)) ∧ ww_ = [(aM, .inr (8, [.ref aS, .ref aK, .ref aL, .ref aC, .ref aW, .ref aR, .ref aT, .ref aH, .ref aF, .int (nI ts), .int kp])), (aF, .inl (g.2.1 0, 7, .inl (nIf (updN fi 3 (fi 3 + 1))))), (aC, .inr (0, [.ref aS, .ref aL, .ref aV, .ref aO, .ref aCs, .ref aCl, .ref aCh, .ref aCw, .ref aCc, .ref aCb, .int (nI (totF gr ki ma bp bt br L (sdF cs V))), .int (nI L), .int 1, .int sw])), (aCs, .inl (g.2.1 0, 495, .inl (nIf (sdF cs V)))), (aCl, .inl (g.2.1 0, 495, .inl (nIf li2))), (aCc, .inl (g.2.1 0, 495, .inl (nIf (crF gr ki ma bp bt br L (sdF cs V))))), (aL, .inr (5, [.ref aLb, .ref aLp])), (aLb, .inl (g.2.1 0, 495, .inl (nIf rowB))), (aLp, .inl (g.2.1 0, 495, .inl (nIf packB))), (aV, .inr (2, [.ref aS, .ref aVs])), (aVs, .inl (g.2.1 0, 60, .inl sk2)), (aS, .inr (6, [.ref aSk, .ref aSm, .ref aSp, .ref aSt, .ref aSc, .ref aSr, .ref aSe, .int (nI gr), .int (nI br), .int (nI cs), .int (nI wk), .int z])), (aSk, .inl (g.2.1 0, 12, .inl (nIf ki))), (aSm, .inl (g.2.1 0, 12, .inl (nIf ma))), (aSp, .inl (g.2.1 0, 40, .inl (nIf bp))), (aSt, .inl (g.2.1 0, 40, .inl (nIf bt))), (aSc, .inl (g.2.1 0, 60, .inl co)), (aSe, .inl (g.2.1 0, 320, .inl ce))]) := by
  refine Ct.ofX (lv := [some (.ref aM), some (.int 1), none, none, none]) (by decide) rfl (Nat.le_of_ble_eq_true rfl) (fun κ => ?_)
  generalize hQ : xQ κ g 0 0 _ = Q
  refine x_iload_n dX8_alone_0 rfl ?_
  refine x_iconst 0 dX8_alone_1 (by decide) ?_
  refine x_iconst 1 dX8_alone_2 (by decide) ?_
  refine x_cSi dX8_alone_3 ml_X8_89 mX8_within (ct_within_n κ.2.1 g 1 0 1 (⟨by omega, by omega, by omega, by omega⟩)) rfl (Nat.le_of_ble_eq_true rfl) (by decide) (Nat.le_refl _) (Nat.le_refl _) ?_
  refine x_if_ne dX8_alone_6 (fun c6 => ?_) (fun c6 => ?_)
  rotate_left
  · exact absurd c6 (by decide)
  refine x_aload_n dX8_alone_15 rfl ?_
  refine x_get dX8_alone_16 0 3 inX8 fl_X8_36 rfl rfl (by decide) rfl ?_
  refine x_callV dX8_alone_19 ml_X8_114 mX0_settle (ct_X0_settle κ.2.1 g aC aS aL aV aO aCs aCl aCh aCw aCc aCb tot lat se sw aLb aLp aVs aSk aSm aSp aSt aSc aSr aSe gr br cs wk z sd li cr ki ma bp bt co ce sk V L (hgr) (hbr) (hcs) (hwk) (hki) (hma) (hbp) (hlat) (hL) (hV) (hse)) [2, 3, 4, 5, 6, 7, 8, 9, 10, 11, 12, 13, 14, 15, 16, 17] rfl rfl 2 rfl rfl rfl (Nat.le_of_ble_eq_true rfl) (by decide) (Nat.le_refl _) (Nat.le_refl _) (fun vv ww hp => ?_)
  obtain ⟨z1, z2, rfl, rfl⟩ := hp
  refine ⟨(rfl : [aC, aCs, aCl, aCc, aL, aLb, aLp, aV, aVs, aS, aSk, aSm, aSp, aSt, aSc, aSe] = [aC, aCs, aCl, aCc, aL, aLb, aLp, aV, aVs, aS, aSk, aSm, aSp, aSt, aSc, aSe]), x_eq (lv' := [some (.ref aM), some (.int 1), none, none, none]) (st' := []) (ws' := [(aM, .inr (8, [.ref aS, .ref aK, .ref aL, .ref aC, .ref aW, .ref aR, .ref aT, .ref aH, .ref aF, .int (nI ts), .int kp])), (aF, .inl (g.2.1 0, 7, .inl (nIf fi))), (aC, .inr (0, [.ref aS, .ref aL, .ref aV, .ref aO, .ref aCs, .ref aCl, .ref aCh, .ref aCw, .ref aCc, .ref aCb, .int (nI (totF gr ki ma bp bt br L (sdF cs V))), .int (nI L), .int 1, .int sw])), (aCs, .inl (g.2.1 0, 495, .inl (nIf (sdF cs V)))), (aCl, .inl (g.2.1 0, 495, .inl (nIf z1))), (aCc, .inl (g.2.1 0, 495, .inl (nIf (crF gr ki ma bp bt br L (sdF cs V))))), (aL, .inr (5, [.ref aLb, .ref aLp])), (aLb, .inl (g.2.1 0, 495, .inl (nIf rowB))), (aLp, .inl (g.2.1 0, 495, .inl (nIf packB))), (aV, .inr (2, [.ref aS, .ref aVs])), (aVs, .inl (g.2.1 0, 60, .inl z2)), (aS, .inr (6, [.ref aSk, .ref aSm, .ref aSp, .ref aSt, .ref aSc, .ref aSr, .ref aSe, .int (nI gr), .int (nI br), .int (nI cs), .int (nI wk), .int z])), (aSk, .inl (g.2.1 0, 12, .inl (nIf ki))), (aSm, .inl (g.2.1 0, 12, .inl (nIf ma))), (aSp, .inl (g.2.1 0, 40, .inl (nIf bp))), (aSt, .inl (g.2.1 0, 40, .inl (nIf bt))), (aSc, .inl (g.2.1 0, 60, .inl co)), (aSe, .inl (g.2.1 0, 320, .inl ce))]) ?_ rfl rfl rfl⟩
  refine x_iconst (-1) dX8_alone_22 (by decide) ?_
  refine x_istore_n (lv' := [some (.ref aM), some (.int 1), some (.int ((-1))), none, none]) dX8_alone_23 (xlt rfl) rfl ?_
  refine x_iconst 0 dX8_alone_24 (by decide) ?_
  refine x_istore_n (lv' := [some (.ref aM), some (.int 1), some (.int ((-1))), some (.int 0), none]) dX8_alone_25 (xlt rfl) rfl ?_
  refine x_sipush 494 dX8_alone_26 (by decide) ?_
  refine x_istore (lv' := [some (.ref aM), some (.int 1), some (.int ((-1))), some (.int 0), some (.int 494)]) dX8_alone_29 (xlt rfl) rfl ?_
  have L31_3 : ∀ (i : Nat), i ≤ 495 → ∀ (fq : Int32), fq = alA (crF gr ki ma bp bt br L (sdF cs V)) i → ∀ (nq : Nat), nq = alC (crF gr ki ma bp bt br L (sdF cs V)) i → ∀ (pq : Int32), pq = nI (495 - i) + (-1) → Xs κ g 32 0 0 cX8_alone yX8_alone (some .int) Q 0 0 31 [some (.ref aM), some (.int 1), some (.int fq), some (.int (nI nq)), some (.int pq)] [] [(aM, .inr (8, [.ref aS, .ref aK, .ref aL, .ref aC, .ref aW, .ref aR, .ref aT, .ref aH, .ref aF, .int (nI ts), .int kp])), (aF, .inl (g.2.1 0, 7, .inl (nIf fi))), (aC, .inr (0, [.ref aS, .ref aL, .ref aV, .ref aO, .ref aCs, .ref aCl, .ref aCh, .ref aCw, .ref aCc, .ref aCb, .int (nI (totF gr ki ma bp bt br L (sdF cs V))), .int (nI L), .int 1, .int sw])), (aCs, .inl (g.2.1 0, 495, .inl (nIf (sdF cs V)))), (aCl, .inl (g.2.1 0, 495, .inl (nIf z1))), (aCc, .inl (g.2.1 0, 495, .inl (nIf (crF gr ki ma bp bt br L (sdF cs V))))), (aL, .inr (5, [.ref aLb, .ref aLp])), (aLb, .inl (g.2.1 0, 495, .inl (nIf rowB))), (aLp, .inl (g.2.1 0, 495, .inl (nIf packB))), (aV, .inr (2, [.ref aS, .ref aVs])), (aVs, .inl (g.2.1 0, 60, .inl z2)), (aS, .inr (6, [.ref aSk, .ref aSm, .ref aSp, .ref aSt, .ref aSc, .ref aSr, .ref aSe, .int (nI gr), .int (nI br), .int (nI cs), .int (nI wk), .int z])), (aSk, .inl (g.2.1 0, 12, .inl (nIf ki))), (aSm, .inl (g.2.1 0, 12, .inl (nIf ma))), (aSp, .inl (g.2.1 0, 40, .inl (nIf bp))), (aSt, .inl (g.2.1 0, 40, .inl (nIf bt))), (aSc, .inl (g.2.1 0, 60, .inl co)), (aSe, .inl (g.2.1 0, 320, .inl ce))] := by
    refine upTo 495 (fun i hi31 ih31 => ?_)
    intro fq efq
    subst efq
    intro nq enq
    subst enq
    intro pq epq
    subst epq
    refine x_iload dX8_alone_31 rfl ?_
    rcases (by omega : i < 495 ∨ i = 495) with hlt | rfl
    · rw [al_mid hlt]
      refine x_eq (lv' := [some (.ref aM), some (.int 1), some (.int (alA (crF gr ki ma bp bt br L (sdF cs V)) i)), some (.int (nI ((alC (crF gr ki ma bp bt br L (sdF cs V)) i)))), some (.int (nI (494 - i)))]) (st' := [.int (nI (494 - i))]) (ws' := [(aM, .inr (8, [.ref aS, .ref aK, .ref aL, .ref aC, .ref aW, .ref aR, .ref aT, .ref aH, .ref aF, .int (nI ts), .int kp])), (aF, .inl (g.2.1 0, 7, .inl (nIf fi))), (aC, .inr (0, [.ref aS, .ref aL, .ref aV, .ref aO, .ref aCs, .ref aCl, .ref aCh, .ref aCw, .ref aCc, .ref aCb, .int (nI (totF gr ki ma bp bt br L (sdF cs V))), .int (nI L), .int 1, .int sw])), (aCs, .inl (g.2.1 0, 495, .inl (nIf (sdF cs V)))), (aCl, .inl (g.2.1 0, 495, .inl (nIf z1))), (aCc, .inl (g.2.1 0, 495, .inl (nIf (crF gr ki ma bp bt br L (sdF cs V))))), (aL, .inr (5, [.ref aLb, .ref aLp])), (aLb, .inl (g.2.1 0, 495, .inl (nIf rowB))), (aLp, .inl (g.2.1 0, 495, .inl (nIf packB))), (aV, .inr (2, [.ref aS, .ref aVs])), (aVs, .inl (g.2.1 0, 60, .inl z2)), (aS, .inr (6, [.ref aSk, .ref aSm, .ref aSp, .ref aSt, .ref aSc, .ref aSr, .ref aSe, .int (nI gr), .int (nI br), .int (nI cs), .int (nI wk), .int z])), (aSk, .inl (g.2.1 0, 12, .inl (nIf ki))), (aSm, .inl (g.2.1 0, 12, .inl (nIf ma))), (aSp, .inl (g.2.1 0, 40, .inl (nIf bp))), (aSt, .inl (g.2.1 0, 40, .inl (nIf bt))), (aSc, .inl (g.2.1 0, 60, .inl co)), (aSe, .inl (g.2.1 0, 320, .inl ce))]) ?_ rfl rfl rfl
      refine x_if_lt dX8_alone_33 (fun c33 => ?_) (fun c33 => ?_)
      · have c33 : (nI (494 - i)) < 0 := c33
        have c33n := (nI_ltI (a := (494 - i)) (b := 0) (by omega) (by omega)).mp c33
        exact absurd c33n (by omega)
      · have c33 : ¬ ((nI (494 - i)) < 0) := c33
        have c33n := mt (nI_ltI (a := (494 - i)) (b := 0) (by omega) (by omega)).mpr c33
        refine x_aload_n dX8_alone_36 rfl ?_
        refine x_get dX8_alone_37 0 3 inX8 fl_X8_36 rfl rfl (by decide) rfl ?_
        refine x_get dX8_alone_40 2 8 inX0 fl_X8_121 rfl rfl (by decide) rfl ?_
        refine x_iload dX8_alone_43 rfl ?_
        refine x_iald dX8_alone_45 5 (494 - i) rfl (rfl) (by omega) (by decide) ?_
        have J46_9 : ∀ (v7 : Int32), v7 = (if (nI ((crF gr ki ma bp bt br L (sdF cs V)) (494 - i))) = 0 then nI (494 - i) else alA (crF gr ki ma bp bt br L (sdF cs V)) i) → ∀ (v8 : Nat), v8 = (if (nI ((crF gr ki ma bp bt br L (sdF cs V)) (494 - i))) = 0 then (alC (crF gr ki ma bp bt br L (sdF cs V)) i) + 1 else (alC (crF gr ki ma bp bt br L (sdF cs V)) i)) → Xs κ g 32 0 0 cX8_alone yX8_alone (some .int) Q 0 0 55 [some (.ref aM), some (.int 1), some (.int v7), some (.int (nI v8)), some (.int (nI (494 - i)))] [] [(aM, .inr (8, [.ref aS, .ref aK, .ref aL, .ref aC, .ref aW, .ref aR, .ref aT, .ref aH, .ref aF, .int (nI ts), .int kp])), (aF, .inl (g.2.1 0, 7, .inl (nIf fi))), (aC, .inr (0, [.ref aS, .ref aL, .ref aV, .ref aO, .ref aCs, .ref aCl, .ref aCh, .ref aCw, .ref aCc, .ref aCb, .int (nI (totF gr ki ma bp bt br L (sdF cs V))), .int (nI L), .int 1, .int sw])), (aCs, .inl (g.2.1 0, 495, .inl (nIf (sdF cs V)))), (aCl, .inl (g.2.1 0, 495, .inl (nIf z1))), (aCc, .inl (g.2.1 0, 495, .inl (nIf (crF gr ki ma bp bt br L (sdF cs V))))), (aL, .inr (5, [.ref aLb, .ref aLp])), (aLb, .inl (g.2.1 0, 495, .inl (nIf rowB))), (aLp, .inl (g.2.1 0, 495, .inl (nIf packB))), (aV, .inr (2, [.ref aS, .ref aVs])), (aVs, .inl (g.2.1 0, 60, .inl z2)), (aS, .inr (6, [.ref aSk, .ref aSm, .ref aSp, .ref aSt, .ref aSc, .ref aSr, .ref aSe, .int (nI gr), .int (nI br), .int (nI cs), .int (nI wk), .int z])), (aSk, .inl (g.2.1 0, 12, .inl (nIf ki))), (aSm, .inl (g.2.1 0, 12, .inl (nIf ma))), (aSp, .inl (g.2.1 0, 40, .inl (nIf bp))), (aSt, .inl (g.2.1 0, 40, .inl (nIf bt))), (aSc, .inl (g.2.1 0, 60, .inl co)), (aSe, .inl (g.2.1 0, 320, .inl ce))] := by
          intro v7 ev7 v8 ev8
          refine x_iinc (lv' := [some (.ref aM), some (.int 1), some (.int v7), some (.int (nI v8)), some (.int (nI (494 - i) + (-1)))]) (nI (494 - i) + (-1)) dX8_alone_55 rfl (rfl) rfl ?_
          refine x_goto dX8_alone_58 ?_
          exact ih31 (by omega) _ (by simp only [ev7]; rfl) v8 (by simp only [ev8]; rfl) _ (by exact al_dn)
        refine x_if_ne dX8_alone_46 (fun c46 => ?_) (fun c46 => ?_)
        · have c46 : ¬ ((nI ((crF gr ki ma bp bt br L (sdF cs V)) (494 - i))) = 0) := c46
          exact J46_9 _ (if_neg c46).symm (alC (crF gr ki ma bp bt br L (sdF cs V)) i) (if_neg c46).symm
        · have c46 : (nI ((crF gr ki ma bp bt br L (sdF cs V)) (494 - i))) = 0 := c46
          refine x_iload dX8_alone_49 rfl ?_
          refine x_istore_n (lv' := [some (.ref aM), some (.int 1), some (.int (nI (494 - i))), some (.int (nI ((alC (crF gr ki ma bp bt br L (sdF cs V)) i)))), some (.int (nI (494 - i)))]) dX8_alone_51 (xlt rfl) rfl ?_
          refine x_iinc (lv' := [some (.ref aM), some (.int 1), some (.int (nI (494 - i))), some (.int (nI ((alC (crF gr ki ma bp bt br L (sdF cs V)) i) + 1))), some (.int (nI (494 - i)))]) (nI ((alC (crF gr ki ma bp bt br L (sdF cs V)) i) + 1)) dX8_alone_52 rfl (nI_addc ((alC (crF gr ki ma bp bt br L (sdF cs V)) i)) 1 rfl) rfl ?_
          exact J46_9 _ (if_pos c46).symm ((alC (crF gr ki ma bp bt br L (sdF cs V)) i) + 1) (if_pos c46).symm
    · skip
      refine x_eq (lv' := [some (.ref aM), some (.int 1), some (.int (alA (crF gr ki ma bp bt br L (sdF cs V)) 495)), some (.int (nI ((alC (crF gr ki ma bp bt br L (sdF cs V)) 495)))), some (.int ((-1)))]) (st' := [.int ((-1))]) (ws' := [(aM, .inr (8, [.ref aS, .ref aK, .ref aL, .ref aC, .ref aW, .ref aR, .ref aT, .ref aH, .ref aF, .int (nI ts), .int kp])), (aF, .inl (g.2.1 0, 7, .inl (nIf fi))), (aC, .inr (0, [.ref aS, .ref aL, .ref aV, .ref aO, .ref aCs, .ref aCl, .ref aCh, .ref aCw, .ref aCc, .ref aCb, .int (nI (totF gr ki ma bp bt br L (sdF cs V))), .int (nI L), .int 1, .int sw])), (aCs, .inl (g.2.1 0, 495, .inl (nIf (sdF cs V)))), (aCl, .inl (g.2.1 0, 495, .inl (nIf z1))), (aCc, .inl (g.2.1 0, 495, .inl (nIf (crF gr ki ma bp bt br L (sdF cs V))))), (aL, .inr (5, [.ref aLb, .ref aLp])), (aLb, .inl (g.2.1 0, 495, .inl (nIf rowB))), (aLp, .inl (g.2.1 0, 495, .inl (nIf packB))), (aV, .inr (2, [.ref aS, .ref aVs])), (aVs, .inl (g.2.1 0, 60, .inl z2)), (aS, .inr (6, [.ref aSk, .ref aSm, .ref aSp, .ref aSt, .ref aSc, .ref aSr, .ref aSe, .int (nI gr), .int (nI br), .int (nI cs), .int (nI wk), .int z])), (aSk, .inl (g.2.1 0, 12, .inl (nIf ki))), (aSm, .inl (g.2.1 0, 12, .inl (nIf ma))), (aSp, .inl (g.2.1 0, 40, .inl (nIf bp))), (aSt, .inl (g.2.1 0, 40, .inl (nIf bt))), (aSc, .inl (g.2.1 0, 60, .inl co)), (aSe, .inl (g.2.1 0, 320, .inl ce))]) ?_ rfl rfl rfl
      refine x_if_lt dX8_alone_33 (fun c33 => ?_) (fun c33 => ?_)
      rotate_left
      · exact absurd c33 (by decide)
      refine x_iload_n dX8_alone_61 rfl ?_
      refine x_if_ne dX8_alone_62 (fun c62 => ?_) (fun c62 => ?_)
      rotate_left
      · exact absurd c62 (by decide)
      refine x_iload_n dX8_alone_67 rfl ?_
      refine x_rei ((-1)) (hal) ?_
      refine x_if_lt dX8_alone_68 (fun c68 => ?_) (fun c68 => ?_)
      rotate_left
      · exact absurd c68 (by decide)
      refine x_aload_n dX8_alone_75 rfl ?_
      refine x_iconst 3 dX8_alone_76 (by decide) ?_
      refine x_cVi (ws' := [(aM, .inr (8, [.ref aS, .ref aK, .ref aL, .ref aC, .ref aW, .ref aR, .ref aT, .ref aH, .ref aF, .int (nI ts), .int kp])), (aF, .inl (g.2.1 0, 7, .inl (nIf (updN fi 3 (fi 3 + 1))))), (aC, .inr (0, [.ref aS, .ref aL, .ref aV, .ref aO, .ref aCs, .ref aCl, .ref aCh, .ref aCw, .ref aCc, .ref aCb, .int (nI (totF gr ki ma bp bt br L (sdF cs V))), .int (nI L), .int 1, .int sw])), (aCs, .inl (g.2.1 0, 495, .inl (nIf (sdF cs V)))), (aCl, .inl (g.2.1 0, 495, .inl (nIf z1))), (aCc, .inl (g.2.1 0, 495, .inl (nIf (crF gr ki ma bp bt br L (sdF cs V))))), (aL, .inr (5, [.ref aLb, .ref aLp])), (aLb, .inl (g.2.1 0, 495, .inl (nIf rowB))), (aLp, .inl (g.2.1 0, 495, .inl (nIf packB))), (aV, .inr (2, [.ref aS, .ref aVs])), (aVs, .inl (g.2.1 0, 60, .inl z2)), (aS, .inr (6, [.ref aSk, .ref aSm, .ref aSp, .ref aSt, .ref aSc, .ref aSr, .ref aSe, .int (nI gr), .int (nI br), .int (nI cs), .int (nI wk), .int z])), (aSk, .inl (g.2.1 0, 12, .inl (nIf ki))), (aSm, .inl (g.2.1 0, 12, .inl (nIf ma))), (aSp, .inl (g.2.1 0, 40, .inl (nIf bp))), (aSt, .inl (g.2.1 0, 40, .inl (nIf bt))), (aSc, .inl (g.2.1 0, 60, .inl co)), (aSe, .inl (g.2.1 0, 320, .inl ce))]) dX8_alone_77 ml_X8_79 mX8_tell (ct_X8_tell κ.2.1 g aM aS aK aL aC aW aR aT aH aF ts kp fi 3 (by decide)) [0, 1] rfl rfl 0 rfl rfl rfl (Nat.le_of_ble_eq_true rfl) (by decide) (Nat.le_refl _) (Nat.le_refl _) (rfl : [aM, aF] = [aM, aF]) rfl ?_
      rw [← hQ]
      refine x_iret dX8_alone_80 rfl (Nat.le_of_ble_eq_true rfl) (Nat.le_of_ble_eq_true rfl) ?_
      exact ⟨_, _, rfl, rfl⟩
  exact L31_3 0 (Nat.zero_le _) _ (by rfl) 0 (by rfl) _ (by decide)

-- == sheet_b ==
theorem dX8_sheet_0 : xd cX8_sheet 0 (.iload_n 1) 1 1 := ⟨by decide +kernel, rfl⟩
theorem dX8_sheet_1 : xd cX8_sheet 1 (.invokestatic 239) 3 4 := ⟨by decide +kernel, rfl⟩
theorem dX8_sheet_4 : xj cX8_sheet 4 (.ifCond .eq) 7 18 := ⟨14, by decide +kernel, rfl, by decide⟩
theorem dX8_sheet_7 : xd cX8_sheet 7 (.iload_n 2) 1 8 := ⟨by decide +kernel, rfl⟩
theorem dX8_sheet_8 : xj cX8_sheet 8 (.ifCond .eq) 11 24 := ⟨16, by decide +kernel, rfl, by decide⟩
theorem dX8_sheet_11 : xd cX8_sheet 11 (.iload_n 2) 1 12 := ⟨by decide +kernel, rfl⟩
theorem dX8_sheet_12 : xd cX8_sheet 12 (.invokestatic 242) 3 15 := ⟨by decide +kernel, rfl⟩
theorem dX8_sheet_15 : xj cX8_sheet 15 (.ifCond .ne) 18 24 := ⟨9, by decide +kernel, rfl, by decide⟩
theorem dX8_sheet_18 : xd cX8_sheet 18 (.aload_n 0) 1 19 := ⟨by decide +kernel, rfl⟩
theorem dX8_sheet_19 : xd cX8_sheet 19 (.iconst 0) 1 20 := ⟨by decide +kernel, rfl⟩
theorem dX8_sheet_20 : xd cX8_sheet 20 (.invokevirtual 79) 3 23 := ⟨by decide +kernel, rfl⟩
theorem dX8_sheet_23 : xd cX8_sheet 23 .ireturn 1 24 := ⟨by decide +kernel, rfl⟩
theorem dX8_sheet_24 : xd cX8_sheet 24 (.iload_n 3) 1 25 := ⟨by decide +kernel, rfl⟩
theorem dX8_sheet_25 : xj cX8_sheet 25 (.ifCond .ge) 28 35 := ⟨10, by decide +kernel, rfl, by decide⟩
theorem dX8_sheet_28 : xd cX8_sheet 28 (.aload_n 0) 1 29 := ⟨by decide +kernel, rfl⟩
theorem dX8_sheet_29 : xd cX8_sheet 29 (.bipush 6) 2 31 := ⟨by decide +kernel, rfl⟩
theorem dX8_sheet_31 : xd cX8_sheet 31 (.invokevirtual 79) 3 34 := ⟨by decide +kernel, rfl⟩
theorem dX8_sheet_34 : xd cX8_sheet 34 .ireturn 1 35 := ⟨by decide +kernel, rfl⟩
theorem dX8_sheet_35 : xd cX8_sheet 35 (.iload_n 3) 1 36 := ⟨by decide +kernel, rfl⟩
theorem dX8_sheet_36 : xd cX8_sheet 36 (.bipush 40) 2 38 := ⟨by decide +kernel, rfl⟩
theorem dX8_sheet_38 : xj cX8_sheet 38 (.if_icmp .le) 41 47 := ⟨9, by decide +kernel, rfl, by decide⟩
theorem dX8_sheet_41 : xd cX8_sheet 41 (.aload_n 0) 1 42 := ⟨by decide +kernel, rfl⟩
theorem dX8_sheet_42 : xd cX8_sheet 42 (.iconst 0) 1 43 := ⟨by decide +kernel, rfl⟩
theorem dX8_sheet_43 : xd cX8_sheet 43 (.invokevirtual 79) 3 46 := ⟨by decide +kernel, rfl⟩
theorem dX8_sheet_46 : xd cX8_sheet 46 .ireturn 1 47 := ⟨by decide +kernel, rfl⟩
theorem dX8_sheet_47 : xd cX8_sheet 47 (.aload_n 0) 1 48 := ⟨by decide +kernel, rfl⟩
theorem dX8_sheet_48 : xd cX8_sheet 48 (.getfield 62) 3 51 := ⟨by decide +kernel, rfl⟩
theorem dX8_sheet_51 : xd cX8_sheet 51 (.iload_n 1) 1 52 := ⟨by decide +kernel, rfl⟩
theorem dX8_sheet_52 : xd cX8_sheet 52 .aaload 1 53 := ⟨by decide +kernel, rfl⟩
theorem dX8_sheet_53 : xd cX8_sheet 53 (.iload_n 2) 1 54 := ⟨by decide +kernel, rfl⟩
theorem dX8_sheet_54 : xd cX8_sheet 54 (.iload_n 3) 1 55 := ⟨by decide +kernel, rfl⟩
theorem dX8_sheet_55 : xd cX8_sheet 55 (.invokevirtual 245) 3 58 := ⟨by decide +kernel, rfl⟩
theorem dX8_sheet_58 : xd cX8_sheet 58 .ireturn 1 59 := ⟨by decide +kernel, rfl⟩

set_option maxRecDepth 100000 in
set_option maxHeartbeats 4000000 in
theorem ct_sheet_b (l : Launch) (g : XG) (aM aS aK aL aC aW aR aT aH aF : Nat) (ts : Nat) (kp : Int32) (fi : Nat → Nat) (s bits n : Int32) (hb : wI s 0 3 = 0 ∨ (¬ bits = 0 ∧ wdI bits = 0)) : Ct l g 32 0 0 yX8_sheet cX8_sheet 4 (some .int) [.ref aM, .int s, .int bits, .int n] [(aM, .inr (8, [.ref aS, .ref aK, .ref aL, .ref aC, .ref aW, .ref aR, .ref aT, .ref aH, .ref aF, .int (nI ts), .int kp])), (aF, .inl (g.2.1 0, 7, .inl (nIf fi)))] (xpi (fndI 0) [(aM, .inr (8, [.ref aS, .ref aK, .ref aL, .ref aC, .ref aW, .ref aR, .ref aT, .ref aH, .ref aF, .int (nI ts), .int kp])), (aF, .inl (g.2.1 0, 7, .inl (nIf (updN fi 0 (fi 0 + 1)))))]) := by
  refine Ct.ofX (lv := [some (.ref aM), some (.int s), some (.int bits), some (.int n)]) (by decide) rfl (Nat.le_of_ble_eq_true rfl) (fun κ => ?_)
  generalize hQ : xQ κ g 0 0 _ = Q
  refine x_iload_n dX8_sheet_0 rfl ?_
  refine x_cSi dX8_sheet_1 ml_X8_239 mX8_isSheet (ct_X8_isSheet κ.2.1 g s) rfl (Nat.le_of_ble_eq_true rfl) (by decide) (Nat.le_refl _) (Nat.le_refl _) ?_
  refine x_if_eq dX8_sheet_4 (fun c4 => ?_) (fun c4 => ?_)
  · have c4 : (wI s 0 3) = 0 := c4
    refine x_aload_n dX8_sheet_18 rfl ?_
    refine x_iconst 0 dX8_sheet_19 (by decide) ?_
    refine x_cVi (ws' := [(aM, .inr (8, [.ref aS, .ref aK, .ref aL, .ref aC, .ref aW, .ref aR, .ref aT, .ref aH, .ref aF, .int (nI ts), .int kp])), (aF, .inl (g.2.1 0, 7, .inl (nIf (updN fi 0 (fi 0 + 1)))))]) dX8_sheet_20 ml_X8_79 mX8_tell (ct_X8_tell κ.2.1 g aM aS aK aL aC aW aR aT aH aF ts kp fi 0 (by decide)) [0, 1] rfl rfl 0 rfl rfl rfl (Nat.le_of_ble_eq_true rfl) (by decide) (Nat.le_refl _) (Nat.le_refl _) (rfl : [aM, aF] = [aM, aF]) rfl ?_
    rw [← hQ]
    refine x_iret dX8_sheet_23 rfl (Nat.le_of_ble_eq_true rfl) (Nat.le_of_ble_eq_true rfl) ?_
    exact ⟨rfl, rfl⟩
  · have c4 : ¬ ((wI s 0 3) = 0) := c4
    refine x_iload_n dX8_sheet_7 rfl ?_
    refine x_if_eq dX8_sheet_8 (fun c8 => ?_) (fun c8 => ?_)
    · have c8 : bits = 0 := c8
      exact hb.elim (fun h => absurd h c4) (fun h => absurd c8 h.1)
    · have c8 : ¬ (bits = 0) := c8
      refine x_iload_n dX8_sheet_11 rfl ?_
      refine x_cSi dX8_sheet_12 ml_X8_242 mX4_isWidth (ct_X4_isWidth κ.2.1 g bits) rfl (Nat.le_of_ble_eq_true rfl) (by decide) (Nat.le_refl _) (Nat.le_refl _) ?_
      refine x_if_ne dX8_sheet_15 (fun c15 => ?_) (fun c15 => ?_)
      · have c15 : ¬ ((wdI bits) = 0) := c15
        exact hb.elim (fun h => absurd h c4) (fun h => absurd h.2 c15)
      · have c15 : (wdI bits) = 0 := c15
        refine x_aload_n dX8_sheet_18 rfl ?_
        refine x_iconst 0 dX8_sheet_19 (by decide) ?_
        refine x_cVi (ws' := [(aM, .inr (8, [.ref aS, .ref aK, .ref aL, .ref aC, .ref aW, .ref aR, .ref aT, .ref aH, .ref aF, .int (nI ts), .int kp])), (aF, .inl (g.2.1 0, 7, .inl (nIf (updN fi 0 (fi 0 + 1)))))]) dX8_sheet_20 ml_X8_79 mX8_tell (ct_X8_tell κ.2.1 g aM aS aK aL aC aW aR aT aH aF ts kp fi 0 (by decide)) [0, 1] rfl rfl 0 rfl rfl rfl (Nat.le_of_ble_eq_true rfl) (by decide) (Nat.le_refl _) (Nat.le_refl _) (rfl : [aM, aF] = [aM, aF]) rfl ?_
        rw [← hQ]
        refine x_iret dX8_sheet_23 rfl (Nat.le_of_ble_eq_true rfl) (Nat.le_of_ble_eq_true rfl) ?_
        exact ⟨rfl, rfl⟩

-- == sheet_z ==
set_option maxRecDepth 100000 in
set_option maxHeartbeats 4000000 in
theorem ct_sheet_z (l : Launch) (g : XG) (aM aS aK aL aC aW aR aT aH aF : Nat) (ts : Nat) (kp : Int32) (fi : Nat → Nat) (s : Nat) (bits n : Int32) (hs4 : s < 4) (hw : bits = 0 ∨ ¬ wdI bits = 0) (hn : n < 0) : Ct l g 32 0 0 yX8_sheet cX8_sheet 4 (some .int) [.ref aM, .int (nI s), .int bits, .int n] [(aM, .inr (8, [.ref aS, .ref aK, .ref aL, .ref aC, .ref aW, .ref aR, .ref aT, .ref aH, .ref aF, .int (nI ts), .int kp])), (aF, .inl (g.2.1 0, 7, .inl (nIf fi)))] (xpi (fndI 6) [(aM, .inr (8, [.ref aS, .ref aK, .ref aL, .ref aC, .ref aW, .ref aR, .ref aT, .ref aH, .ref aF, .int (nI ts), .int kp])), (aF, .inl (g.2.1 0, 7, .inl (nIf (updN fi 6 (fi 6 + 1)))))]) := by
  refine Ct.ofX (lv := [some (.ref aM), some (.int (nI s)), some (.int bits), some (.int n)]) (by decide) rfl (Nat.le_of_ble_eq_true rfl) (fun κ => ?_)
  generalize hQ : xQ κ g 0 0 _ = Q
  refine x_iload_n dX8_sheet_0 rfl ?_
  refine x_cSi dX8_sheet_1 ml_X8_239 mX8_isSheet (ct_isSheet_n κ.2.1 g s (hs4)) rfl (Nat.le_of_ble_eq_true rfl) (by decide) (Nat.le_refl _) (Nat.le_refl _) ?_
  refine x_if_eq dX8_sheet_4 (fun c4 => ?_) (fun c4 => ?_)
  · exact absurd c4 (by decide)
  refine x_iload_n dX8_sheet_7 rfl ?_
  refine x_if_eq dX8_sheet_8 (fun c8 => ?_) (fun c8 => ?_)
  · have c8 : bits = 0 := c8
    refine x_iload_n dX8_sheet_24 rfl ?_
    refine x_if_ge dX8_sheet_25 (fun c25 => ?_) (fun c25 => ?_)
    · have c25 : 0 ≤ n := c25
      exact absurd hn (fun q => (fa_of_lt q).2.1 c25)
    · have c25 : ¬ (0 ≤ n) := c25
      refine x_aload_n dX8_sheet_28 rfl ?_
      refine x_bipush 6 dX8_sheet_29 (by decide) ?_
      refine x_cVi (ws' := [(aM, .inr (8, [.ref aS, .ref aK, .ref aL, .ref aC, .ref aW, .ref aR, .ref aT, .ref aH, .ref aF, .int (nI ts), .int kp])), (aF, .inl (g.2.1 0, 7, .inl (nIf (updN fi 6 (fi 6 + 1)))))]) dX8_sheet_31 ml_X8_79 mX8_tell (ct_X8_tell κ.2.1 g aM aS aK aL aC aW aR aT aH aF ts kp fi 6 (by decide)) [0, 1] rfl rfl 0 rfl rfl rfl (Nat.le_of_ble_eq_true rfl) (by decide) (Nat.le_refl _) (Nat.le_refl _) (rfl : [aM, aF] = [aM, aF]) rfl ?_
      rw [← hQ]
      refine x_iret dX8_sheet_34 rfl (Nat.le_of_ble_eq_true rfl) (Nat.le_of_ble_eq_true rfl) ?_
      exact ⟨rfl, rfl⟩
  · have c8 : ¬ (bits = 0) := c8
    refine x_iload_n dX8_sheet_11 rfl ?_
    refine x_cSi dX8_sheet_12 ml_X8_242 mX4_isWidth (ct_X4_isWidth κ.2.1 g bits) rfl (Nat.le_of_ble_eq_true rfl) (by decide) (Nat.le_refl _) (Nat.le_refl _) ?_
    refine x_if_ne dX8_sheet_15 (fun c15 => ?_) (fun c15 => ?_)
    · have c15 : ¬ ((wdI bits) = 0) := c15
      refine x_iload_n dX8_sheet_24 rfl ?_
      refine x_if_ge dX8_sheet_25 (fun c25 => ?_) (fun c25 => ?_)
      · have c25 : 0 ≤ n := c25
        exact absurd hn (fun q => (fa_of_lt q).2.1 c25)
      · have c25 : ¬ (0 ≤ n) := c25
        refine x_aload_n dX8_sheet_28 rfl ?_
        refine x_bipush 6 dX8_sheet_29 (by decide) ?_
        refine x_cVi (ws' := [(aM, .inr (8, [.ref aS, .ref aK, .ref aL, .ref aC, .ref aW, .ref aR, .ref aT, .ref aH, .ref aF, .int (nI ts), .int kp])), (aF, .inl (g.2.1 0, 7, .inl (nIf (updN fi 6 (fi 6 + 1)))))]) dX8_sheet_31 ml_X8_79 mX8_tell (ct_X8_tell κ.2.1 g aM aS aK aL aC aW aR aT aH aF ts kp fi 6 (by decide)) [0, 1] rfl rfl 0 rfl rfl rfl (Nat.le_of_ble_eq_true rfl) (by decide) (Nat.le_refl _) (Nat.le_refl _) (rfl : [aM, aF] = [aM, aF]) rfl ?_
        rw [← hQ]
        refine x_iret dX8_sheet_34 rfl (Nat.le_of_ble_eq_true rfl) (Nat.le_of_ble_eq_true rfl) ?_
        exact ⟨rfl, rfl⟩
    · have c15 : (wdI bits) = 0 := c15
      exact hw.elim (fun h => absurd h c8) (fun h => absurd c15 h)

-- == sheet_c ==
set_option maxRecDepth 100000 in
set_option maxHeartbeats 4000000 in
theorem ct_sheet_c (l : Launch) (g : XG) (aM aS aK aL aC aW aR aT aH aF : Nat) (ts : Nat) (kp : Int32) (fi : Nat → Nat) (s : Nat) (bits n : Int32) (hs4 : s < 4) (hw : bits = 0 ∨ ¬ wdI bits = 0) (hn : 40 < n) : Ct l g 32 0 0 yX8_sheet cX8_sheet 4 (some .int) [.ref aM, .int (nI s), .int bits, .int n] [(aM, .inr (8, [.ref aS, .ref aK, .ref aL, .ref aC, .ref aW, .ref aR, .ref aT, .ref aH, .ref aF, .int (nI ts), .int kp])), (aF, .inl (g.2.1 0, 7, .inl (nIf fi)))] (xpi (fndI 0) [(aM, .inr (8, [.ref aS, .ref aK, .ref aL, .ref aC, .ref aW, .ref aR, .ref aT, .ref aH, .ref aF, .int (nI ts), .int kp])), (aF, .inl (g.2.1 0, 7, .inl (nIf (updN fi 0 (fi 0 + 1)))))]) := by
  refine Ct.ofX (lv := [some (.ref aM), some (.int (nI s)), some (.int bits), some (.int n)]) (by decide) rfl (Nat.le_of_ble_eq_true rfl) (fun κ => ?_)
  generalize hQ : xQ κ g 0 0 _ = Q
  refine x_iload_n dX8_sheet_0 rfl ?_
  refine x_cSi dX8_sheet_1 ml_X8_239 mX8_isSheet (ct_isSheet_n κ.2.1 g s (hs4)) rfl (Nat.le_of_ble_eq_true rfl) (by decide) (Nat.le_refl _) (Nat.le_refl _) ?_
  refine x_if_eq dX8_sheet_4 (fun c4 => ?_) (fun c4 => ?_)
  · exact absurd c4 (by decide)
  refine x_iload_n dX8_sheet_7 rfl ?_
  refine x_if_eq dX8_sheet_8 (fun c8 => ?_) (fun c8 => ?_)
  · have c8 : bits = 0 := c8
    refine x_iload_n dX8_sheet_24 rfl ?_
    refine x_if_ge dX8_sheet_25 (fun c25 => ?_) (fun c25 => ?_)
    · have c25 : 0 ≤ n := c25
      refine x_iload_n dX8_sheet_35 rfl ?_
      refine x_bipush 40 dX8_sheet_36 (by decide) ?_
      refine x_icmp_le dX8_sheet_38 (fun c38 => ?_) (fun c38 => ?_)
      · have c38 : n ≤ 40 := c38
        exact absurd c38 (fa_of_lt hn).2.1
      · have c38 : ¬ (n ≤ 40) := c38
        refine x_aload_n dX8_sheet_41 rfl ?_
        refine x_iconst 0 dX8_sheet_42 (by decide) ?_
        refine x_cVi (ws' := [(aM, .inr (8, [.ref aS, .ref aK, .ref aL, .ref aC, .ref aW, .ref aR, .ref aT, .ref aH, .ref aF, .int (nI ts), .int kp])), (aF, .inl (g.2.1 0, 7, .inl (nIf (updN fi 0 (fi 0 + 1)))))]) dX8_sheet_43 ml_X8_79 mX8_tell (ct_X8_tell κ.2.1 g aM aS aK aL aC aW aR aT aH aF ts kp fi 0 (by decide)) [0, 1] rfl rfl 0 rfl rfl rfl (Nat.le_of_ble_eq_true rfl) (by decide) (Nat.le_refl _) (Nat.le_refl _) (rfl : [aM, aF] = [aM, aF]) rfl ?_
        rw [← hQ]
        refine x_iret dX8_sheet_46 rfl (Nat.le_of_ble_eq_true rfl) (Nat.le_of_ble_eq_true rfl) ?_
        exact ⟨rfl, rfl⟩
    · have c25 : ¬ (0 ≤ n) := c25
      exact absurd (fa_trans hn (fa_of_nle c25 |> fun q => (fa_of_lt q).1)) (by decide)
  · have c8 : ¬ (bits = 0) := c8
    refine x_iload_n dX8_sheet_11 rfl ?_
    refine x_cSi dX8_sheet_12 ml_X8_242 mX4_isWidth (ct_X4_isWidth κ.2.1 g bits) rfl (Nat.le_of_ble_eq_true rfl) (by decide) (Nat.le_refl _) (Nat.le_refl _) ?_
    refine x_if_ne dX8_sheet_15 (fun c15 => ?_) (fun c15 => ?_)
    · have c15 : ¬ ((wdI bits) = 0) := c15
      refine x_iload_n dX8_sheet_24 rfl ?_
      refine x_if_ge dX8_sheet_25 (fun c25 => ?_) (fun c25 => ?_)
      · have c25 : 0 ≤ n := c25
        refine x_iload_n dX8_sheet_35 rfl ?_
        refine x_bipush 40 dX8_sheet_36 (by decide) ?_
        refine x_icmp_le dX8_sheet_38 (fun c38 => ?_) (fun c38 => ?_)
        · have c38 : n ≤ 40 := c38
          exact absurd c38 (fa_of_lt hn).2.1
        · have c38 : ¬ (n ≤ 40) := c38
          refine x_aload_n dX8_sheet_41 rfl ?_
          refine x_iconst 0 dX8_sheet_42 (by decide) ?_
          refine x_cVi (ws' := [(aM, .inr (8, [.ref aS, .ref aK, .ref aL, .ref aC, .ref aW, .ref aR, .ref aT, .ref aH, .ref aF, .int (nI ts), .int kp])), (aF, .inl (g.2.1 0, 7, .inl (nIf (updN fi 0 (fi 0 + 1)))))]) dX8_sheet_43 ml_X8_79 mX8_tell (ct_X8_tell κ.2.1 g aM aS aK aL aC aW aR aT aH aF ts kp fi 0 (by decide)) [0, 1] rfl rfl 0 rfl rfl rfl (Nat.le_of_ble_eq_true rfl) (by decide) (Nat.le_refl _) (Nat.le_refl _) (rfl : [aM, aF] = [aM, aF]) rfl ?_
          rw [← hQ]
          refine x_iret dX8_sheet_46 rfl (Nat.le_of_ble_eq_true rfl) (Nat.le_of_ble_eq_true rfl) ?_
          exact ⟨rfl, rfl⟩
      · have c25 : ¬ (0 ≤ n) := c25
        exact absurd (fa_trans hn (fa_of_nle c25 |> fun q => (fa_of_lt q).1)) (by decide)
    · have c15 : (wdI bits) = 0 := c15
      exact hw.elim (fun h => absurd h c8) (fun h => absurd c15 h)

-- == sheet_o ==
set_option maxRecDepth 100000 in
set_option maxHeartbeats 4000000 in
theorem ct_sheet_o (l : Launch) (g : XG) (aM aS aK aL aC aW aR aT aH aF : Nat) (ts : Nat) (kp : Int32) (fi : Nat → Nat) (aA aAn b n0 : Nat) (nu : Nat → Int64) (shF : Nat → Option Nat) (s w n : Nat) (hs4 : s < 4) (hs : shF s = some aA) (hw : nI w = 0 ∨ ¬ wdI (nI w) = 0) (hw2 : w < 2 ^ 31) (hn : n ≤ 40) : Ct l g 32 0 0 yX8_sheet cX8_sheet 4 (some .int) [.ref aM, .int (nI s), .int (nI w), .int (nI n)] [(aM, .inr (8, [.ref aS, .ref aK, .ref aL, .ref aC, .ref aW, .ref aR, .ref aT, .ref aH, .ref aF, .int (nI ts), .int kp])), (aF, .inl (g.2.1 0, 7, .inl (nIf fi))), (aH, .inl (g.2.1 4, 4, .inr (.inr (.inr (.inr shF))))), (aA, .inr (4, [.ref aAn, .int (nI b), .int (nI n0)])), (aAn, .inl (g.2.1 2, 40, .inr (.inl nu)))] (xpi (nI (layN w n)) [(aM, .inr (8, [.ref aS, .ref aK, .ref aL, .ref aC, .ref aW, .ref aR, .ref aT, .ref aH, .ref aF, .int (nI ts), .int kp])), (aF, .inl (g.2.1 0, 7, .inl (nIf fi))), (aH, .inl (g.2.1 4, 4, .inr (.inr (.inr (.inr shF))))), (aA, .inr (4, [.ref aAn, .int (nI w), .int (nI (layN w n))])), (aAn, .inl (g.2.1 2, 40, .inr (.inl (fun _ => 0))))]) := by
  refine Ct.ofX (lv := [some (.ref aM), some (.int (nI s)), some (.int (nI w)), some (.int (nI n))]) (by decide) rfl (Nat.le_of_ble_eq_true rfl) (fun κ => ?_)
  generalize hQ : xQ κ g 0 0 _ = Q
  refine x_iload_n dX8_sheet_0 rfl ?_
  refine x_cSi dX8_sheet_1 ml_X8_239 mX8_isSheet (ct_isSheet_n κ.2.1 g s (hs4)) rfl (Nat.le_of_ble_eq_true rfl) (by decide) (Nat.le_refl _) (Nat.le_refl _) ?_
  refine x_if_eq dX8_sheet_4 (fun c4 => ?_) (fun c4 => ?_)
  · exact absurd c4 (by decide)
  refine x_iload_n dX8_sheet_7 rfl ?_
  refine x_if_eq dX8_sheet_8 (fun c8 => ?_) (fun c8 => ?_)
  · have c8 : (nI w) = 0 := c8
    refine x_iload_n dX8_sheet_24 rfl ?_
    refine x_if_ge dX8_sheet_25 (fun c25 => ?_) (fun c25 => ?_)
    · have c25 : 0 ≤ (nI n) := c25
      have c25n := (nI_leI (a := 0) (b := n) (by omega) (by omega)).mp c25
      refine x_iload_n dX8_sheet_35 rfl ?_
      refine x_bipush 40 dX8_sheet_36 (by decide) ?_
      refine x_icmp_le dX8_sheet_38 (fun c38 => ?_) (fun c38 => ?_)
      · have c38 : (nI n) ≤ 40 := c38
        have c38n := (nI_leI (a := n) (b := 40) (by omega) (by omega)).mp c38
        refine x_aload_n dX8_sheet_47 rfl ?_
        refine x_get dX8_sheet_48 0 7 inX8 fl_X8_62 rfl rfl (by decide) rfl ?_
        refine x_iload_n dX8_sheet_51 rfl ?_
        refine x_qald dX8_sheet_52 2 s rfl (rfl) (by omega) (by decide) (hs) ?_
        refine x_iload_n dX8_sheet_53 rfl ?_
        refine x_iload_n dX8_sheet_54 rfl ?_
        refine x_cVi (ws' := [(aM, .inr (8, [.ref aS, .ref aK, .ref aL, .ref aC, .ref aW, .ref aR, .ref aT, .ref aH, .ref aF, .int (nI ts), .int kp])), (aF, .inl (g.2.1 0, 7, .inl (nIf fi))), (aH, .inl (g.2.1 4, 4, .inr (.inr (.inr (.inr shF))))), (aA, .inr (4, [.ref aAn, .int (nI w), .int (nI (layN w n))])), (aAn, .inl (g.2.1 2, 40, .inr (.inl (fun _ => 0))))]) dX8_sheet_55 ml_X8_245 mX4_lay (ct_X4_lay κ.2.1 g aA aAn b n0 nu w n (hw2) (hn)) [3, 4] rfl rfl 3 rfl rfl rfl (Nat.le_of_ble_eq_true rfl) (by decide) (Nat.le_refl _) (Nat.le_refl _) (rfl : [aA, aAn] = [aA, aAn]) rfl ?_
        rw [← hQ]
        refine x_iret dX8_sheet_58 rfl (Nat.le_of_ble_eq_true rfl) (Nat.le_of_ble_eq_true rfl) ?_
        exact ⟨rfl, rfl⟩
      · have c38 : ¬ ((nI n) ≤ 40) := c38
        have c38n := mt (nI_leI (a := n) (b := 40) (by omega) (by omega)).mpr c38
        exact absurd c38n (by omega)
    · have c25 : ¬ (0 ≤ (nI n)) := c25
      have c25n := mt (nI_leI (a := 0) (b := n) (by omega) (by omega)).mpr c25
      exact absurd c25n (by omega)
  · have c8 : ¬ ((nI w) = 0) := c8
    refine x_iload_n dX8_sheet_11 rfl ?_
    refine x_cSi dX8_sheet_12 ml_X8_242 mX4_isWidth (ct_X4_isWidth κ.2.1 g (nI w)) rfl (Nat.le_of_ble_eq_true rfl) (by decide) (Nat.le_refl _) (Nat.le_refl _) ?_
    refine x_if_ne dX8_sheet_15 (fun c15 => ?_) (fun c15 => ?_)
    · have c15 : ¬ ((wdI (nI w)) = 0) := c15
      refine x_iload_n dX8_sheet_24 rfl ?_
      refine x_if_ge dX8_sheet_25 (fun c25 => ?_) (fun c25 => ?_)
      · have c25 : 0 ≤ (nI n) := c25
        have c25n := (nI_leI (a := 0) (b := n) (by omega) (by omega)).mp c25
        refine x_iload_n dX8_sheet_35 rfl ?_
        refine x_bipush 40 dX8_sheet_36 (by decide) ?_
        refine x_icmp_le dX8_sheet_38 (fun c38 => ?_) (fun c38 => ?_)
        · have c38 : (nI n) ≤ 40 := c38
          have c38n := (nI_leI (a := n) (b := 40) (by omega) (by omega)).mp c38
          refine x_aload_n dX8_sheet_47 rfl ?_
          refine x_get dX8_sheet_48 0 7 inX8 fl_X8_62 rfl rfl (by decide) rfl ?_
          refine x_iload_n dX8_sheet_51 rfl ?_
          refine x_qald dX8_sheet_52 2 s rfl (rfl) (by omega) (by decide) (hs) ?_
          refine x_iload_n dX8_sheet_53 rfl ?_
          refine x_iload_n dX8_sheet_54 rfl ?_
          refine x_cVi (ws' := [(aM, .inr (8, [.ref aS, .ref aK, .ref aL, .ref aC, .ref aW, .ref aR, .ref aT, .ref aH, .ref aF, .int (nI ts), .int kp])), (aF, .inl (g.2.1 0, 7, .inl (nIf fi))), (aH, .inl (g.2.1 4, 4, .inr (.inr (.inr (.inr shF))))), (aA, .inr (4, [.ref aAn, .int (nI w), .int (nI (layN w n))])), (aAn, .inl (g.2.1 2, 40, .inr (.inl (fun _ => 0))))]) dX8_sheet_55 ml_X8_245 mX4_lay (ct_X4_lay κ.2.1 g aA aAn b n0 nu w n (hw2) (hn)) [3, 4] rfl rfl 3 rfl rfl rfl (Nat.le_of_ble_eq_true rfl) (by decide) (Nat.le_refl _) (Nat.le_refl _) (rfl : [aA, aAn] = [aA, aAn]) rfl ?_
          rw [← hQ]
          refine x_iret dX8_sheet_58 rfl (Nat.le_of_ble_eq_true rfl) (Nat.le_of_ble_eq_true rfl) ?_
          exact ⟨rfl, rfl⟩
        · have c38 : ¬ ((nI n) ≤ 40) := c38
          have c38n := mt (nI_leI (a := n) (b := 40) (by omega) (by omega)).mpr c38
          exact absurd c38n (by omega)
      · have c25 : ¬ (0 ≤ (nI n)) := c25
        have c25n := mt (nI_leI (a := 0) (b := n) (by omega) (by omega)).mpr c25
        exact absurd c25n (by omega)
    · have c15 : (wdI (nI w)) = 0 := c15
      exact hw.elim (fun h => absurd h c8) (fun h => absurd c15 h)

-- == write_b ==
theorem dX8_write_0 : xd cX8_write 0 (.iload_n 1) 1 1 := ⟨by decide +kernel, rfl⟩
theorem dX8_write_1 : xd cX8_write 1 (.invokestatic 239) 3 4 := ⟨by decide +kernel, rfl⟩
theorem dX8_write_4 : xj cX8_write 4 (.ifCond .ne) 7 14 := ⟨10, by decide +kernel, rfl, by decide⟩
theorem dX8_write_7 : xd cX8_write 7 (.aload_n 0) 1 8 := ⟨by decide +kernel, rfl⟩
theorem dX8_write_8 : xd cX8_write 8 (.iconst 0) 1 9 := ⟨by decide +kernel, rfl⟩
theorem dX8_write_9 : xd cX8_write 9 (.invokevirtual 79) 3 12 := ⟨by decide +kernel, rfl⟩
theorem dX8_write_12 : xd cX8_write 12 .i2l 1 13 := ⟨by decide +kernel, rfl⟩
theorem dX8_write_13 : xd cX8_write 13 .lreturn 1 14 := ⟨by decide +kernel, rfl⟩
theorem dX8_write_14 : xd cX8_write 14 (.aload_n 0) 1 15 := ⟨by decide +kernel, rfl⟩
theorem dX8_write_15 : xd cX8_write 15 (.getfield 62) 3 18 := ⟨by decide +kernel, rfl⟩
theorem dX8_write_18 : xd cX8_write 18 (.iload_n 1) 1 19 := ⟨by decide +kernel, rfl⟩
theorem dX8_write_19 : xd cX8_write 19 .aaload 1 20 := ⟨by decide +kernel, rfl⟩
theorem dX8_write_20 : xd cX8_write 20 (.astore 5) 2 22 := ⟨by decide +kernel, rfl⟩
theorem dX8_write_22 : xd cX8_write 22 (.aload 5) 2 24 := ⟨by decide +kernel, rfl⟩
theorem dX8_write_24 : xd cX8_write 24 (.getfield 248) 3 27 := ⟨by decide +kernel, rfl⟩
theorem dX8_write_27 : xj cX8_write 27 (.ifCond .ne) 30 37 := ⟨10, by decide +kernel, rfl, by decide⟩
theorem dX8_write_30 : xd cX8_write 30 (.aload_n 0) 1 31 := ⟨by decide +kernel, rfl⟩
theorem dX8_write_31 : xd cX8_write 31 (.iconst 5) 1 32 := ⟨by decide +kernel, rfl⟩
theorem dX8_write_32 : xd cX8_write 32 (.invokevirtual 79) 3 35 := ⟨by decide +kernel, rfl⟩
theorem dX8_write_35 : xd cX8_write 35 .i2l 1 36 := ⟨by decide +kernel, rfl⟩
theorem dX8_write_36 : xd cX8_write 36 .lreturn 1 37 := ⟨by decide +kernel, rfl⟩
theorem dX8_write_37 : xd cX8_write 37 (.iload_n 2) 1 38 := ⟨by decide +kernel, rfl⟩
theorem dX8_write_38 : xd cX8_write 38 (.iconst 0) 1 39 := ⟨by decide +kernel, rfl⟩
theorem dX8_write_39 : xd cX8_write 39 (.aload 5) 2 41 := ⟨by decide +kernel, rfl⟩
theorem dX8_write_41 : xd cX8_write 41 (.getfield 250) 3 44 := ⟨by decide +kernel, rfl⟩
theorem dX8_write_44 : xd cX8_write 44 (.iconst 1) 1 45 := ⟨by decide +kernel, rfl⟩
theorem dX8_write_45 : xd cX8_write 45 .isub 1 46 := ⟨by decide +kernel, rfl⟩
theorem dX8_write_46 : xd cX8_write 46 (.invokestatic 89) 3 49 := ⟨by decide +kernel, rfl⟩
theorem dX8_write_49 : xj cX8_write 49 (.ifCond .ne) 52 59 := ⟨10, by decide +kernel, rfl, by decide⟩
theorem dX8_write_52 : xd cX8_write 52 (.aload_n 0) 1 53 := ⟨by decide +kernel, rfl⟩
theorem dX8_write_53 : xd cX8_write 53 (.iconst 0) 1 54 := ⟨by decide +kernel, rfl⟩
theorem dX8_write_54 : xd cX8_write 54 (.invokevirtual 79) 3 57 := ⟨by decide +kernel, rfl⟩
theorem dX8_write_57 : xd cX8_write 57 .i2l 1 58 := ⟨by decide +kernel, rfl⟩
theorem dX8_write_58 : xd cX8_write 58 .lreturn 1 59 := ⟨by decide +kernel, rfl⟩
theorem dX8_write_59 : xd cX8_write 59 (.aload 5) 2 61 := ⟨by decide +kernel, rfl⟩
theorem dX8_write_61 : xd cX8_write 61 (.getfield 253) 3 64 := ⟨by decide +kernel, rfl⟩
theorem dX8_write_64 : xd cX8_write 64 (.iload_n 2) 1 65 := ⟨by decide +kernel, rfl⟩
theorem dX8_write_65 : xd cX8_write 65 .laload 1 66 := ⟨by decide +kernel, rfl⟩
theorem dX8_write_66 : xd cX8_write 66 (.lstore 6) 2 68 := ⟨by decide +kernel, rfl⟩
theorem dX8_write_68 : xd cX8_write 68 (.aload 5) 2 70 := ⟨by decide +kernel, rfl⟩
theorem dX8_write_70 : xd cX8_write 70 (.getfield 253) 3 73 := ⟨by decide +kernel, rfl⟩
theorem dX8_write_73 : xd cX8_write 73 (.iload_n 2) 1 74 := ⟨by decide +kernel, rfl⟩
theorem dX8_write_74 : xd cX8_write 74 (.aload 5) 2 76 := ⟨by decide +kernel, rfl⟩
theorem dX8_write_76 : xd cX8_write 76 (.lload_n 3) 1 77 := ⟨by decide +kernel, rfl⟩
theorem dX8_write_77 : xd cX8_write 77 (.invokevirtual 257) 3 80 := ⟨by decide +kernel, rfl⟩
theorem dX8_write_80 : xd cX8_write 80 .lastore 1 81 := ⟨by decide +kernel, rfl⟩
theorem dX8_write_81 : xd cX8_write 81 (.lload 6) 2 83 := ⟨by decide +kernel, rfl⟩
theorem dX8_write_83 : xd cX8_write 83 .lreturn 1 84 := ⟨by decide +kernel, rfl⟩

set_option maxRecDepth 100000 in
set_option maxHeartbeats 4000000 in
theorem ct_write_b (l : Launch) (g : XG) (aM aS aK aL aC aW aR aT aH aF : Nat) (ts : Nat) (kp : Int32) (fi : Nat → Nat) (s i : Int32) (v : Int64) (hb : wI s 0 3 = 0) : Ct l g 32 0 0 yX8_write cX8_write 8 (some .long) [.ref aM, .int s, .int i, .long v] [(aM, .inr (8, [.ref aS, .ref aK, .ref aL, .ref aC, .ref aW, .ref aR, .ref aT, .ref aH, .ref aF, .int (nI ts), .int kp])), (aF, .inl (g.2.1 0, 7, .inl (nIf fi)))] (xpl ((fndI 0).toInt64) [(aM, .inr (8, [.ref aS, .ref aK, .ref aL, .ref aC, .ref aW, .ref aR, .ref aT, .ref aH, .ref aF, .int (nI ts), .int kp])), (aF, .inl (g.2.1 0, 7, .inl (nIf (updN fi 0 (fi 0 + 1)))))]) := by
  refine Ct.ofX (lv := [some (.ref aM), some (.int s), some (.int i), some (.long v), none, none, none, none]) (by decide) rfl (Nat.le_of_ble_eq_true rfl) (fun κ => ?_)
  generalize hQ : xQ κ g 0 0 _ = Q
  refine x_iload_n dX8_write_0 rfl ?_
  refine x_cSi dX8_write_1 ml_X8_239 mX8_isSheet (ct_X8_isSheet κ.2.1 g s) rfl (Nat.le_of_ble_eq_true rfl) (by decide) (Nat.le_refl _) (Nat.le_refl _) ?_
  refine x_if_ne dX8_write_4 (fun c4 => ?_) (fun c4 => ?_)
  · have c4 : ¬ ((wI s 0 3) = 0) := c4
    exact absurd hb c4
  · have c4 : (wI s 0 3) = 0 := c4
    refine x_aload_n dX8_write_7 rfl ?_
    refine x_iconst 0 dX8_write_8 (by decide) ?_
    refine x_cVi (ws' := [(aM, .inr (8, [.ref aS, .ref aK, .ref aL, .ref aC, .ref aW, .ref aR, .ref aT, .ref aH, .ref aF, .int (nI ts), .int kp])), (aF, .inl (g.2.1 0, 7, .inl (nIf (updN fi 0 (fi 0 + 1)))))]) dX8_write_9 ml_X8_79 mX8_tell (ct_X8_tell κ.2.1 g aM aS aK aL aC aW aR aT aH aF ts kp fi 0 (by decide)) [0, 1] rfl rfl 0 rfl rfl rfl (Nat.le_of_ble_eq_true rfl) (by decide) (Nat.le_refl _) (Nat.le_refl _) (rfl : [aM, aF] = [aM, aF]) rfl ?_
    refine x_i2l dX8_write_12 ?_
    rw [← hQ]
    refine x_lret dX8_write_13 rfl (Nat.le_of_ble_eq_true rfl) (Nat.le_of_ble_eq_true rfl) ?_
    exact ⟨rfl, rfl⟩

-- == write_m ==
set_option maxRecDepth 100000 in
set_option maxHeartbeats 4000000 in
theorem ct_write_m (l : Launch) (g : XG) (aM aS aK aL aC aW aR aT aH aF : Nat) (ts : Nat) (kp : Int32) (fi : Nat → Nat) (i : Int32) (v : Int64) (s : Nat) (aA aAn n0 : Nat) (nu : Nat → Int64) (shF : Nat → Option Nat) (hs4 : s < 4) (hs : shF s = some aA) : Ct l g 32 0 0 yX8_write cX8_write 8 (some .long) [.ref aM, .int (nI s), .int i, .long v] [(aM, .inr (8, [.ref aS, .ref aK, .ref aL, .ref aC, .ref aW, .ref aR, .ref aT, .ref aH, .ref aF, .int (nI ts), .int kp])), (aF, .inl (g.2.1 0, 7, .inl (nIf fi))), (aH, .inl (g.2.1 4, 4, .inr (.inr (.inr (.inr shF))))), (aA, .inr (4, [.ref aAn, .int 0, .int (nI n0)])), (aAn, .inl (g.2.1 2, 40, .inr (.inl nu)))] (xpl ((fndI 5).toInt64) [(aM, .inr (8, [.ref aS, .ref aK, .ref aL, .ref aC, .ref aW, .ref aR, .ref aT, .ref aH, .ref aF, .int (nI ts), .int kp])), (aF, .inl (g.2.1 0, 7, .inl (nIf (updN fi 5 (fi 5 + 1))))), (aH, .inl (g.2.1 4, 4, .inr (.inr (.inr (.inr shF))))), (aA, .inr (4, [.ref aAn, .int 0, .int (nI n0)])), (aAn, .inl (g.2.1 2, 40, .inr (.inl nu)))]) := by
  refine Ct.ofX (lv := [some (.ref aM), some (.int (nI s)), some (.int i), some (.long v), none, none, none, none]) (by decide) rfl (Nat.le_of_ble_eq_true rfl) (fun κ => ?_)
  generalize hQ : xQ κ g 0 0 _ = Q
  refine x_iload_n dX8_write_0 rfl ?_
  refine x_cSi dX8_write_1 ml_X8_239 mX8_isSheet (ct_isSheet_n κ.2.1 g s (hs4)) rfl (Nat.le_of_ble_eq_true rfl) (by decide) (Nat.le_refl _) (Nat.le_refl _) ?_
  refine x_if_ne dX8_write_4 (fun c4 => ?_) (fun c4 => ?_)
  rotate_left
  · exact absurd c4 (by decide)
  refine x_aload_n dX8_write_14 rfl ?_
  refine x_get dX8_write_15 0 7 inX8 fl_X8_62 rfl rfl (by decide) rfl ?_
  refine x_iload_n dX8_write_18 rfl ?_
  refine x_qald dX8_write_19 2 s rfl (rfl) (by omega) (by decide) (hs) ?_
  refine x_astore (lv' := [some (.ref aM), some (.int (nI s)), some (.int i), some (.long v), none, some (.ref aA), none, none]) dX8_write_20 (xlt rfl) rfl ?_
  refine x_aload dX8_write_22 rfl ?_
  refine x_get dX8_write_24 3 1 inX4 fl_X8_248 rfl rfl (by decide) rfl ?_
  refine x_if_ne dX8_write_27 (fun c27 => ?_) (fun c27 => ?_)
  · exact absurd c27 (by decide)
  refine x_aload_n dX8_write_30 rfl ?_
  refine x_iconst 5 dX8_write_31 (by decide) ?_
  refine x_cVi (ws' := [(aM, .inr (8, [.ref aS, .ref aK, .ref aL, .ref aC, .ref aW, .ref aR, .ref aT, .ref aH, .ref aF, .int (nI ts), .int kp])), (aF, .inl (g.2.1 0, 7, .inl (nIf (updN fi 5 (fi 5 + 1))))), (aH, .inl (g.2.1 4, 4, .inr (.inr (.inr (.inr shF))))), (aA, .inr (4, [.ref aAn, .int 0, .int (nI n0)])), (aAn, .inl (g.2.1 2, 40, .inr (.inl nu)))]) dX8_write_32 ml_X8_79 mX8_tell (ct_X8_tell κ.2.1 g aM aS aK aL aC aW aR aT aH aF ts kp fi 5 (by decide)) [0, 1] rfl rfl 0 rfl rfl rfl (Nat.le_of_ble_eq_true rfl) (by decide) (Nat.le_refl _) (Nat.le_refl _) (rfl : [aM, aF] = [aM, aF]) rfl ?_
  refine x_i2l dX8_write_35 ?_
  rw [← hQ]
  refine x_lret dX8_write_36 rfl (Nat.le_of_ble_eq_true rfl) (Nat.le_of_ble_eq_true rfl) ?_
  exact ⟨rfl, rfl⟩

-- == write_c ==
set_option maxRecDepth 100000 in
set_option maxHeartbeats 4000000 in
theorem ct_write_c (l : Launch) (g : XG) (aM aS aK aL aC aW aR aT aH aF : Nat) (ts : Nat) (kp : Int32) (fi : Nat → Nat) (i : Int32) (v : Int64) (s : Nat) (aA aAn b n0 : Nat) (nu : Nat → Int64) (shF : Nat → Option Nat) (hs4 : s < 4) (hs : shF s = some aA) (hbb : b = 8 ∨ b = 16 ∨ b = 64) (hb : wI i 0 (nI n0 - 1) = 0) : Ct l g 32 0 0 yX8_write cX8_write 8 (some .long) [.ref aM, .int (nI s), .int i, .long v] [(aM, .inr (8, [.ref aS, .ref aK, .ref aL, .ref aC, .ref aW, .ref aR, .ref aT, .ref aH, .ref aF, .int (nI ts), .int kp])), (aF, .inl (g.2.1 0, 7, .inl (nIf fi))), (aH, .inl (g.2.1 4, 4, .inr (.inr (.inr (.inr shF))))), (aA, .inr (4, [.ref aAn, .int (nI b), .int (nI n0)])), (aAn, .inl (g.2.1 2, 40, .inr (.inl nu)))] (xpl ((fndI 0).toInt64) [(aM, .inr (8, [.ref aS, .ref aK, .ref aL, .ref aC, .ref aW, .ref aR, .ref aT, .ref aH, .ref aF, .int (nI ts), .int kp])), (aF, .inl (g.2.1 0, 7, .inl (nIf (updN fi 0 (fi 0 + 1))))), (aH, .inl (g.2.1 4, 4, .inr (.inr (.inr (.inr shF))))), (aA, .inr (4, [.ref aAn, .int (nI b), .int (nI n0)])), (aAn, .inl (g.2.1 2, 40, .inr (.inl nu)))]) := by
  refine Ct.ofX (lv := [some (.ref aM), some (.int (nI s)), some (.int i), some (.long v), none, none, none, none]) (by decide) rfl (Nat.le_of_ble_eq_true rfl) (fun κ => ?_)
  generalize hQ : xQ κ g 0 0 _ = Q
  refine x_iload_n dX8_write_0 rfl ?_
  refine x_cSi dX8_write_1 ml_X8_239 mX8_isSheet (ct_isSheet_n κ.2.1 g s (hs4)) rfl (Nat.le_of_ble_eq_true rfl) (by decide) (Nat.le_refl _) (Nat.le_refl _) ?_
  refine x_if_ne dX8_write_4 (fun c4 => ?_) (fun c4 => ?_)
  rotate_left
  · exact absurd c4 (by decide)
  refine x_aload_n dX8_write_14 rfl ?_
  refine x_get dX8_write_15 0 7 inX8 fl_X8_62 rfl rfl (by decide) rfl ?_
  refine x_iload_n dX8_write_18 rfl ?_
  refine x_qald dX8_write_19 2 s rfl (rfl) (by omega) (by decide) (hs) ?_
  refine x_astore (lv' := [some (.ref aM), some (.int (nI s)), some (.int i), some (.long v), none, some (.ref aA), none, none]) dX8_write_20 (xlt rfl) rfl ?_
  refine x_aload dX8_write_22 rfl ?_
  refine x_get dX8_write_24 3 1 inX4 fl_X8_248 rfl rfl (by decide) rfl ?_
  refine x_if_ne dX8_write_27 (fun c27 => ?_) (fun c27 => ?_)
  · have c27 : ¬ ((nI b) = 0) := c27
    have c27n := mt (nI_eq (a := b) (b := 0) (by omega) (by omega)).mpr c27
    refine x_iload_n dX8_write_37 rfl ?_
    refine x_iconst 0 dX8_write_38 (by decide) ?_
    refine x_aload dX8_write_39 rfl ?_
    refine x_get dX8_write_41 3 2 inX4 fl_X8_250 rfl rfl (by decide) rfl ?_
    refine x_iconst 1 dX8_write_44 (by decide) ?_
    refine x_isub dX8_write_45 ?_
    refine x_cSi dX8_write_46 ml_X8_89 mX8_within (ct_X8_within κ.2.1 g i 0 ((nI n0) - 1)) rfl (Nat.le_of_ble_eq_true rfl) (by decide) (Nat.le_refl _) (Nat.le_refl _) ?_
    refine x_if_ne dX8_write_49 (fun c49 => ?_) (fun c49 => ?_)
    · have c49 : ¬ ((wI i 0 ((nI n0) - 1)) = 0) := c49
      exact absurd hb c49
    · have c49 : (wI i 0 ((nI n0) - 1)) = 0 := c49
      refine x_aload_n dX8_write_52 rfl ?_
      refine x_iconst 0 dX8_write_53 (by decide) ?_
      refine x_cVi (ws' := [(aM, .inr (8, [.ref aS, .ref aK, .ref aL, .ref aC, .ref aW, .ref aR, .ref aT, .ref aH, .ref aF, .int (nI ts), .int kp])), (aF, .inl (g.2.1 0, 7, .inl (nIf (updN fi 0 (fi 0 + 1))))), (aH, .inl (g.2.1 4, 4, .inr (.inr (.inr (.inr shF))))), (aA, .inr (4, [.ref aAn, .int (nI b), .int (nI n0)])), (aAn, .inl (g.2.1 2, 40, .inr (.inl nu)))]) dX8_write_54 ml_X8_79 mX8_tell (ct_X8_tell κ.2.1 g aM aS aK aL aC aW aR aT aH aF ts kp fi 0 (by decide)) [0, 1] rfl rfl 0 rfl rfl rfl (Nat.le_of_ble_eq_true rfl) (by decide) (Nat.le_refl _) (Nat.le_refl _) (rfl : [aM, aF] = [aM, aF]) rfl ?_
      refine x_i2l dX8_write_57 ?_
      rw [← hQ]
      refine x_lret dX8_write_58 rfl (Nat.le_of_ble_eq_true rfl) (Nat.le_of_ble_eq_true rfl) ?_
      exact ⟨rfl, rfl⟩
  · have c27 : (nI b) = 0 := c27
    have c27n := (nI_eq (a := b) (b := 0) (by omega) (by omega)).mp c27
    exact absurd c27n (by omega)

-- == write_o ==
set_option maxRecDepth 100000 in
set_option maxHeartbeats 4000000 in
theorem ct_write_o (l : Launch) (g : XG) (aM aS aK aL aC aW aR aT aH aF : Nat) (ts : Nat) (kp : Int32) (fi : Nat → Nat) (aA aAn b n0 : Nat) (nu : Nat → Int64) (shF : Nat → Option Nat) (s i : Nat) (v : Int64) (hs4 : s < 4) (hs : shF s = some aA) (hbb : b = 8 ∨ b = 16 ∨ b = 64) (hi : i < n0 ∧ n0 ≤ 40) : Ct l g 32 0 0 yX8_write cX8_write 8 (some .long) [.ref aM, .int (nI s), .int (nI i), .long v] [(aM, .inr (8, [.ref aS, .ref aK, .ref aL, .ref aC, .ref aW, .ref aR, .ref aT, .ref aH, .ref aF, .int (nI ts), .int kp])), (aF, .inl (g.2.1 0, 7, .inl (nIf fi))), (aH, .inl (g.2.1 4, 4, .inr (.inr (.inr (.inr shF))))), (aA, .inr (4, [.ref aAn, .int (nI b), .int (nI n0)])), (aAn, .inl (g.2.1 2, 40, .inr (.inl nu)))] (xpl (nu i) [(aM, .inr (8, [.ref aS, .ref aK, .ref aL, .ref aC, .ref aW, .ref aR, .ref aT, .ref aH, .ref aF, .int (nI ts), .int kp])), (aF, .inl (g.2.1 0, 7, .inl (nIf fi))), (aH, .inl (g.2.1 4, 4, .inr (.inr (.inr (.inr shF))))), (aA, .inr (4, [.ref aAn, .int (nI b), .int (nI n0)])), (aAn, .inl (g.2.1 2, 40, .inr (.inl (vp_updL nu i (narL b v)))))]) := by
  refine Ct.ofX (lv := [some (.ref aM), some (.int (nI s)), some (.int (nI i)), some (.long v), none, none, none, none]) (by decide) rfl (Nat.le_of_ble_eq_true rfl) (fun κ => ?_)
  generalize hQ : xQ κ g 0 0 _ = Q
  refine x_iload_n dX8_write_0 rfl ?_
  refine x_cSi dX8_write_1 ml_X8_239 mX8_isSheet (ct_isSheet_n κ.2.1 g s (hs4)) rfl (Nat.le_of_ble_eq_true rfl) (by decide) (Nat.le_refl _) (Nat.le_refl _) ?_
  refine x_if_ne dX8_write_4 (fun c4 => ?_) (fun c4 => ?_)
  rotate_left
  · exact absurd c4 (by decide)
  refine x_aload_n dX8_write_14 rfl ?_
  refine x_get dX8_write_15 0 7 inX8 fl_X8_62 rfl rfl (by decide) rfl ?_
  refine x_iload_n dX8_write_18 rfl ?_
  refine x_qald dX8_write_19 2 s rfl (rfl) (by omega) (by decide) (hs) ?_
  refine x_astore (lv' := [some (.ref aM), some (.int (nI s)), some (.int (nI i)), some (.long v), none, some (.ref aA), none, none]) dX8_write_20 (xlt rfl) rfl ?_
  refine x_aload dX8_write_22 rfl ?_
  refine x_get dX8_write_24 3 1 inX4 fl_X8_248 rfl rfl (by decide) rfl ?_
  refine x_if_ne dX8_write_27 (fun c27 => ?_) (fun c27 => ?_)
  · have c27 : ¬ ((nI b) = 0) := c27
    have c27n := mt (nI_eq (a := b) (b := 0) (by omega) (by omega)).mpr c27
    refine x_iload_n dX8_write_37 rfl ?_
    refine x_iconst 0 dX8_write_38 (by decide) ?_
    refine x_aload dX8_write_39 rfl ?_
    refine x_get dX8_write_41 3 2 inX4 fl_X8_250 rfl rfl (by decide) rfl ?_
    refine x_iconst 1 dX8_write_44 (by decide) ?_
    refine x_isub dX8_write_45 ?_
    refine x_rei (nI (n0 - 1)) (nI_isub n0 1 (by omega)) ?_
    refine x_cSi dX8_write_46 ml_X8_89 mX8_within (ct_within_n κ.2.1 g i 0 (n0 - 1) (⟨by omega, by omega, by omega, by omega⟩)) rfl (Nat.le_of_ble_eq_true rfl) (by decide) (Nat.le_refl _) (Nat.le_refl _) ?_
    refine x_if_ne dX8_write_49 (fun c49 => ?_) (fun c49 => ?_)
    rotate_left
    · exact absurd c49 (by decide)
    refine x_aload dX8_write_59 rfl ?_
    refine x_get dX8_write_61 3 0 inX4 fl_X8_253 rfl rfl (by decide) rfl ?_
    refine x_iload_n dX8_write_64 rfl ?_
    refine x_lald dX8_write_65 4 i rfl (rfl) (by omega) (by decide) ?_
    refine x_lstore (lv' := [some (.ref aM), some (.int (nI s)), some (.int (nI i)), some (.long v), none, some (.ref aA), some (.long (nu i)), none]) dX8_write_66 (xlt rfl) rfl ?_
    refine x_aload dX8_write_68 rfl ?_
    refine x_get dX8_write_70 3 0 inX4 fl_X8_253 rfl rfl (by decide) rfl ?_
    refine x_iload_n dX8_write_73 rfl ?_
    refine x_aload dX8_write_74 rfl ?_
    refine x_lload_n dX8_write_76 rfl ?_
    refine x_cVl0 dX8_write_77 ml_X8_257 mX4_lowestBits (ct_X4_lowestBits κ.2.1 g aA aAn b n0 v (hbb)) [3] rfl rfl 3 rfl rfl rfl (Nat.le_of_ble_eq_true rfl) (by decide) (Nat.le_refl _) (Nat.le_refl _) ?_
    refine x_last (ws' := [(aM, .inr (8, [.ref aS, .ref aK, .ref aL, .ref aC, .ref aW, .ref aR, .ref aT, .ref aH, .ref aF, .int (nI ts), .int kp])), (aF, .inl (g.2.1 0, 7, .inl (nIf fi))), (aH, .inl (g.2.1 4, 4, .inr (.inr (.inr (.inr shF))))), (aA, .inr (4, [.ref aAn, .int (nI b), .int (nI n0)])), (aAn, .inl (g.2.1 2, 40, .inr (.inl (vp_updL nu i (narL b v)))))]) dX8_write_80 4 i rfl (rfl) (by omega) (by decide) rfl ?_
    refine x_lload dX8_write_81 rfl ?_
    rw [← hQ]
    refine x_lret dX8_write_83 rfl (Nat.le_of_ble_eq_true rfl) (Nat.le_of_ble_eq_true rfl) ?_
    exact ⟨rfl, rfl⟩
  · have c27 : (nI b) = 0 := c27
    have c27n := (nI_eq (a := b) (b := 0) (by omega) (by omega)).mp c27
    exact absurd c27n (by omega)

-- == copy_b ==
theorem dX8_copy_0 : xd cX8_copy 0 (.iload_n 1) 1 1 := ⟨by decide +kernel, rfl⟩
theorem dX8_copy_1 : xd cX8_copy 1 (.invokestatic 239) 3 4 := ⟨by decide +kernel, rfl⟩
theorem dX8_copy_4 : xj cX8_copy 4 (.ifCond .eq) 7 14 := ⟨10, by decide +kernel, rfl, by decide⟩
theorem dX8_copy_7 : xd cX8_copy 7 (.iload_n 3) 1 8 := ⟨by decide +kernel, rfl⟩
theorem dX8_copy_8 : xd cX8_copy 8 (.invokestatic 239) 3 11 := ⟨by decide +kernel, rfl⟩
theorem dX8_copy_11 : xj cX8_copy 11 (.ifCond .ne) 14 20 := ⟨9, by decide +kernel, rfl, by decide⟩
theorem dX8_copy_14 : xd cX8_copy 14 (.aload_n 0) 1 15 := ⟨by decide +kernel, rfl⟩
theorem dX8_copy_15 : xd cX8_copy 15 (.iconst 0) 1 16 := ⟨by decide +kernel, rfl⟩
theorem dX8_copy_16 : xd cX8_copy 16 (.invokevirtual 79) 3 19 := ⟨by decide +kernel, rfl⟩
theorem dX8_copy_19 : xd cX8_copy 19 .ireturn 1 20 := ⟨by decide +kernel, rfl⟩
theorem dX8_copy_20 : xd cX8_copy 20 (.aload_n 0) 1 21 := ⟨by decide +kernel, rfl⟩
theorem dX8_copy_21 : xd cX8_copy 21 (.getfield 62) 3 24 := ⟨by decide +kernel, rfl⟩
theorem dX8_copy_24 : xd cX8_copy 24 (.iload_n 1) 1 25 := ⟨by decide +kernel, rfl⟩
theorem dX8_copy_25 : xd cX8_copy 25 .aaload 1 26 := ⟨by decide +kernel, rfl⟩
theorem dX8_copy_26 : xd cX8_copy 26 (.astore 6) 2 28 := ⟨by decide +kernel, rfl⟩
theorem dX8_copy_28 : xd cX8_copy 28 (.aload_n 0) 1 29 := ⟨by decide +kernel, rfl⟩
theorem dX8_copy_29 : xd cX8_copy 29 (.getfield 62) 3 32 := ⟨by decide +kernel, rfl⟩
theorem dX8_copy_32 : xd cX8_copy 32 (.iload_n 3) 1 33 := ⟨by decide +kernel, rfl⟩
theorem dX8_copy_33 : xd cX8_copy 33 .aaload 1 34 := ⟨by decide +kernel, rfl⟩
theorem dX8_copy_34 : xd cX8_copy 34 (.astore 7) 2 36 := ⟨by decide +kernel, rfl⟩
theorem dX8_copy_36 : xd cX8_copy 36 (.aload 6) 2 38 := ⟨by decide +kernel, rfl⟩
theorem dX8_copy_38 : xd cX8_copy 38 (.getfield 248) 3 41 := ⟨by decide +kernel, rfl⟩
theorem dX8_copy_41 : xj cX8_copy 41 (.ifCond .eq) 44 52 := ⟨11, by decide +kernel, rfl, by decide⟩
theorem dX8_copy_44 : xd cX8_copy 44 (.aload 7) 2 46 := ⟨by decide +kernel, rfl⟩
theorem dX8_copy_46 : xd cX8_copy 46 (.getfield 248) 3 49 := ⟨by decide +kernel, rfl⟩
theorem dX8_copy_49 : xj cX8_copy 49 (.ifCond .ne) 52 58 := ⟨9, by decide +kernel, rfl, by decide⟩
theorem dX8_copy_52 : xd cX8_copy 52 (.aload_n 0) 1 53 := ⟨by decide +kernel, rfl⟩
theorem dX8_copy_53 : xd cX8_copy 53 (.iconst 5) 1 54 := ⟨by decide +kernel, rfl⟩
theorem dX8_copy_54 : xd cX8_copy 54 (.invokevirtual 79) 3 57 := ⟨by decide +kernel, rfl⟩
theorem dX8_copy_57 : xd cX8_copy 57 .ireturn 1 58 := ⟨by decide +kernel, rfl⟩
theorem dX8_copy_58 : xd cX8_copy 58 (.aload 6) 2 60 := ⟨by decide +kernel, rfl⟩
theorem dX8_copy_60 : xd cX8_copy 60 (.getfield 248) 3 63 := ⟨by decide +kernel, rfl⟩
theorem dX8_copy_63 : xd cX8_copy 63 (.aload 7) 2 65 := ⟨by decide +kernel, rfl⟩
theorem dX8_copy_65 : xd cX8_copy 65 (.getfield 248) 3 68 := ⟨by decide +kernel, rfl⟩
theorem dX8_copy_68 : xj cX8_copy 68 (.if_icmp .eq) 71 77 := ⟨9, by decide +kernel, rfl, by decide⟩
theorem dX8_copy_71 : xd cX8_copy 71 (.aload_n 0) 1 72 := ⟨by decide +kernel, rfl⟩
theorem dX8_copy_72 : xd cX8_copy 72 (.iconst 2) 1 73 := ⟨by decide +kernel, rfl⟩
theorem dX8_copy_73 : xd cX8_copy 73 (.invokevirtual 79) 3 76 := ⟨by decide +kernel, rfl⟩
theorem dX8_copy_76 : xd cX8_copy 76 .ireturn 1 77 := ⟨by decide +kernel, rfl⟩
theorem dX8_copy_77 : xd cX8_copy 77 (.aload 6) 2 79 := ⟨by decide +kernel, rfl⟩
theorem dX8_copy_79 : xd cX8_copy 79 (.iload_n 2) 1 80 := ⟨by decide +kernel, rfl⟩
theorem dX8_copy_80 : xd cX8_copy 80 (.iload 5) 2 82 := ⟨by decide +kernel, rfl⟩
theorem dX8_copy_82 : xd cX8_copy 82 (.invokevirtual 261) 3 85 := ⟨by decide +kernel, rfl⟩
theorem dX8_copy_85 : xj cX8_copy 85 (.ifCond .eq) 88 100 := ⟨15, by decide +kernel, rfl, by decide⟩
theorem dX8_copy_88 : xd cX8_copy 88 (.aload 7) 2 90 := ⟨by decide +kernel, rfl⟩
theorem dX8_copy_90 : xd cX8_copy 90 (.iload 4) 2 92 := ⟨by decide +kernel, rfl⟩
theorem dX8_copy_92 : xd cX8_copy 92 (.iload 5) 2 94 := ⟨by decide +kernel, rfl⟩
theorem dX8_copy_94 : xd cX8_copy 94 (.invokevirtual 261) 3 97 := ⟨by decide +kernel, rfl⟩
theorem dX8_copy_97 : xj cX8_copy 97 (.ifCond .ne) 100 106 := ⟨9, by decide +kernel, rfl, by decide⟩
theorem dX8_copy_100 : xd cX8_copy 100 (.aload_n 0) 1 101 := ⟨by decide +kernel, rfl⟩
theorem dX8_copy_101 : xd cX8_copy 101 (.iconst 0) 1 102 := ⟨by decide +kernel, rfl⟩
theorem dX8_copy_102 : xd cX8_copy 102 (.invokevirtual 79) 3 105 := ⟨by decide +kernel, rfl⟩
theorem dX8_copy_105 : xd cX8_copy 105 .ireturn 1 106 := ⟨by decide +kernel, rfl⟩
theorem dX8_copy_106 : xd cX8_copy 106 (.aload 6) 2 108 := ⟨by decide +kernel, rfl⟩
theorem dX8_copy_108 : xd cX8_copy 108 (.getfield 253) 3 111 := ⟨by decide +kernel, rfl⟩
theorem dX8_copy_111 : xd cX8_copy 111 (.iload_n 2) 1 112 := ⟨by decide +kernel, rfl⟩
theorem dX8_copy_112 : xd cX8_copy 112 (.aload 7) 2 114 := ⟨by decide +kernel, rfl⟩
theorem dX8_copy_114 : xd cX8_copy 114 (.getfield 253) 3 117 := ⟨by decide +kernel, rfl⟩
theorem dX8_copy_117 : xd cX8_copy 117 (.iload 4) 2 119 := ⟨by decide +kernel, rfl⟩
theorem dX8_copy_119 : xd cX8_copy 119 (.iload 5) 2 121 := ⟨by decide +kernel, rfl⟩
theorem dX8_copy_121 : xd cX8_copy 121 (.invokestatic 264) 3 124 := ⟨by decide +kernel, rfl⟩
theorem dX8_copy_124 : xd cX8_copy 124 (.iload 5) 2 126 := ⟨by decide +kernel, rfl⟩
theorem dX8_copy_126 : xd cX8_copy 126 .ireturn 1 127 := ⟨by decide +kernel, rfl⟩

set_option maxRecDepth 100000 in
set_option maxHeartbeats 4000000 in
theorem ct_copy_b (l : Launch) (g : XG) (aM aS aK aL aC aW aR aT aH aF : Nat) (ts : Nat) (kp : Int32) (fi : Nat → Nat) (s f t to n : Int32) (hb : wI s 0 3 = 0 ∨ wI t 0 3 = 0) : Ct l g 32 0 0 yX8_copy cX8_copy 8 (some .int) [.ref aM, .int s, .int f, .int t, .int to, .int n] [(aM, .inr (8, [.ref aS, .ref aK, .ref aL, .ref aC, .ref aW, .ref aR, .ref aT, .ref aH, .ref aF, .int (nI ts), .int kp])), (aF, .inl (g.2.1 0, 7, .inl (nIf fi)))] (xpi (fndI 0) [(aM, .inr (8, [.ref aS, .ref aK, .ref aL, .ref aC, .ref aW, .ref aR, .ref aT, .ref aH, .ref aF, .int (nI ts), .int kp])), (aF, .inl (g.2.1 0, 7, .inl (nIf (updN fi 0 (fi 0 + 1)))))]) := by
  refine Ct.ofX (lv := [some (.ref aM), some (.int s), some (.int f), some (.int t), some (.int to), some (.int n), none, none]) (by decide) rfl (Nat.le_of_ble_eq_true rfl) (fun κ => ?_)
  generalize hQ : xQ κ g 0 0 _ = Q
  refine x_iload_n dX8_copy_0 rfl ?_
  refine x_cSi dX8_copy_1 ml_X8_239 mX8_isSheet (ct_X8_isSheet κ.2.1 g s) rfl (Nat.le_of_ble_eq_true rfl) (by decide) (Nat.le_refl _) (Nat.le_refl _) ?_
  refine x_if_eq dX8_copy_4 (fun c4 => ?_) (fun c4 => ?_)
  · have c4 : (wI s 0 3) = 0 := c4
    refine x_aload_n dX8_copy_14 rfl ?_
    refine x_iconst 0 dX8_copy_15 (by decide) ?_
    refine x_cVi (ws' := [(aM, .inr (8, [.ref aS, .ref aK, .ref aL, .ref aC, .ref aW, .ref aR, .ref aT, .ref aH, .ref aF, .int (nI ts), .int kp])), (aF, .inl (g.2.1 0, 7, .inl (nIf (updN fi 0 (fi 0 + 1)))))]) dX8_copy_16 ml_X8_79 mX8_tell (ct_X8_tell κ.2.1 g aM aS aK aL aC aW aR aT aH aF ts kp fi 0 (by decide)) [0, 1] rfl rfl 0 rfl rfl rfl (Nat.le_of_ble_eq_true rfl) (by decide) (Nat.le_refl _) (Nat.le_refl _) (rfl : [aM, aF] = [aM, aF]) rfl ?_
    rw [← hQ]
    refine x_iret dX8_copy_19 rfl (Nat.le_of_ble_eq_true rfl) (Nat.le_of_ble_eq_true rfl) ?_
    exact ⟨rfl, rfl⟩
  · have c4 : ¬ ((wI s 0 3) = 0) := c4
    refine x_iload_n dX8_copy_7 rfl ?_
    refine x_cSi dX8_copy_8 ml_X8_239 mX8_isSheet (ct_X8_isSheet κ.2.1 g t) rfl (Nat.le_of_ble_eq_true rfl) (by decide) (Nat.le_refl _) (Nat.le_refl _) ?_
    refine x_if_ne dX8_copy_11 (fun c11 => ?_) (fun c11 => ?_)
    · have c11 : ¬ ((wI t 0 3) = 0) := c11
      exact absurd (hb.resolve_left c4) c11
    · have c11 : (wI t 0 3) = 0 := c11
      refine x_aload_n dX8_copy_14 rfl ?_
      refine x_iconst 0 dX8_copy_15 (by decide) ?_
      refine x_cVi (ws' := [(aM, .inr (8, [.ref aS, .ref aK, .ref aL, .ref aC, .ref aW, .ref aR, .ref aT, .ref aH, .ref aF, .int (nI ts), .int kp])), (aF, .inl (g.2.1 0, 7, .inl (nIf (updN fi 0 (fi 0 + 1)))))]) dX8_copy_16 ml_X8_79 mX8_tell (ct_X8_tell κ.2.1 g aM aS aK aL aC aW aR aT aH aF ts kp fi 0 (by decide)) [0, 1] rfl rfl 0 rfl rfl rfl (Nat.le_of_ble_eq_true rfl) (by decide) (Nat.le_refl _) (Nat.le_refl _) (rfl : [aM, aF] = [aM, aF]) rfl ?_
      rw [← hQ]
      refine x_iret dX8_copy_19 rfl (Nat.le_of_ble_eq_true rfl) (Nat.le_of_ble_eq_true rfl) ?_
      exact ⟨rfl, rfl⟩

-- == copy_m ==
set_option maxRecDepth 100000 in
set_option maxHeartbeats 4000000 in
theorem ct_copy_m (l : Launch) (g : XG) (aM aS aK aL aC aW aR aT aH aF : Nat) (ts : Nat) (kp : Int32) (fi : Nat → Nat) (f to n : Int32) (s : Nat) (aA aAn b n0 : Nat) (nu : Nat → Int64) (shF : Nat → Option Nat) (aB aBn b2 n2 t : Nat) (nu2 : Nat → Int64) (hs4 : s < 4) (hs : shF s = some aA) (ht4 : t < 4) (ht : shF t = some aB) (hm : b = 0 ∨ b2 = 0) (hbl : b < 2 ^ 31 ∧ b2 < 2 ^ 31) : Ct l g 32 0 0 yX8_copy cX8_copy 8 (some .int) [.ref aM, .int (nI s), .int f, .int (nI t), .int to, .int n] [(aM, .inr (8, [.ref aS, .ref aK, .ref aL, .ref aC, .ref aW, .ref aR, .ref aT, .ref aH, .ref aF, .int (nI ts), .int kp])), (aF, .inl (g.2.1 0, 7, .inl (nIf fi))), (aH, .inl (g.2.1 4, 4, .inr (.inr (.inr (.inr shF))))), (aA, .inr (4, [.ref aAn, .int (nI b), .int (nI n0)])), (aAn, .inl (g.2.1 2, 40, .inr (.inl nu))), (aB, .inr (4, [.ref aBn, .int (nI b2), .int (nI n2)])), (aBn, .inl (g.2.1 2, 40, .inr (.inl nu2)))] (xpi (fndI 5) [(aM, .inr (8, [.ref aS, .ref aK, .ref aL, .ref aC, .ref aW, .ref aR, .ref aT, .ref aH, .ref aF, .int (nI ts), .int kp])), (aF, .inl (g.2.1 0, 7, .inl (nIf (updN fi 5 (fi 5 + 1))))), (aH, .inl (g.2.1 4, 4, .inr (.inr (.inr (.inr shF))))), (aA, .inr (4, [.ref aAn, .int (nI b), .int (nI n0)])), (aAn, .inl (g.2.1 2, 40, .inr (.inl nu))), (aB, .inr (4, [.ref aBn, .int (nI b2), .int (nI n2)])), (aBn, .inl (g.2.1 2, 40, .inr (.inl nu2)))]) := by
  refine Ct.ofX (lv := [some (.ref aM), some (.int (nI s)), some (.int f), some (.int (nI t)), some (.int to), some (.int n), none, none]) (by decide) rfl (Nat.le_of_ble_eq_true rfl) (fun κ => ?_)
  generalize hQ : xQ κ g 0 0 _ = Q
  refine x_iload_n dX8_copy_0 rfl ?_
  refine x_cSi dX8_copy_1 ml_X8_239 mX8_isSheet (ct_isSheet_n κ.2.1 g s (hs4)) rfl (Nat.le_of_ble_eq_true rfl) (by decide) (Nat.le_refl _) (Nat.le_refl _) ?_
  refine x_if_eq dX8_copy_4 (fun c4 => ?_) (fun c4 => ?_)
  · exact absurd c4 (by decide)
  refine x_iload_n dX8_copy_7 rfl ?_
  refine x_cSi dX8_copy_8 ml_X8_239 mX8_isSheet (ct_isSheet_n κ.2.1 g t (ht4)) rfl (Nat.le_of_ble_eq_true rfl) (by decide) (Nat.le_refl _) (Nat.le_refl _) ?_
  refine x_if_ne dX8_copy_11 (fun c11 => ?_) (fun c11 => ?_)
  rotate_left
  · exact absurd c11 (by decide)
  refine x_aload_n dX8_copy_20 rfl ?_
  refine x_get dX8_copy_21 0 7 inX8 fl_X8_62 rfl rfl (by decide) rfl ?_
  refine x_iload_n dX8_copy_24 rfl ?_
  refine x_qald dX8_copy_25 2 s rfl (rfl) (by omega) (by decide) (hs) ?_
  refine x_astore (lv' := [some (.ref aM), some (.int (nI s)), some (.int f), some (.int (nI t)), some (.int to), some (.int n), some (.ref aA), none]) dX8_copy_26 (xlt rfl) rfl ?_
  refine x_aload_n dX8_copy_28 rfl ?_
  refine x_get dX8_copy_29 0 7 inX8 fl_X8_62 rfl rfl (by decide) rfl ?_
  refine x_iload_n dX8_copy_32 rfl ?_
  refine x_qald dX8_copy_33 2 t rfl (rfl) (by omega) (by decide) (ht) ?_
  refine x_astore (lv' := [some (.ref aM), some (.int (nI s)), some (.int f), some (.int (nI t)), some (.int to), some (.int n), some (.ref aA), some (.ref aB)]) dX8_copy_34 (xlt rfl) rfl ?_
  refine x_aload dX8_copy_36 rfl ?_
  refine x_get dX8_copy_38 3 1 inX4 fl_X8_248 rfl rfl (by decide) rfl ?_
  refine x_if_eq dX8_copy_41 (fun c41 => ?_) (fun c41 => ?_)
  · have c41 : (nI b) = 0 := c41
    have c41n := (nI_eq (a := b) (b := 0) (by omega) (by omega)).mp c41
    refine x_aload_n dX8_copy_52 rfl ?_
    refine x_iconst 5 dX8_copy_53 (by decide) ?_
    refine x_cVi (ws' := [(aM, .inr (8, [.ref aS, .ref aK, .ref aL, .ref aC, .ref aW, .ref aR, .ref aT, .ref aH, .ref aF, .int (nI ts), .int kp])), (aF, .inl (g.2.1 0, 7, .inl (nIf (updN fi 5 (fi 5 + 1))))), (aH, .inl (g.2.1 4, 4, .inr (.inr (.inr (.inr shF))))), (aA, .inr (4, [.ref aAn, .int (nI b), .int (nI n0)])), (aAn, .inl (g.2.1 2, 40, .inr (.inl nu))), (aB, .inr (4, [.ref aBn, .int (nI b2), .int (nI n2)])), (aBn, .inl (g.2.1 2, 40, .inr (.inl nu2)))]) dX8_copy_54 ml_X8_79 mX8_tell (ct_X8_tell κ.2.1 g aM aS aK aL aC aW aR aT aH aF ts kp fi 5 (by decide)) [0, 1] rfl rfl 0 rfl rfl rfl (Nat.le_of_ble_eq_true rfl) (by decide) (Nat.le_refl _) (Nat.le_refl _) (rfl : [aM, aF] = [aM, aF]) rfl ?_
    rw [← hQ]
    refine x_iret dX8_copy_57 rfl (Nat.le_of_ble_eq_true rfl) (Nat.le_of_ble_eq_true rfl) ?_
    exact ⟨rfl, rfl⟩
  · have c41 : ¬ ((nI b) = 0) := c41
    have c41n := mt (nI_eq (a := b) (b := 0) (by omega) (by omega)).mpr c41
    refine x_aload dX8_copy_44 rfl ?_
    refine x_get dX8_copy_46 5 1 inX4 fl_X8_248 rfl rfl (by decide) rfl ?_
    refine x_if_ne dX8_copy_49 (fun c49 => ?_) (fun c49 => ?_)
    · have c49 : ¬ ((nI b2) = 0) := c49
      have c49n := mt (nI_eq (a := b2) (b := 0) (by omega) (by omega)).mpr c49
      exact absurd (hm.resolve_left c41n) c49n
    · have c49 : (nI b2) = 0 := c49
      have c49n := (nI_eq (a := b2) (b := 0) (by omega) (by omega)).mp c49
      refine x_aload_n dX8_copy_52 rfl ?_
      refine x_iconst 5 dX8_copy_53 (by decide) ?_
      refine x_cVi (ws' := [(aM, .inr (8, [.ref aS, .ref aK, .ref aL, .ref aC, .ref aW, .ref aR, .ref aT, .ref aH, .ref aF, .int (nI ts), .int kp])), (aF, .inl (g.2.1 0, 7, .inl (nIf (updN fi 5 (fi 5 + 1))))), (aH, .inl (g.2.1 4, 4, .inr (.inr (.inr (.inr shF))))), (aA, .inr (4, [.ref aAn, .int (nI b), .int (nI n0)])), (aAn, .inl (g.2.1 2, 40, .inr (.inl nu))), (aB, .inr (4, [.ref aBn, .int (nI b2), .int (nI n2)])), (aBn, .inl (g.2.1 2, 40, .inr (.inl nu2)))]) dX8_copy_54 ml_X8_79 mX8_tell (ct_X8_tell κ.2.1 g aM aS aK aL aC aW aR aT aH aF ts kp fi 5 (by decide)) [0, 1] rfl rfl 0 rfl rfl rfl (Nat.le_of_ble_eq_true rfl) (by decide) (Nat.le_refl _) (Nat.le_refl _) (rfl : [aM, aF] = [aM, aF]) rfl ?_
      rw [← hQ]
      refine x_iret dX8_copy_57 rfl (Nat.le_of_ble_eq_true rfl) (Nat.le_of_ble_eq_true rfl) ?_
      exact ⟨rfl, rfl⟩

-- == copy_k ==
set_option maxRecDepth 100000 in
set_option maxHeartbeats 4000000 in
theorem ct_copy_k (l : Launch) (g : XG) (aM aS aK aL aC aW aR aT aH aF : Nat) (ts : Nat) (kp : Int32) (fi : Nat → Nat) (f to n : Int32) (s : Nat) (aA aAn b n0 : Nat) (nu : Nat → Int64) (shF : Nat → Option Nat) (aB aBn b2 n2 t : Nat) (nu2 : Nat → Int64) (hs4 : s < 4) (hs : shF s = some aA) (ht4 : t < 4) (ht : shF t = some aB) (hm : ¬ b = 0 ∧ ¬ b2 = 0) (hbl : b < 2 ^ 31 ∧ b2 < 2 ^ 31) (hk : ¬ b = b2) : Ct l g 32 0 0 yX8_copy cX8_copy 8 (some .int) [.ref aM, .int (nI s), .int f, .int (nI t), .int to, .int n] [(aM, .inr (8, [.ref aS, .ref aK, .ref aL, .ref aC, .ref aW, .ref aR, .ref aT, .ref aH, .ref aF, .int (nI ts), .int kp])), (aF, .inl (g.2.1 0, 7, .inl (nIf fi))), (aH, .inl (g.2.1 4, 4, .inr (.inr (.inr (.inr shF))))), (aA, .inr (4, [.ref aAn, .int (nI b), .int (nI n0)])), (aAn, .inl (g.2.1 2, 40, .inr (.inl nu))), (aB, .inr (4, [.ref aBn, .int (nI b2), .int (nI n2)])), (aBn, .inl (g.2.1 2, 40, .inr (.inl nu2)))] (xpi (fndI 2) [(aM, .inr (8, [.ref aS, .ref aK, .ref aL, .ref aC, .ref aW, .ref aR, .ref aT, .ref aH, .ref aF, .int (nI ts), .int kp])), (aF, .inl (g.2.1 0, 7, .inl (nIf (updN fi 2 (fi 2 + 1))))), (aH, .inl (g.2.1 4, 4, .inr (.inr (.inr (.inr shF))))), (aA, .inr (4, [.ref aAn, .int (nI b), .int (nI n0)])), (aAn, .inl (g.2.1 2, 40, .inr (.inl nu))), (aB, .inr (4, [.ref aBn, .int (nI b2), .int (nI n2)])), (aBn, .inl (g.2.1 2, 40, .inr (.inl nu2)))]) := by
  refine Ct.ofX (lv := [some (.ref aM), some (.int (nI s)), some (.int f), some (.int (nI t)), some (.int to), some (.int n), none, none]) (by decide) rfl (Nat.le_of_ble_eq_true rfl) (fun κ => ?_)
  generalize hQ : xQ κ g 0 0 _ = Q
  refine x_iload_n dX8_copy_0 rfl ?_
  refine x_cSi dX8_copy_1 ml_X8_239 mX8_isSheet (ct_isSheet_n κ.2.1 g s (hs4)) rfl (Nat.le_of_ble_eq_true rfl) (by decide) (Nat.le_refl _) (Nat.le_refl _) ?_
  refine x_if_eq dX8_copy_4 (fun c4 => ?_) (fun c4 => ?_)
  · exact absurd c4 (by decide)
  refine x_iload_n dX8_copy_7 rfl ?_
  refine x_cSi dX8_copy_8 ml_X8_239 mX8_isSheet (ct_isSheet_n κ.2.1 g t (ht4)) rfl (Nat.le_of_ble_eq_true rfl) (by decide) (Nat.le_refl _) (Nat.le_refl _) ?_
  refine x_if_ne dX8_copy_11 (fun c11 => ?_) (fun c11 => ?_)
  rotate_left
  · exact absurd c11 (by decide)
  refine x_aload_n dX8_copy_20 rfl ?_
  refine x_get dX8_copy_21 0 7 inX8 fl_X8_62 rfl rfl (by decide) rfl ?_
  refine x_iload_n dX8_copy_24 rfl ?_
  refine x_qald dX8_copy_25 2 s rfl (rfl) (by omega) (by decide) (hs) ?_
  refine x_astore (lv' := [some (.ref aM), some (.int (nI s)), some (.int f), some (.int (nI t)), some (.int to), some (.int n), some (.ref aA), none]) dX8_copy_26 (xlt rfl) rfl ?_
  refine x_aload_n dX8_copy_28 rfl ?_
  refine x_get dX8_copy_29 0 7 inX8 fl_X8_62 rfl rfl (by decide) rfl ?_
  refine x_iload_n dX8_copy_32 rfl ?_
  refine x_qald dX8_copy_33 2 t rfl (rfl) (by omega) (by decide) (ht) ?_
  refine x_astore (lv' := [some (.ref aM), some (.int (nI s)), some (.int f), some (.int (nI t)), some (.int to), some (.int n), some (.ref aA), some (.ref aB)]) dX8_copy_34 (xlt rfl) rfl ?_
  refine x_aload dX8_copy_36 rfl ?_
  refine x_get dX8_copy_38 3 1 inX4 fl_X8_248 rfl rfl (by decide) rfl ?_
  refine x_if_eq dX8_copy_41 (fun c41 => ?_) (fun c41 => ?_)
  · have c41 : (nI b) = 0 := c41
    have c41n := (nI_eq (a := b) (b := 0) (by omega) (by omega)).mp c41
    exact absurd c41n hm.1
  · have c41 : ¬ ((nI b) = 0) := c41
    have c41n := mt (nI_eq (a := b) (b := 0) (by omega) (by omega)).mpr c41
    refine x_aload dX8_copy_44 rfl ?_
    refine x_get dX8_copy_46 5 1 inX4 fl_X8_248 rfl rfl (by decide) rfl ?_
    refine x_if_ne dX8_copy_49 (fun c49 => ?_) (fun c49 => ?_)
    · have c49 : ¬ ((nI b2) = 0) := c49
      have c49n := mt (nI_eq (a := b2) (b := 0) (by omega) (by omega)).mpr c49
      refine x_aload dX8_copy_58 rfl ?_
      refine x_get dX8_copy_60 3 1 inX4 fl_X8_248 rfl rfl (by decide) rfl ?_
      refine x_aload dX8_copy_63 rfl ?_
      refine x_get dX8_copy_65 5 1 inX4 fl_X8_248 rfl rfl (by decide) rfl ?_
      refine x_icmp_eq dX8_copy_68 (fun c68 => ?_) (fun c68 => ?_)
      · have c68 : (nI b) = (nI b2) := c68
        have c68n := (nI_eq (a := b) (b := b2) (by omega) (by omega)).mp c68
        exact absurd c68n hk
      · have c68 : ¬ ((nI b) = (nI b2)) := c68
        have c68n := mt (nI_eq (a := b) (b := b2) (by omega) (by omega)).mpr c68
        refine x_aload_n dX8_copy_71 rfl ?_
        refine x_iconst 2 dX8_copy_72 (by decide) ?_
        refine x_cVi (ws' := [(aM, .inr (8, [.ref aS, .ref aK, .ref aL, .ref aC, .ref aW, .ref aR, .ref aT, .ref aH, .ref aF, .int (nI ts), .int kp])), (aF, .inl (g.2.1 0, 7, .inl (nIf (updN fi 2 (fi 2 + 1))))), (aH, .inl (g.2.1 4, 4, .inr (.inr (.inr (.inr shF))))), (aA, .inr (4, [.ref aAn, .int (nI b), .int (nI n0)])), (aAn, .inl (g.2.1 2, 40, .inr (.inl nu))), (aB, .inr (4, [.ref aBn, .int (nI b2), .int (nI n2)])), (aBn, .inl (g.2.1 2, 40, .inr (.inl nu2)))]) dX8_copy_73 ml_X8_79 mX8_tell (ct_X8_tell κ.2.1 g aM aS aK aL aC aW aR aT aH aF ts kp fi 2 (by decide)) [0, 1] rfl rfl 0 rfl rfl rfl (Nat.le_of_ble_eq_true rfl) (by decide) (Nat.le_refl _) (Nat.le_refl _) (rfl : [aM, aF] = [aM, aF]) rfl ?_
        rw [← hQ]
        refine x_iret dX8_copy_76 rfl (Nat.le_of_ble_eq_true rfl) (Nat.le_of_ble_eq_true rfl) ?_
        exact ⟨rfl, rfl⟩
    · have c49 : (nI b2) = 0 := c49
      have c49n := (nI_eq (a := b2) (b := 0) (by omega) (by omega)).mp c49
      exact absurd c49n hm.2

-- == copy_c ==
set_option maxRecDepth 100000 in
set_option maxHeartbeats 4000000 in
theorem ct_copy_c (l : Launch) (g : XG) (aM aS aK aL aC aW aR aT aH aF : Nat) (ts : Nat) (kp : Int32) (fi : Nat → Nat) (f to n : Int32) (s : Nat) (aA aAn b n0 : Nat) (nu : Nat → Int64) (shF : Nat → Option Nat) (aB aBn b2 n2 t : Nat) (nu2 : Nat → Int64) (hs4 : s < 4) (hs : shF s = some aA) (ht4 : t < 4) (ht : shF t = some aB) (hm : ¬ b = 0 ∧ ¬ b2 = 0) (hbl : b < 2 ^ 31 ∧ b2 < 2 ^ 31) (hk : b = b2) (hb : hdI n0 f n = 0 ∨ hdI n2 to n = 0) : Ct l g 32 0 0 yX8_copy cX8_copy 8 (some .int) [.ref aM, .int (nI s), .int f, .int (nI t), .int to, .int n] [(aM, .inr (8, [.ref aS, .ref aK, .ref aL, .ref aC, .ref aW, .ref aR, .ref aT, .ref aH, .ref aF, .int (nI ts), .int kp])), (aF, .inl (g.2.1 0, 7, .inl (nIf fi))), (aH, .inl (g.2.1 4, 4, .inr (.inr (.inr (.inr shF))))), (aA, .inr (4, [.ref aAn, .int (nI b), .int (nI n0)])), (aAn, .inl (g.2.1 2, 40, .inr (.inl nu))), (aB, .inr (4, [.ref aBn, .int (nI b2), .int (nI n2)])), (aBn, .inl (g.2.1 2, 40, .inr (.inl nu2)))] (xpi (fndI 0) [(aM, .inr (8, [.ref aS, .ref aK, .ref aL, .ref aC, .ref aW, .ref aR, .ref aT, .ref aH, .ref aF, .int (nI ts), .int kp])), (aF, .inl (g.2.1 0, 7, .inl (nIf (updN fi 0 (fi 0 + 1))))), (aH, .inl (g.2.1 4, 4, .inr (.inr (.inr (.inr shF))))), (aA, .inr (4, [.ref aAn, .int (nI b), .int (nI n0)])), (aAn, .inl (g.2.1 2, 40, .inr (.inl nu))), (aB, .inr (4, [.ref aBn, .int (nI b2), .int (nI n2)])), (aBn, .inl (g.2.1 2, 40, .inr (.inl nu2)))]) := by
  refine Ct.ofX (lv := [some (.ref aM), some (.int (nI s)), some (.int f), some (.int (nI t)), some (.int to), some (.int n), none, none]) (by decide) rfl (Nat.le_of_ble_eq_true rfl) (fun κ => ?_)
  generalize hQ : xQ κ g 0 0 _ = Q
  refine x_iload_n dX8_copy_0 rfl ?_
  refine x_cSi dX8_copy_1 ml_X8_239 mX8_isSheet (ct_isSheet_n κ.2.1 g s (hs4)) rfl (Nat.le_of_ble_eq_true rfl) (by decide) (Nat.le_refl _) (Nat.le_refl _) ?_
  refine x_if_eq dX8_copy_4 (fun c4 => ?_) (fun c4 => ?_)
  · exact absurd c4 (by decide)
  refine x_iload_n dX8_copy_7 rfl ?_
  refine x_cSi dX8_copy_8 ml_X8_239 mX8_isSheet (ct_isSheet_n κ.2.1 g t (ht4)) rfl (Nat.le_of_ble_eq_true rfl) (by decide) (Nat.le_refl _) (Nat.le_refl _) ?_
  refine x_if_ne dX8_copy_11 (fun c11 => ?_) (fun c11 => ?_)
  rotate_left
  · exact absurd c11 (by decide)
  refine x_aload_n dX8_copy_20 rfl ?_
  refine x_get dX8_copy_21 0 7 inX8 fl_X8_62 rfl rfl (by decide) rfl ?_
  refine x_iload_n dX8_copy_24 rfl ?_
  refine x_qald dX8_copy_25 2 s rfl (rfl) (by omega) (by decide) (hs) ?_
  refine x_astore (lv' := [some (.ref aM), some (.int (nI s)), some (.int f), some (.int (nI t)), some (.int to), some (.int n), some (.ref aA), none]) dX8_copy_26 (xlt rfl) rfl ?_
  refine x_aload_n dX8_copy_28 rfl ?_
  refine x_get dX8_copy_29 0 7 inX8 fl_X8_62 rfl rfl (by decide) rfl ?_
  refine x_iload_n dX8_copy_32 rfl ?_
  refine x_qald dX8_copy_33 2 t rfl (rfl) (by omega) (by decide) (ht) ?_
  refine x_astore (lv' := [some (.ref aM), some (.int (nI s)), some (.int f), some (.int (nI t)), some (.int to), some (.int n), some (.ref aA), some (.ref aB)]) dX8_copy_34 (xlt rfl) rfl ?_
  refine x_aload dX8_copy_36 rfl ?_
  refine x_get dX8_copy_38 3 1 inX4 fl_X8_248 rfl rfl (by decide) rfl ?_
  refine x_if_eq dX8_copy_41 (fun c41 => ?_) (fun c41 => ?_)
  · have c41 : (nI b) = 0 := c41
    have c41n := (nI_eq (a := b) (b := 0) (by omega) (by omega)).mp c41
    exact absurd c41n hm.1
  · have c41 : ¬ ((nI b) = 0) := c41
    have c41n := mt (nI_eq (a := b) (b := 0) (by omega) (by omega)).mpr c41
    refine x_aload dX8_copy_44 rfl ?_
    refine x_get dX8_copy_46 5 1 inX4 fl_X8_248 rfl rfl (by decide) rfl ?_
    refine x_if_ne dX8_copy_49 (fun c49 => ?_) (fun c49 => ?_)
    · have c49 : ¬ ((nI b2) = 0) := c49
      have c49n := mt (nI_eq (a := b2) (b := 0) (by omega) (by omega)).mpr c49
      refine x_aload dX8_copy_58 rfl ?_
      refine x_get dX8_copy_60 3 1 inX4 fl_X8_248 rfl rfl (by decide) rfl ?_
      refine x_aload dX8_copy_63 rfl ?_
      refine x_get dX8_copy_65 5 1 inX4 fl_X8_248 rfl rfl (by decide) rfl ?_
      refine x_icmp_eq dX8_copy_68 (fun c68 => ?_) (fun c68 => ?_)
      · have c68 : (nI b) = (nI b2) := c68
        have c68n := (nI_eq (a := b) (b := b2) (by omega) (by omega)).mp c68
        refine x_aload dX8_copy_77 rfl ?_
        refine x_iload_n dX8_copy_79 rfl ?_
        refine x_iload dX8_copy_80 rfl ?_
        refine x_cVi0 dX8_copy_82 ml_X8_261 mX4_holds (ct_X4_holds κ.2.1 g aA aAn b n0 f n) [3] rfl rfl 3 rfl rfl rfl (Nat.le_of_ble_eq_true rfl) (by decide) (Nat.le_refl _) (Nat.le_refl _) ?_
        refine x_if_eq dX8_copy_85 (fun c85 => ?_) (fun c85 => ?_)
        · have c85 : (hdI n0 f n) = 0 := c85
          refine x_aload_n dX8_copy_100 rfl ?_
          refine x_iconst 0 dX8_copy_101 (by decide) ?_
          refine x_cVi (ws' := [(aM, .inr (8, [.ref aS, .ref aK, .ref aL, .ref aC, .ref aW, .ref aR, .ref aT, .ref aH, .ref aF, .int (nI ts), .int kp])), (aF, .inl (g.2.1 0, 7, .inl (nIf (updN fi 0 (fi 0 + 1))))), (aH, .inl (g.2.1 4, 4, .inr (.inr (.inr (.inr shF))))), (aA, .inr (4, [.ref aAn, .int (nI b), .int (nI n0)])), (aAn, .inl (g.2.1 2, 40, .inr (.inl nu))), (aB, .inr (4, [.ref aBn, .int (nI b2), .int (nI n2)])), (aBn, .inl (g.2.1 2, 40, .inr (.inl nu2)))]) dX8_copy_102 ml_X8_79 mX8_tell (ct_X8_tell κ.2.1 g aM aS aK aL aC aW aR aT aH aF ts kp fi 0 (by decide)) [0, 1] rfl rfl 0 rfl rfl rfl (Nat.le_of_ble_eq_true rfl) (by decide) (Nat.le_refl _) (Nat.le_refl _) (rfl : [aM, aF] = [aM, aF]) rfl ?_
          rw [← hQ]
          refine x_iret dX8_copy_105 rfl (Nat.le_of_ble_eq_true rfl) (Nat.le_of_ble_eq_true rfl) ?_
          exact ⟨rfl, rfl⟩
        · have c85 : ¬ ((hdI n0 f n) = 0) := c85
          refine x_aload dX8_copy_88 rfl ?_
          refine x_iload dX8_copy_90 rfl ?_
          refine x_iload dX8_copy_92 rfl ?_
          refine x_cVi0 dX8_copy_94 ml_X8_261 mX4_holds (ct_X4_holds κ.2.1 g aB aBn b2 n2 to n) [5] rfl rfl 5 rfl rfl rfl (Nat.le_of_ble_eq_true rfl) (by decide) (Nat.le_refl _) (Nat.le_refl _) ?_
          refine x_if_ne dX8_copy_97 (fun c97 => ?_) (fun c97 => ?_)
          · have c97 : ¬ ((hdI n2 to n) = 0) := c97
            exact absurd (hb.resolve_left c85) c97
          · have c97 : (hdI n2 to n) = 0 := c97
            refine x_aload_n dX8_copy_100 rfl ?_
            refine x_iconst 0 dX8_copy_101 (by decide) ?_
            refine x_cVi (ws' := [(aM, .inr (8, [.ref aS, .ref aK, .ref aL, .ref aC, .ref aW, .ref aR, .ref aT, .ref aH, .ref aF, .int (nI ts), .int kp])), (aF, .inl (g.2.1 0, 7, .inl (nIf (updN fi 0 (fi 0 + 1))))), (aH, .inl (g.2.1 4, 4, .inr (.inr (.inr (.inr shF))))), (aA, .inr (4, [.ref aAn, .int (nI b), .int (nI n0)])), (aAn, .inl (g.2.1 2, 40, .inr (.inl nu))), (aB, .inr (4, [.ref aBn, .int (nI b2), .int (nI n2)])), (aBn, .inl (g.2.1 2, 40, .inr (.inl nu2)))]) dX8_copy_102 ml_X8_79 mX8_tell (ct_X8_tell κ.2.1 g aM aS aK aL aC aW aR aT aH aF ts kp fi 0 (by decide)) [0, 1] rfl rfl 0 rfl rfl rfl (Nat.le_of_ble_eq_true rfl) (by decide) (Nat.le_refl _) (Nat.le_refl _) (rfl : [aM, aF] = [aM, aF]) rfl ?_
            rw [← hQ]
            refine x_iret dX8_copy_105 rfl (Nat.le_of_ble_eq_true rfl) (Nat.le_of_ble_eq_true rfl) ?_
            exact ⟨rfl, rfl⟩
      · have c68 : ¬ ((nI b) = (nI b2)) := c68
        have c68n := mt (nI_eq (a := b) (b := b2) (by omega) (by omega)).mpr c68
        exact absurd hk c68n
    · have c49 : (nI b2) = 0 := c49
      have c49n := (nI_eq (a := b2) (b := 0) (by omega) (by omega)).mp c49
      exact absurd c49n hm.2

-- == copy_o ==
set_option maxRecDepth 100000 in
set_option maxHeartbeats 4000000 in
theorem ct_copy_o (l : Launch) (g : XG) (aM aS aK aL aC aW aR aT aH aF : Nat) (ts : Nat) (kp : Int32) (fi : Nat → Nat) (aA aAn b n0 : Nat) (nu : Nat → Int64) (shF : Nat → Option Nat) (aB aBn b2 n2 t : Nat) (nu2 : Nat → Int64) (s f to n : Nat) (hs4 : s < 4) (hs : shF s = some aA) (ht4 : t < 4) (ht : shF t = some aB) (hm : ¬ b = 0 ∧ ¬ b2 = 0) (hbl : b < 2 ^ 31 ∧ b2 < 2 ^ 31) (hk : b = b2) (hnn : f + n ≤ n0 ∧ to + n ≤ n2 ∧ n0 ≤ 40 ∧ n2 ≤ 40) : Ct l g 32 0 0 yX8_copy cX8_copy 8 (some .int) [.ref aM, .int (nI s), .int (nI f), .int (nI t), .int (nI to), .int (nI n)] [(aM, .inr (8, [.ref aS, .ref aK, .ref aL, .ref aC, .ref aW, .ref aR, .ref aT, .ref aH, .ref aF, .int (nI ts), .int kp])), (aF, .inl (g.2.1 0, 7, .inl (nIf fi))), (aH, .inl (g.2.1 4, 4, .inr (.inr (.inr (.inr shF))))), (aA, .inr (4, [.ref aAn, .int (nI b), .int (nI n0)])), (aAn, .inl (g.2.1 2, 40, .inr (.inl nu))), (aB, .inr (4, [.ref aBn, .int (nI b2), .int (nI n2)])), (aBn, .inl (g.2.1 2, 40, .inr (.inl nu2)))] (xpi (nI (n)) [(aM, .inr (8, [.ref aS, .ref aK, .ref aL, .ref aC, .ref aW, .ref aR, .ref aT, .ref aH, .ref aF, .int (nI ts), .int kp])), (aF, .inl (g.2.1 0, 7, .inl (nIf fi))), (aH, .inl (g.2.1 4, 4, .inr (.inr (.inr (.inr shF))))), (aA, .inr (4, [.ref aAn, .int (nI b), .int (nI n0)])), (aAn, .inl (g.2.1 2, 40, .inr (.inl nu))), (aB, .inr (4, [.ref aBn, .int (nI b2), .int (nI n2)])), (aBn, .inl (g.2.1 2, 40, .inr (.inl (va_cpy nu nu2 f to n))))]) := by
  refine Ct.ofX (lv := [some (.ref aM), some (.int (nI s)), some (.int (nI f)), some (.int (nI t)), some (.int (nI to)), some (.int (nI n)), none, none]) (by decide) rfl (Nat.le_of_ble_eq_true rfl) (fun κ => ?_)
  generalize hQ : xQ κ g 0 0 _ = Q
  refine x_iload_n dX8_copy_0 rfl ?_
  refine x_cSi dX8_copy_1 ml_X8_239 mX8_isSheet (ct_isSheet_n κ.2.1 g s (hs4)) rfl (Nat.le_of_ble_eq_true rfl) (by decide) (Nat.le_refl _) (Nat.le_refl _) ?_
  refine x_if_eq dX8_copy_4 (fun c4 => ?_) (fun c4 => ?_)
  · exact absurd c4 (by decide)
  refine x_iload_n dX8_copy_7 rfl ?_
  refine x_cSi dX8_copy_8 ml_X8_239 mX8_isSheet (ct_isSheet_n κ.2.1 g t (ht4)) rfl (Nat.le_of_ble_eq_true rfl) (by decide) (Nat.le_refl _) (Nat.le_refl _) ?_
  refine x_if_ne dX8_copy_11 (fun c11 => ?_) (fun c11 => ?_)
  rotate_left
  · exact absurd c11 (by decide)
  refine x_aload_n dX8_copy_20 rfl ?_
  refine x_get dX8_copy_21 0 7 inX8 fl_X8_62 rfl rfl (by decide) rfl ?_
  refine x_iload_n dX8_copy_24 rfl ?_
  refine x_qald dX8_copy_25 2 s rfl (rfl) (by omega) (by decide) (hs) ?_
  refine x_astore (lv' := [some (.ref aM), some (.int (nI s)), some (.int (nI f)), some (.int (nI t)), some (.int (nI to)), some (.int (nI n)), some (.ref aA), none]) dX8_copy_26 (xlt rfl) rfl ?_
  refine x_aload_n dX8_copy_28 rfl ?_
  refine x_get dX8_copy_29 0 7 inX8 fl_X8_62 rfl rfl (by decide) rfl ?_
  refine x_iload_n dX8_copy_32 rfl ?_
  refine x_qald dX8_copy_33 2 t rfl (rfl) (by omega) (by decide) (ht) ?_
  refine x_astore (lv' := [some (.ref aM), some (.int (nI s)), some (.int (nI f)), some (.int (nI t)), some (.int (nI to)), some (.int (nI n)), some (.ref aA), some (.ref aB)]) dX8_copy_34 (xlt rfl) rfl ?_
  refine x_aload dX8_copy_36 rfl ?_
  refine x_get dX8_copy_38 3 1 inX4 fl_X8_248 rfl rfl (by decide) rfl ?_
  refine x_if_eq dX8_copy_41 (fun c41 => ?_) (fun c41 => ?_)
  · have c41 : (nI b) = 0 := c41
    have c41n := (nI_eq (a := b) (b := 0) (by omega) (by omega)).mp c41
    exact absurd c41n hm.1
  · have c41 : ¬ ((nI b) = 0) := c41
    have c41n := mt (nI_eq (a := b) (b := 0) (by omega) (by omega)).mpr c41
    refine x_aload dX8_copy_44 rfl ?_
    refine x_get dX8_copy_46 5 1 inX4 fl_X8_248 rfl rfl (by decide) rfl ?_
    refine x_if_ne dX8_copy_49 (fun c49 => ?_) (fun c49 => ?_)
    · have c49 : ¬ ((nI b2) = 0) := c49
      have c49n := mt (nI_eq (a := b2) (b := 0) (by omega) (by omega)).mpr c49
      refine x_aload dX8_copy_58 rfl ?_
      refine x_get dX8_copy_60 3 1 inX4 fl_X8_248 rfl rfl (by decide) rfl ?_
      refine x_aload dX8_copy_63 rfl ?_
      refine x_get dX8_copy_65 5 1 inX4 fl_X8_248 rfl rfl (by decide) rfl ?_
      refine x_icmp_eq dX8_copy_68 (fun c68 => ?_) (fun c68 => ?_)
      · have c68 : (nI b) = (nI b2) := c68
        have c68n := (nI_eq (a := b) (b := b2) (by omega) (by omega)).mp c68
        refine x_aload dX8_copy_77 rfl ?_
        refine x_iload_n dX8_copy_79 rfl ?_
        refine x_iload dX8_copy_80 rfl ?_
        refine x_cVi0 dX8_copy_82 ml_X8_261 mX4_holds (ct_X4_holds κ.2.1 g aA aAn b n0 (nI f) (nI n)) [3] rfl rfl 3 rfl rfl rfl (Nat.le_of_ble_eq_true rfl) (by decide) (Nat.le_refl _) (Nat.le_refl _) ?_
        refine x_rei (1) (hdI_n (by omega) (by omega)) ?_
        refine x_if_eq dX8_copy_85 (fun c85 => ?_) (fun c85 => ?_)
        · exact absurd c85 (by decide)
        refine x_aload dX8_copy_88 rfl ?_
        refine x_iload dX8_copy_90 rfl ?_
        refine x_iload dX8_copy_92 rfl ?_
        refine x_cVi0 dX8_copy_94 ml_X8_261 mX4_holds (ct_X4_holds κ.2.1 g aB aBn b2 n2 (nI to) (nI n)) [5] rfl rfl 5 rfl rfl rfl (Nat.le_of_ble_eq_true rfl) (by decide) (Nat.le_refl _) (Nat.le_refl _) ?_
        refine x_rei (1) (hdI_n (by omega) (by omega)) ?_
        refine x_if_ne dX8_copy_97 (fun c97 => ?_) (fun c97 => ?_)
        rotate_left
        · exact absurd c97 (by decide)
        refine x_aload dX8_copy_106 rfl ?_
        refine x_get dX8_copy_108 3 0 inX4 fl_X8_253 rfl rfl (by decide) rfl ?_
        refine x_iload_n dX8_copy_111 rfl ?_
        refine x_aload dX8_copy_112 rfl ?_
        refine x_get dX8_copy_114 5 0 inX4 fl_X8_253 rfl rfl (by decide) rfl ?_
        refine x_iload dX8_copy_117 rfl ?_
        refine x_iload dX8_copy_119 rfl ?_
        refine x_copyl (ti := 2) (ws' := [(aM, .inr (8, [.ref aS, .ref aK, .ref aL, .ref aC, .ref aW, .ref aR, .ref aT, .ref aH, .ref aF, .int (nI ts), .int kp])), (aF, .inl (g.2.1 0, 7, .inl (nIf fi))), (aH, .inl (g.2.1 4, 4, .inr (.inr (.inr (.inr shF))))), (aA, .inr (4, [.ref aAn, .int (nI b), .int (nI n0)])), (aAn, .inl (g.2.1 2, 40, .inr (.inl nu))), (aB, .inr (4, [.ref aBn, .int (nI b2), .int (nI n2)])), (aBn, .inl (g.2.1 2, 40, .inr (.inl (va_cpy nu nu2 f to n))))]) (sp := f) (dp := to) (n := n) dX8_copy_121 ml_X8_264 4 6 rfl rfl rfl rfl rfl (rfl) (rfl) (rfl) (by omega) (by omega) ⟨by decide, by decide⟩ (fun _ _ => rfl) (Nat.le_of_ble_eq_true rfl) (by decide) rfl ?_
        refine x_iload dX8_copy_124 rfl ?_
        rw [← hQ]
        refine x_iret dX8_copy_126 rfl (Nat.le_of_ble_eq_true rfl) (Nat.le_of_ble_eq_true rfl) ?_
        exact ⟨rfl, rfl⟩
      · have c68 : ¬ ((nI b) = (nI b2)) := c68
        have c68n := mt (nI_eq (a := b) (b := b2) (by omega) (by omega)).mpr c68
        exact absurd hk c68n
    · have c49 : (nI b2) = 0 := c49
      have c49n := (nI_eq (a := b2) (b := 0) (by omega) (by omega)).mp c49
      exact absurd c49n hm.2

-- == copy1_m ==
set_option maxRecDepth 100000 in
set_option maxHeartbeats 4000000 in
theorem ct_copy1_m (l : Launch) (g : XG) (aM aS aK aL aC aW aR aT aH aF : Nat) (ts : Nat) (kp : Int32) (fi : Nat → Nat) (f to n : Int32) (s : Nat) (aA aAn n0 : Nat) (nu : Nat → Int64) (shF : Nat → Option Nat) (hs4 : s < 4) (hs : shF s = some aA) : Ct l g 32 0 0 yX8_copy cX8_copy 8 (some .int) [.ref aM, .int (nI s), .int f, .int (nI s), .int to, .int n] [(aM, .inr (8, [.ref aS, .ref aK, .ref aL, .ref aC, .ref aW, .ref aR, .ref aT, .ref aH, .ref aF, .int (nI ts), .int kp])), (aF, .inl (g.2.1 0, 7, .inl (nIf fi))), (aH, .inl (g.2.1 4, 4, .inr (.inr (.inr (.inr shF))))), (aA, .inr (4, [.ref aAn, .int 0, .int (nI n0)])), (aAn, .inl (g.2.1 2, 40, .inr (.inl nu)))] (xpi (fndI 5) [(aM, .inr (8, [.ref aS, .ref aK, .ref aL, .ref aC, .ref aW, .ref aR, .ref aT, .ref aH, .ref aF, .int (nI ts), .int kp])), (aF, .inl (g.2.1 0, 7, .inl (nIf (updN fi 5 (fi 5 + 1))))), (aH, .inl (g.2.1 4, 4, .inr (.inr (.inr (.inr shF))))), (aA, .inr (4, [.ref aAn, .int 0, .int (nI n0)])), (aAn, .inl (g.2.1 2, 40, .inr (.inl nu)))]) := by
  refine Ct.ofX (lv := [some (.ref aM), some (.int (nI s)), some (.int f), some (.int (nI s)), some (.int to), some (.int n), none, none]) (by decide) rfl (Nat.le_of_ble_eq_true rfl) (fun κ => ?_)
  generalize hQ : xQ κ g 0 0 _ = Q
  refine x_iload_n dX8_copy_0 rfl ?_
  refine x_cSi dX8_copy_1 ml_X8_239 mX8_isSheet (ct_isSheet_n κ.2.1 g s (hs4)) rfl (Nat.le_of_ble_eq_true rfl) (by decide) (Nat.le_refl _) (Nat.le_refl _) ?_
  refine x_if_eq dX8_copy_4 (fun c4 => ?_) (fun c4 => ?_)
  · exact absurd c4 (by decide)
  refine x_iload_n dX8_copy_7 rfl ?_
  refine x_cSi dX8_copy_8 ml_X8_239 mX8_isSheet (ct_isSheet_n κ.2.1 g s (hs4)) rfl (Nat.le_of_ble_eq_true rfl) (by decide) (Nat.le_refl _) (Nat.le_refl _) ?_
  refine x_if_ne dX8_copy_11 (fun c11 => ?_) (fun c11 => ?_)
  rotate_left
  · exact absurd c11 (by decide)
  refine x_aload_n dX8_copy_20 rfl ?_
  refine x_get dX8_copy_21 0 7 inX8 fl_X8_62 rfl rfl (by decide) rfl ?_
  refine x_iload_n dX8_copy_24 rfl ?_
  refine x_qald dX8_copy_25 2 s rfl (rfl) (by omega) (by decide) (hs) ?_
  refine x_astore (lv' := [some (.ref aM), some (.int (nI s)), some (.int f), some (.int (nI s)), some (.int to), some (.int n), some (.ref aA), none]) dX8_copy_26 (xlt rfl) rfl ?_
  refine x_aload_n dX8_copy_28 rfl ?_
  refine x_get dX8_copy_29 0 7 inX8 fl_X8_62 rfl rfl (by decide) rfl ?_
  refine x_iload_n dX8_copy_32 rfl ?_
  refine x_qald dX8_copy_33 2 s rfl (rfl) (by omega) (by decide) (hs) ?_
  refine x_astore (lv' := [some (.ref aM), some (.int (nI s)), some (.int f), some (.int (nI s)), some (.int to), some (.int n), some (.ref aA), some (.ref aA)]) dX8_copy_34 (xlt rfl) rfl ?_
  refine x_aload dX8_copy_36 rfl ?_
  refine x_get dX8_copy_38 3 1 inX4 fl_X8_248 rfl rfl (by decide) rfl ?_
  refine x_if_eq dX8_copy_41 (fun c41 => ?_) (fun c41 => ?_)
  rotate_left
  · exact absurd c41 (by decide)
  refine x_aload_n dX8_copy_52 rfl ?_
  refine x_iconst 5 dX8_copy_53 (by decide) ?_
  refine x_cVi (ws' := [(aM, .inr (8, [.ref aS, .ref aK, .ref aL, .ref aC, .ref aW, .ref aR, .ref aT, .ref aH, .ref aF, .int (nI ts), .int kp])), (aF, .inl (g.2.1 0, 7, .inl (nIf (updN fi 5 (fi 5 + 1))))), (aH, .inl (g.2.1 4, 4, .inr (.inr (.inr (.inr shF))))), (aA, .inr (4, [.ref aAn, .int 0, .int (nI n0)])), (aAn, .inl (g.2.1 2, 40, .inr (.inl nu)))]) dX8_copy_54 ml_X8_79 mX8_tell (ct_X8_tell κ.2.1 g aM aS aK aL aC aW aR aT aH aF ts kp fi 5 (by decide)) [0, 1] rfl rfl 0 rfl rfl rfl (Nat.le_of_ble_eq_true rfl) (by decide) (Nat.le_refl _) (Nat.le_refl _) (rfl : [aM, aF] = [aM, aF]) rfl ?_
  rw [← hQ]
  refine x_iret dX8_copy_57 rfl (Nat.le_of_ble_eq_true rfl) (Nat.le_of_ble_eq_true rfl) ?_
  exact ⟨rfl, rfl⟩

-- == copy1_c ==
set_option maxRecDepth 100000 in
set_option maxHeartbeats 4000000 in
theorem ct_copy1_c (l : Launch) (g : XG) (aM aS aK aL aC aW aR aT aH aF : Nat) (ts : Nat) (kp : Int32) (fi : Nat → Nat) (f to n : Int32) (s : Nat) (aA aAn b n0 : Nat) (nu : Nat → Int64) (shF : Nat → Option Nat) (hs4 : s < 4) (hs : shF s = some aA) (hbb : b = 8 ∨ b = 16 ∨ b = 64) (hb : hdI n0 f n = 0 ∨ hdI n0 to n = 0) : Ct l g 32 0 0 yX8_copy cX8_copy 8 (some .int) [.ref aM, .int (nI s), .int f, .int (nI s), .int to, .int n] [(aM, .inr (8, [.ref aS, .ref aK, .ref aL, .ref aC, .ref aW, .ref aR, .ref aT, .ref aH, .ref aF, .int (nI ts), .int kp])), (aF, .inl (g.2.1 0, 7, .inl (nIf fi))), (aH, .inl (g.2.1 4, 4, .inr (.inr (.inr (.inr shF))))), (aA, .inr (4, [.ref aAn, .int (nI b), .int (nI n0)])), (aAn, .inl (g.2.1 2, 40, .inr (.inl nu)))] (xpi (fndI 0) [(aM, .inr (8, [.ref aS, .ref aK, .ref aL, .ref aC, .ref aW, .ref aR, .ref aT, .ref aH, .ref aF, .int (nI ts), .int kp])), (aF, .inl (g.2.1 0, 7, .inl (nIf (updN fi 0 (fi 0 + 1))))), (aH, .inl (g.2.1 4, 4, .inr (.inr (.inr (.inr shF))))), (aA, .inr (4, [.ref aAn, .int (nI b), .int (nI n0)])), (aAn, .inl (g.2.1 2, 40, .inr (.inl nu)))]) := by
  refine Ct.ofX (lv := [some (.ref aM), some (.int (nI s)), some (.int f), some (.int (nI s)), some (.int to), some (.int n), none, none]) (by decide) rfl (Nat.le_of_ble_eq_true rfl) (fun κ => ?_)
  generalize hQ : xQ κ g 0 0 _ = Q
  refine x_iload_n dX8_copy_0 rfl ?_
  refine x_cSi dX8_copy_1 ml_X8_239 mX8_isSheet (ct_isSheet_n κ.2.1 g s (hs4)) rfl (Nat.le_of_ble_eq_true rfl) (by decide) (Nat.le_refl _) (Nat.le_refl _) ?_
  refine x_if_eq dX8_copy_4 (fun c4 => ?_) (fun c4 => ?_)
  · exact absurd c4 (by decide)
  refine x_iload_n dX8_copy_7 rfl ?_
  refine x_cSi dX8_copy_8 ml_X8_239 mX8_isSheet (ct_isSheet_n κ.2.1 g s (hs4)) rfl (Nat.le_of_ble_eq_true rfl) (by decide) (Nat.le_refl _) (Nat.le_refl _) ?_
  refine x_if_ne dX8_copy_11 (fun c11 => ?_) (fun c11 => ?_)
  rotate_left
  · exact absurd c11 (by decide)
  refine x_aload_n dX8_copy_20 rfl ?_
  refine x_get dX8_copy_21 0 7 inX8 fl_X8_62 rfl rfl (by decide) rfl ?_
  refine x_iload_n dX8_copy_24 rfl ?_
  refine x_qald dX8_copy_25 2 s rfl (rfl) (by omega) (by decide) (hs) ?_
  refine x_astore (lv' := [some (.ref aM), some (.int (nI s)), some (.int f), some (.int (nI s)), some (.int to), some (.int n), some (.ref aA), none]) dX8_copy_26 (xlt rfl) rfl ?_
  refine x_aload_n dX8_copy_28 rfl ?_
  refine x_get dX8_copy_29 0 7 inX8 fl_X8_62 rfl rfl (by decide) rfl ?_
  refine x_iload_n dX8_copy_32 rfl ?_
  refine x_qald dX8_copy_33 2 s rfl (rfl) (by omega) (by decide) (hs) ?_
  refine x_astore (lv' := [some (.ref aM), some (.int (nI s)), some (.int f), some (.int (nI s)), some (.int to), some (.int n), some (.ref aA), some (.ref aA)]) dX8_copy_34 (xlt rfl) rfl ?_
  refine x_aload dX8_copy_36 rfl ?_
  refine x_get dX8_copy_38 3 1 inX4 fl_X8_248 rfl rfl (by decide) rfl ?_
  refine x_if_eq dX8_copy_41 (fun c41 => ?_) (fun c41 => ?_)
  · have c41 : (nI b) = 0 := c41
    have c41n := (nI_eq (a := b) (b := 0) (by omega) (by omega)).mp c41
    exact absurd c41n (by omega)
  · have c41 : ¬ ((nI b) = 0) := c41
    have c41n := mt (nI_eq (a := b) (b := 0) (by omega) (by omega)).mpr c41
    refine x_aload dX8_copy_44 rfl ?_
    refine x_get dX8_copy_46 3 1 inX4 fl_X8_248 rfl rfl (by decide) rfl ?_
    refine x_if_ne dX8_copy_49 (fun c49 => ?_) (fun c49 => ?_)
    · have c49 : ¬ ((nI b) = 0) := c49
      have c49n := mt (nI_eq (a := b) (b := 0) (by omega) (by omega)).mpr c49
      refine x_aload dX8_copy_58 rfl ?_
      refine x_get dX8_copy_60 3 1 inX4 fl_X8_248 rfl rfl (by decide) rfl ?_
      refine x_aload dX8_copy_63 rfl ?_
      refine x_get dX8_copy_65 3 1 inX4 fl_X8_248 rfl rfl (by decide) rfl ?_
      refine x_icmp_eq dX8_copy_68 (fun c68 => ?_) (fun c68 => ?_)
      · have c68 : (nI b) = (nI b) := c68
        have c68n := (nI_eq (a := b) (b := b) (by omega) (by omega)).mp c68
        refine x_aload dX8_copy_77 rfl ?_
        refine x_iload_n dX8_copy_79 rfl ?_
        refine x_iload dX8_copy_80 rfl ?_
        refine x_cVi0 dX8_copy_82 ml_X8_261 mX4_holds (ct_X4_holds κ.2.1 g aA aAn b n0 f n) [3] rfl rfl 3 rfl rfl rfl (Nat.le_of_ble_eq_true rfl) (by decide) (Nat.le_refl _) (Nat.le_refl _) ?_
        refine x_if_eq dX8_copy_85 (fun c85 => ?_) (fun c85 => ?_)
        · have c85 : (hdI n0 f n) = 0 := c85
          refine x_aload_n dX8_copy_100 rfl ?_
          refine x_iconst 0 dX8_copy_101 (by decide) ?_
          refine x_cVi (ws' := [(aM, .inr (8, [.ref aS, .ref aK, .ref aL, .ref aC, .ref aW, .ref aR, .ref aT, .ref aH, .ref aF, .int (nI ts), .int kp])), (aF, .inl (g.2.1 0, 7, .inl (nIf (updN fi 0 (fi 0 + 1))))), (aH, .inl (g.2.1 4, 4, .inr (.inr (.inr (.inr shF))))), (aA, .inr (4, [.ref aAn, .int (nI b), .int (nI n0)])), (aAn, .inl (g.2.1 2, 40, .inr (.inl nu)))]) dX8_copy_102 ml_X8_79 mX8_tell (ct_X8_tell κ.2.1 g aM aS aK aL aC aW aR aT aH aF ts kp fi 0 (by decide)) [0, 1] rfl rfl 0 rfl rfl rfl (Nat.le_of_ble_eq_true rfl) (by decide) (Nat.le_refl _) (Nat.le_refl _) (rfl : [aM, aF] = [aM, aF]) rfl ?_
          rw [← hQ]
          refine x_iret dX8_copy_105 rfl (Nat.le_of_ble_eq_true rfl) (Nat.le_of_ble_eq_true rfl) ?_
          exact ⟨rfl, rfl⟩
        · have c85 : ¬ ((hdI n0 f n) = 0) := c85
          refine x_aload dX8_copy_88 rfl ?_
          refine x_iload dX8_copy_90 rfl ?_
          refine x_iload dX8_copy_92 rfl ?_
          refine x_cVi0 dX8_copy_94 ml_X8_261 mX4_holds (ct_X4_holds κ.2.1 g aA aAn b n0 to n) [3] rfl rfl 3 rfl rfl rfl (Nat.le_of_ble_eq_true rfl) (by decide) (Nat.le_refl _) (Nat.le_refl _) ?_
          refine x_if_ne dX8_copy_97 (fun c97 => ?_) (fun c97 => ?_)
          · have c97 : ¬ ((hdI n0 to n) = 0) := c97
            exact absurd (hb.resolve_left c85) c97
          · have c97 : (hdI n0 to n) = 0 := c97
            refine x_aload_n dX8_copy_100 rfl ?_
            refine x_iconst 0 dX8_copy_101 (by decide) ?_
            refine x_cVi (ws' := [(aM, .inr (8, [.ref aS, .ref aK, .ref aL, .ref aC, .ref aW, .ref aR, .ref aT, .ref aH, .ref aF, .int (nI ts), .int kp])), (aF, .inl (g.2.1 0, 7, .inl (nIf (updN fi 0 (fi 0 + 1))))), (aH, .inl (g.2.1 4, 4, .inr (.inr (.inr (.inr shF))))), (aA, .inr (4, [.ref aAn, .int (nI b), .int (nI n0)])), (aAn, .inl (g.2.1 2, 40, .inr (.inl nu)))]) dX8_copy_102 ml_X8_79 mX8_tell (ct_X8_tell κ.2.1 g aM aS aK aL aC aW aR aT aH aF ts kp fi 0 (by decide)) [0, 1] rfl rfl 0 rfl rfl rfl (Nat.le_of_ble_eq_true rfl) (by decide) (Nat.le_refl _) (Nat.le_refl _) (rfl : [aM, aF] = [aM, aF]) rfl ?_
            rw [← hQ]
            refine x_iret dX8_copy_105 rfl (Nat.le_of_ble_eq_true rfl) (Nat.le_of_ble_eq_true rfl) ?_
            exact ⟨rfl, rfl⟩
      · have c68 : ¬ ((nI b) = (nI b)) := c68
        have c68n := mt (nI_eq (a := b) (b := b) (by omega) (by omega)).mpr c68
        exact absurd rfl c68n
    · have c49 : (nI b) = 0 := c49
      have c49n := (nI_eq (a := b) (b := 0) (by omega) (by omega)).mp c49
      exact absurd c49n (by omega)

-- == copy1_o ==
set_option maxRecDepth 100000 in
set_option maxHeartbeats 4000000 in
theorem ct_copy1_o (l : Launch) (g : XG) (aM aS aK aL aC aW aR aT aH aF : Nat) (ts : Nat) (kp : Int32) (fi : Nat → Nat) (aA aAn b n0 : Nat) (nu : Nat → Int64) (shF : Nat → Option Nat) (s f to n : Nat) (hs4 : s < 4) (hs : shF s = some aA) (hbb : b = 8 ∨ b = 16 ∨ b = 64) (hnn : f + n ≤ n0 ∧ to + n ≤ n0 ∧ n0 ≤ 40) : Ct l g 32 0 0 yX8_copy cX8_copy 8 (some .int) [.ref aM, .int (nI s), .int (nI f), .int (nI s), .int (nI to), .int (nI n)] [(aM, .inr (8, [.ref aS, .ref aK, .ref aL, .ref aC, .ref aW, .ref aR, .ref aT, .ref aH, .ref aF, .int (nI ts), .int kp])), (aF, .inl (g.2.1 0, 7, .inl (nIf fi))), (aH, .inl (g.2.1 4, 4, .inr (.inr (.inr (.inr shF))))), (aA, .inr (4, [.ref aAn, .int (nI b), .int (nI n0)])), (aAn, .inl (g.2.1 2, 40, .inr (.inl nu)))] (xpi (nI (n)) [(aM, .inr (8, [.ref aS, .ref aK, .ref aL, .ref aC, .ref aW, .ref aR, .ref aT, .ref aH, .ref aF, .int (nI ts), .int kp])), (aF, .inl (g.2.1 0, 7, .inl (nIf fi))), (aH, .inl (g.2.1 4, 4, .inr (.inr (.inr (.inr shF))))), (aA, .inr (4, [.ref aAn, .int (nI b), .int (nI n0)])), (aAn, .inl (g.2.1 2, 40, .inr (.inl (va_cpy nu nu f to n))))]) := by
  refine Ct.ofX (lv := [some (.ref aM), some (.int (nI s)), some (.int (nI f)), some (.int (nI s)), some (.int (nI to)), some (.int (nI n)), none, none]) (by decide) rfl (Nat.le_of_ble_eq_true rfl) (fun κ => ?_)
  generalize hQ : xQ κ g 0 0 _ = Q
  refine x_iload_n dX8_copy_0 rfl ?_
  refine x_cSi dX8_copy_1 ml_X8_239 mX8_isSheet (ct_isSheet_n κ.2.1 g s (hs4)) rfl (Nat.le_of_ble_eq_true rfl) (by decide) (Nat.le_refl _) (Nat.le_refl _) ?_
  refine x_if_eq dX8_copy_4 (fun c4 => ?_) (fun c4 => ?_)
  · exact absurd c4 (by decide)
  refine x_iload_n dX8_copy_7 rfl ?_
  refine x_cSi dX8_copy_8 ml_X8_239 mX8_isSheet (ct_isSheet_n κ.2.1 g s (hs4)) rfl (Nat.le_of_ble_eq_true rfl) (by decide) (Nat.le_refl _) (Nat.le_refl _) ?_
  refine x_if_ne dX8_copy_11 (fun c11 => ?_) (fun c11 => ?_)
  rotate_left
  · exact absurd c11 (by decide)
  refine x_aload_n dX8_copy_20 rfl ?_
  refine x_get dX8_copy_21 0 7 inX8 fl_X8_62 rfl rfl (by decide) rfl ?_
  refine x_iload_n dX8_copy_24 rfl ?_
  refine x_qald dX8_copy_25 2 s rfl (rfl) (by omega) (by decide) (hs) ?_
  refine x_astore (lv' := [some (.ref aM), some (.int (nI s)), some (.int (nI f)), some (.int (nI s)), some (.int (nI to)), some (.int (nI n)), some (.ref aA), none]) dX8_copy_26 (xlt rfl) rfl ?_
  refine x_aload_n dX8_copy_28 rfl ?_
  refine x_get dX8_copy_29 0 7 inX8 fl_X8_62 rfl rfl (by decide) rfl ?_
  refine x_iload_n dX8_copy_32 rfl ?_
  refine x_qald dX8_copy_33 2 s rfl (rfl) (by omega) (by decide) (hs) ?_
  refine x_astore (lv' := [some (.ref aM), some (.int (nI s)), some (.int (nI f)), some (.int (nI s)), some (.int (nI to)), some (.int (nI n)), some (.ref aA), some (.ref aA)]) dX8_copy_34 (xlt rfl) rfl ?_
  refine x_aload dX8_copy_36 rfl ?_
  refine x_get dX8_copy_38 3 1 inX4 fl_X8_248 rfl rfl (by decide) rfl ?_
  refine x_if_eq dX8_copy_41 (fun c41 => ?_) (fun c41 => ?_)
  · have c41 : (nI b) = 0 := c41
    have c41n := (nI_eq (a := b) (b := 0) (by omega) (by omega)).mp c41
    exact absurd c41n (by omega)
  · have c41 : ¬ ((nI b) = 0) := c41
    have c41n := mt (nI_eq (a := b) (b := 0) (by omega) (by omega)).mpr c41
    refine x_aload dX8_copy_44 rfl ?_
    refine x_get dX8_copy_46 3 1 inX4 fl_X8_248 rfl rfl (by decide) rfl ?_
    refine x_if_ne dX8_copy_49 (fun c49 => ?_) (fun c49 => ?_)
    · have c49 : ¬ ((nI b) = 0) := c49
      have c49n := mt (nI_eq (a := b) (b := 0) (by omega) (by omega)).mpr c49
      refine x_aload dX8_copy_58 rfl ?_
      refine x_get dX8_copy_60 3 1 inX4 fl_X8_248 rfl rfl (by decide) rfl ?_
      refine x_aload dX8_copy_63 rfl ?_
      refine x_get dX8_copy_65 3 1 inX4 fl_X8_248 rfl rfl (by decide) rfl ?_
      refine x_icmp_eq dX8_copy_68 (fun c68 => ?_) (fun c68 => ?_)
      · have c68 : (nI b) = (nI b) := c68
        have c68n := (nI_eq (a := b) (b := b) (by omega) (by omega)).mp c68
        refine x_aload dX8_copy_77 rfl ?_
        refine x_iload_n dX8_copy_79 rfl ?_
        refine x_iload dX8_copy_80 rfl ?_
        refine x_cVi0 dX8_copy_82 ml_X8_261 mX4_holds (ct_X4_holds κ.2.1 g aA aAn b n0 (nI f) (nI n)) [3] rfl rfl 3 rfl rfl rfl (Nat.le_of_ble_eq_true rfl) (by decide) (Nat.le_refl _) (Nat.le_refl _) ?_
        refine x_rei (1) (hdI_n (by omega) (by omega)) ?_
        refine x_if_eq dX8_copy_85 (fun c85 => ?_) (fun c85 => ?_)
        · exact absurd c85 (by decide)
        refine x_aload dX8_copy_88 rfl ?_
        refine x_iload dX8_copy_90 rfl ?_
        refine x_iload dX8_copy_92 rfl ?_
        refine x_cVi0 dX8_copy_94 ml_X8_261 mX4_holds (ct_X4_holds κ.2.1 g aA aAn b n0 (nI to) (nI n)) [3] rfl rfl 3 rfl rfl rfl (Nat.le_of_ble_eq_true rfl) (by decide) (Nat.le_refl _) (Nat.le_refl _) ?_
        refine x_rei (1) (hdI_n (by omega) (by omega)) ?_
        refine x_if_ne dX8_copy_97 (fun c97 => ?_) (fun c97 => ?_)
        rotate_left
        · exact absurd c97 (by decide)
        refine x_aload dX8_copy_106 rfl ?_
        refine x_get dX8_copy_108 3 0 inX4 fl_X8_253 rfl rfl (by decide) rfl ?_
        refine x_iload_n dX8_copy_111 rfl ?_
        refine x_aload dX8_copy_112 rfl ?_
        refine x_get dX8_copy_114 3 0 inX4 fl_X8_253 rfl rfl (by decide) rfl ?_
        refine x_iload dX8_copy_117 rfl ?_
        refine x_iload dX8_copy_119 rfl ?_
        refine x_copyl (ti := 2) (ws' := [(aM, .inr (8, [.ref aS, .ref aK, .ref aL, .ref aC, .ref aW, .ref aR, .ref aT, .ref aH, .ref aF, .int (nI ts), .int kp])), (aF, .inl (g.2.1 0, 7, .inl (nIf fi))), (aH, .inl (g.2.1 4, 4, .inr (.inr (.inr (.inr shF))))), (aA, .inr (4, [.ref aAn, .int (nI b), .int (nI n0)])), (aAn, .inl (g.2.1 2, 40, .inr (.inl (va_cpy nu nu f to n))))]) (sp := f) (dp := to) (n := n) dX8_copy_121 ml_X8_264 4 4 rfl rfl rfl rfl rfl (rfl) (rfl) (rfl) (by omega) (by omega) ⟨by decide, by decide⟩ (fun _ _ => rfl) (Nat.le_of_ble_eq_true rfl) (by decide) rfl ?_
        refine x_iload dX8_copy_124 rfl ?_
        rw [← hQ]
        refine x_iret dX8_copy_126 rfl (Nat.le_of_ble_eq_true rfl) (Nat.le_of_ble_eq_true rfl) ?_
        exact ⟨rfl, rfl⟩
      · have c68 : ¬ ((nI b) = (nI b)) := c68
        have c68n := mt (nI_eq (a := b) (b := b) (by omega) (by omega)).mpr c68
        exact absurd rfl c68n
    · have c49 : (nI b) = 0 := c49
      have c49n := (nI_eq (a := b) (b := 0) (by omega) (by omega)).mp c49
      exact absurd c49n (by omega)

-- == read_b ==
theorem dX8_read_0 : xd cX8_read 0 (.iload_n 1) 1 1 := ⟨by decide +kernel, rfl⟩
theorem dX8_read_1 : xd cX8_read 1 (.invokestatic 239) 3 4 := ⟨by decide +kernel, rfl⟩
theorem dX8_read_4 : xj cX8_read 4 (.ifCond .ne) 7 13 := ⟨9, by decide +kernel, rfl, by decide⟩
theorem dX8_read_7 : xd cX8_read 7 (.aload_n 0) 1 8 := ⟨by decide +kernel, rfl⟩
theorem dX8_read_8 : xd cX8_read 8 (.iconst 0) 1 9 := ⟨by decide +kernel, rfl⟩
theorem dX8_read_9 : xd cX8_read 9 (.invokevirtual 79) 3 12 := ⟨by decide +kernel, rfl⟩
theorem dX8_read_12 : xd cX8_read 12 .ireturn 1 13 := ⟨by decide +kernel, rfl⟩
theorem dX8_read_13 : xd cX8_read 13 (.aload_n 0) 1 14 := ⟨by decide +kernel, rfl⟩
theorem dX8_read_14 : xd cX8_read 14 (.getfield 62) 3 17 := ⟨by decide +kernel, rfl⟩
theorem dX8_read_17 : xd cX8_read 17 (.iload_n 1) 1 18 := ⟨by decide +kernel, rfl⟩
theorem dX8_read_18 : xd cX8_read 18 .aaload 1 19 := ⟨by decide +kernel, rfl⟩
theorem dX8_read_19 : xd cX8_read 19 (.astore_n 2) 1 20 := ⟨by decide +kernel, rfl⟩
theorem dX8_read_20 : xd cX8_read 20 (.aload_n 2) 1 21 := ⟨by decide +kernel, rfl⟩
theorem dX8_read_21 : xd cX8_read 21 (.getfield 248) 3 24 := ⟨by decide +kernel, rfl⟩
theorem dX8_read_24 : xj cX8_read 24 (.ifCond .ne) 27 33 := ⟨9, by decide +kernel, rfl, by decide⟩
theorem dX8_read_27 : xd cX8_read 27 (.aload_n 0) 1 28 := ⟨by decide +kernel, rfl⟩
theorem dX8_read_28 : xd cX8_read 28 (.iconst 5) 1 29 := ⟨by decide +kernel, rfl⟩
theorem dX8_read_29 : xd cX8_read 29 (.invokevirtual 79) 3 32 := ⟨by decide +kernel, rfl⟩
theorem dX8_read_32 : xd cX8_read 32 .ireturn 1 33 := ⟨by decide +kernel, rfl⟩
theorem dX8_read_33 : xd cX8_read 33 (.iconst 0) 1 34 := ⟨by decide +kernel, rfl⟩
theorem dX8_read_34 : xd cX8_read 34 (.istore_n 3) 1 35 := ⟨by decide +kernel, rfl⟩
theorem dX8_read_35 : xd cX8_read 35 (.iload_n 3) 1 36 := ⟨by decide +kernel, rfl⟩
theorem dX8_read_36 : xd cX8_read 36 (.aload_n 2) 1 37 := ⟨by decide +kernel, rfl⟩
theorem dX8_read_37 : xd cX8_read 37 (.getfield 250) 3 40 := ⟨by decide +kernel, rfl⟩
theorem dX8_read_40 : xj cX8_read 40 (.if_icmp .ge) 43 84 := ⟨44, by decide +kernel, rfl, by decide⟩
theorem dX8_read_43 : xd cX8_read 43 (.iload_n 3) 1 44 := ⟨by decide +kernel, rfl⟩
theorem dX8_read_44 : xd cX8_read 44 (.aload_n 0) 1 45 := ⟨by decide +kernel, rfl⟩
theorem dX8_read_45 : xd cX8_read 45 (.getfield 10) 3 48 := ⟨by decide +kernel, rfl⟩
theorem dX8_read_48 : xd cX8_read 48 (.getfield 189) 3 51 := ⟨by decide +kernel, rfl⟩
theorem dX8_read_51 : xj cX8_read 51 (.if_icmp .ge) 54 74 := ⟨23, by decide +kernel, rfl, by decide⟩
theorem dX8_read_54 : xd cX8_read 54 (.aload_n 2) 1 55 := ⟨by decide +kernel, rfl⟩
theorem dX8_read_55 : xd cX8_read 55 (.getfield 253) 3 58 := ⟨by decide +kernel, rfl⟩
theorem dX8_read_58 : xd cX8_read 58 (.iload_n 3) 1 59 := ⟨by decide +kernel, rfl⟩
theorem dX8_read_59 : xd cX8_read 59 .laload 1 60 := ⟨by decide +kernel, rfl⟩
theorem dX8_read_60 : xd cX8_read 60 (.aload_n 0) 1 61 := ⟨by decide +kernel, rfl⟩
theorem dX8_read_61 : xd cX8_read 61 (.getfield 10) 3 64 := ⟨by decide +kernel, rfl⟩
theorem dX8_read_64 : xd cX8_read 64 (.iload_n 3) 1 65 := ⟨by decide +kernel, rfl⟩
theorem dX8_read_65 : xd cX8_read 65 (.iconst 3) 1 66 := ⟨by decide +kernel, rfl⟩
theorem dX8_read_66 : xd cX8_read 66 (.invokevirtual 192) 3 69 := ⟨by decide +kernel, rfl⟩
theorem dX8_read_69 : xd cX8_read 69 .i2l 1 70 := ⟨by decide +kernel, rfl⟩
theorem dX8_read_70 : xd cX8_read 70 .lcmp 1 71 := ⟨by decide +kernel, rfl⟩
theorem dX8_read_71 : xj cX8_read 71 (.ifCond .eq) 74 78 := ⟨7, by decide +kernel, rfl, by decide⟩
theorem dX8_read_74 : xd cX8_read 74 (.iconst 1) 1 75 := ⟨by decide +kernel, rfl⟩
theorem dX8_read_75 : xd cX8_read 75 (.iload_n 3) 1 76 := ⟨by decide +kernel, rfl⟩
theorem dX8_read_76 : xd cX8_read 76 .iadd 1 77 := ⟨by decide +kernel, rfl⟩
theorem dX8_read_77 : xd cX8_read 77 .ireturn 1 78 := ⟨by decide +kernel, rfl⟩
theorem dX8_read_78 : xd cX8_read 78 (.iinc 3 1) 3 81 := ⟨by decide +kernel, rfl⟩
theorem dX8_read_81 : xj cX8_read 81 .goto 84 35 := ⟨(-46), by decide +kernel, rfl, by decide⟩
theorem dX8_read_84 : xd cX8_read 84 (.iconst 0) 1 85 := ⟨by decide +kernel, rfl⟩
theorem dX8_read_85 : xd cX8_read 85 .ireturn 1 86 := ⟨by decide +kernel, rfl⟩

set_option maxRecDepth 100000 in
set_option maxHeartbeats 4000000 in
theorem ct_read_b (l : Launch) (g : XG) (aM aS aK aL aC aW aR aT aH aF : Nat) (ts : Nat) (kp : Int32) (fi : Nat → Nat) (s : Int32) (hb : wI s 0 3 = 0) : Ct l g 32 0 0 yX8_read cX8_read 4 (some .int) [.ref aM, .int s] [(aM, .inr (8, [.ref aS, .ref aK, .ref aL, .ref aC, .ref aW, .ref aR, .ref aT, .ref aH, .ref aF, .int (nI ts), .int kp])), (aF, .inl (g.2.1 0, 7, .inl (nIf fi)))] (xpi (fndI 0) [(aM, .inr (8, [.ref aS, .ref aK, .ref aL, .ref aC, .ref aW, .ref aR, .ref aT, .ref aH, .ref aF, .int (nI ts), .int kp])), (aF, .inl (g.2.1 0, 7, .inl (nIf (updN fi 0 (fi 0 + 1)))))]) := by
  refine Ct.ofX (lv := [some (.ref aM), some (.int s), none, none]) (by decide) rfl (Nat.le_of_ble_eq_true rfl) (fun κ => ?_)
  generalize hQ : xQ κ g 0 0 _ = Q
  refine x_iload_n dX8_read_0 rfl ?_
  refine x_cSi dX8_read_1 ml_X8_239 mX8_isSheet (ct_X8_isSheet κ.2.1 g s) rfl (Nat.le_of_ble_eq_true rfl) (by decide) (Nat.le_refl _) (Nat.le_refl _) ?_
  refine x_if_ne dX8_read_4 (fun c4 => ?_) (fun c4 => ?_)
  · have c4 : ¬ ((wI s 0 3) = 0) := c4
    exact absurd hb c4
  · have c4 : (wI s 0 3) = 0 := c4
    refine x_aload_n dX8_read_7 rfl ?_
    refine x_iconst 0 dX8_read_8 (by decide) ?_
    refine x_cVi (ws' := [(aM, .inr (8, [.ref aS, .ref aK, .ref aL, .ref aC, .ref aW, .ref aR, .ref aT, .ref aH, .ref aF, .int (nI ts), .int kp])), (aF, .inl (g.2.1 0, 7, .inl (nIf (updN fi 0 (fi 0 + 1)))))]) dX8_read_9 ml_X8_79 mX8_tell (ct_X8_tell κ.2.1 g aM aS aK aL aC aW aR aT aH aF ts kp fi 0 (by decide)) [0, 1] rfl rfl 0 rfl rfl rfl (Nat.le_of_ble_eq_true rfl) (by decide) (Nat.le_refl _) (Nat.le_refl _) (rfl : [aM, aF] = [aM, aF]) rfl ?_
    rw [← hQ]
    refine x_iret dX8_read_12 rfl (Nat.le_of_ble_eq_true rfl) (Nat.le_of_ble_eq_true rfl) ?_
    exact ⟨rfl, rfl⟩

-- == read_m ==
set_option maxRecDepth 100000 in
set_option maxHeartbeats 4000000 in
theorem ct_read_m (l : Launch) (g : XG) (aM aS aK aL aC aW aR aT aH aF : Nat) (ts : Nat) (kp : Int32) (fi : Nat → Nat) (s : Nat) (aA aAn n0 : Nat) (nu : Nat → Int64) (shF : Nat → Option Nat) (hs4 : s < 4) (hs : shF s = some aA) : Ct l g 32 0 0 yX8_read cX8_read 4 (some .int) [.ref aM, .int (nI s)] [(aM, .inr (8, [.ref aS, .ref aK, .ref aL, .ref aC, .ref aW, .ref aR, .ref aT, .ref aH, .ref aF, .int (nI ts), .int kp])), (aF, .inl (g.2.1 0, 7, .inl (nIf fi))), (aH, .inl (g.2.1 4, 4, .inr (.inr (.inr (.inr shF))))), (aA, .inr (4, [.ref aAn, .int 0, .int (nI n0)])), (aAn, .inl (g.2.1 2, 40, .inr (.inl nu)))] (xpi (fndI 5) [(aM, .inr (8, [.ref aS, .ref aK, .ref aL, .ref aC, .ref aW, .ref aR, .ref aT, .ref aH, .ref aF, .int (nI ts), .int kp])), (aF, .inl (g.2.1 0, 7, .inl (nIf (updN fi 5 (fi 5 + 1))))), (aH, .inl (g.2.1 4, 4, .inr (.inr (.inr (.inr shF))))), (aA, .inr (4, [.ref aAn, .int 0, .int (nI n0)])), (aAn, .inl (g.2.1 2, 40, .inr (.inl nu)))]) := by
  refine Ct.ofX (lv := [some (.ref aM), some (.int (nI s)), none, none]) (by decide) rfl (Nat.le_of_ble_eq_true rfl) (fun κ => ?_)
  generalize hQ : xQ κ g 0 0 _ = Q
  refine x_iload_n dX8_read_0 rfl ?_
  refine x_cSi dX8_read_1 ml_X8_239 mX8_isSheet (ct_isSheet_n κ.2.1 g s (hs4)) rfl (Nat.le_of_ble_eq_true rfl) (by decide) (Nat.le_refl _) (Nat.le_refl _) ?_
  refine x_if_ne dX8_read_4 (fun c4 => ?_) (fun c4 => ?_)
  rotate_left
  · exact absurd c4 (by decide)
  refine x_aload_n dX8_read_13 rfl ?_
  refine x_get dX8_read_14 0 7 inX8 fl_X8_62 rfl rfl (by decide) rfl ?_
  refine x_iload_n dX8_read_17 rfl ?_
  refine x_qald dX8_read_18 2 s rfl (rfl) (by omega) (by decide) (hs) ?_
  refine x_astore_n (lv' := [some (.ref aM), some (.int (nI s)), some (.ref aA), none]) dX8_read_19 (xlt rfl) rfl ?_
  refine x_aload_n dX8_read_20 rfl ?_
  refine x_get dX8_read_21 3 1 inX4 fl_X8_248 rfl rfl (by decide) rfl ?_
  refine x_if_ne dX8_read_24 (fun c24 => ?_) (fun c24 => ?_)
  · exact absurd c24 (by decide)
  refine x_aload_n dX8_read_27 rfl ?_
  refine x_iconst 5 dX8_read_28 (by decide) ?_
  refine x_cVi (ws' := [(aM, .inr (8, [.ref aS, .ref aK, .ref aL, .ref aC, .ref aW, .ref aR, .ref aT, .ref aH, .ref aF, .int (nI ts), .int kp])), (aF, .inl (g.2.1 0, 7, .inl (nIf (updN fi 5 (fi 5 + 1))))), (aH, .inl (g.2.1 4, 4, .inr (.inr (.inr (.inr shF))))), (aA, .inr (4, [.ref aAn, .int 0, .int (nI n0)])), (aAn, .inl (g.2.1 2, 40, .inr (.inl nu)))]) dX8_read_29 ml_X8_79 mX8_tell (ct_X8_tell κ.2.1 g aM aS aK aL aC aW aR aT aH aF ts kp fi 5 (by decide)) [0, 1] rfl rfl 0 rfl rfl rfl (Nat.le_of_ble_eq_true rfl) (by decide) (Nat.le_refl _) (Nat.le_refl _) (rfl : [aM, aF] = [aM, aF]) rfl ?_
  rw [← hQ]
  refine x_iret dX8_read_32 rfl (Nat.le_of_ble_eq_true rfl) (Nat.le_of_ble_eq_true rfl) ?_
  exact ⟨rfl, rfl⟩

-- == read_o ==
set_option maxRecDepth 100000 in
set_option maxHeartbeats 4000000 in
theorem ct_read_o (l : Launch) (g : XG) (aM aS aK aL aC aW aR aT aH aF : Nat) (ts : Nat) (kp : Int32) (aSk aSm aSp aSt aSc aSr aSe gr br cs wk : Nat) (z : Int32) (aA aAn b n0 : Nat) (nu : Nat → Int64) (shF : Nat → Option Nat) (ce : Nat → Int32) (s : Nat) (hs4 : s < 4) (hs : shF s = some aA) (hbb : b = 8 ∨ b = 16 ∨ b = 64) (hn0 : n0 ≤ 40) (hwk : wk ≤ 40) : Ct l g 32 0 0 yX8_read cX8_read 4 (some .int) [.ref aM, .int (nI s)] [(aM, .inr (8, [.ref aS, .ref aK, .ref aL, .ref aC, .ref aW, .ref aR, .ref aT, .ref aH, .ref aF, .int (nI ts), .int kp])), (aH, .inl (g.2.1 4, 4, .inr (.inr (.inr (.inr shF))))), (aA, .inr (4, [.ref aAn, .int (nI b), .int (nI n0)])), (aAn, .inl (g.2.1 2, 40, .inr (.inl nu))), (aS, .inr (6, [.ref aSk, .ref aSm, .ref aSp, .ref aSt, .ref aSc, .ref aSr, .ref aSe, .int (nI gr), .int (nI br), .int (nI cs), .int (nI wk), .int z])), (aSe, .inl (g.2.1 0, 320, .inl ce))] (xpi (nI (rdN nu ce wk n0)) [(aM, .inr (8, [.ref aS, .ref aK, .ref aL, .ref aC, .ref aW, .ref aR, .ref aT, .ref aH, .ref aF, .int (nI ts), .int kp])), (aH, .inl (g.2.1 4, 4, .inr (.inr (.inr (.inr shF))))), (aA, .inr (4, [.ref aAn, .int (nI b), .int (nI n0)])), (aAn, .inl (g.2.1 2, 40, .inr (.inl nu))), (aS, .inr (6, [.ref aSk, .ref aSm, .ref aSp, .ref aSt, .ref aSc, .ref aSr, .ref aSe, .int (nI gr), .int (nI br), .int (nI cs), .int (nI wk), .int z])), (aSe, .inl (g.2.1 0, 320, .inl ce))]) := by
  refine Ct.ofX (lv := [some (.ref aM), some (.int (nI s)), none, none]) (by decide) rfl (Nat.le_of_ble_eq_true rfl) (fun κ => ?_)
  generalize hQ : xQ κ g 0 0 _ = Q
  refine x_iload_n dX8_read_0 rfl ?_
  refine x_cSi dX8_read_1 ml_X8_239 mX8_isSheet (ct_isSheet_n κ.2.1 g s (hs4)) rfl (Nat.le_of_ble_eq_true rfl) (by decide) (Nat.le_refl _) (Nat.le_refl _) ?_
  refine x_if_ne dX8_read_4 (fun c4 => ?_) (fun c4 => ?_)
  rotate_left
  · exact absurd c4 (by decide)
  refine x_aload_n dX8_read_13 rfl ?_
  refine x_get dX8_read_14 0 7 inX8 fl_X8_62 rfl rfl (by decide) rfl ?_
  refine x_iload_n dX8_read_17 rfl ?_
  refine x_qald dX8_read_18 1 s rfl (rfl) (by omega) (by decide) (hs) ?_
  refine x_astore_n (lv' := [some (.ref aM), some (.int (nI s)), some (.ref aA), none]) dX8_read_19 (xlt rfl) rfl ?_
  refine x_aload_n dX8_read_20 rfl ?_
  refine x_get dX8_read_21 2 1 inX4 fl_X8_248 rfl rfl (by decide) rfl ?_
  refine x_if_ne dX8_read_24 (fun c24 => ?_) (fun c24 => ?_)
  · have c24 : ¬ ((nI b) = 0) := c24
    have c24n := mt (nI_eq (a := b) (b := 0) (by omega) (by omega)).mpr c24
    refine x_iconst 0 dX8_read_33 (by decide) ?_
    refine x_istore_n (lv' := [some (.ref aM), some (.int (nI s)), some (.ref aA), some (.int 0)]) dX8_read_34 (xlt rfl) rfl ?_
    have L35_1 : ∀ (i : Nat), i ≤ n0 → (∀ k, k < i → rdB nu ce wk k = false) → Xs κ g 32 0 0 cX8_read yX8_read (some .int) Q 0 0 35 [some (.ref aM), some (.int (nI s)), some (.ref aA), some (.int (nI i))] [] [(aM, .inr (8, [.ref aS, .ref aK, .ref aL, .ref aC, .ref aW, .ref aR, .ref aT, .ref aH, .ref aF, .int (nI ts), .int kp])), (aH, .inl (g.2.1 4, 4, .inr (.inr (.inr (.inr shF))))), (aA, .inr (4, [.ref aAn, .int (nI b), .int (nI n0)])), (aAn, .inl (g.2.1 2, 40, .inr (.inl nu))), (aS, .inr (6, [.ref aSk, .ref aSm, .ref aSp, .ref aSt, .ref aSc, .ref aSr, .ref aSe, .int (nI gr), .int (nI br), .int (nI cs), .int (nI wk), .int z])), (aSe, .inl (g.2.1 0, 320, .inl ce))] := by
      refine upTo n0 (fun i hi35 ih35 => ?_)
      intro hno
      refine x_iload_n dX8_read_35 rfl ?_
      refine x_aload_n dX8_read_36 rfl ?_
      refine x_get dX8_read_37 2 2 inX4 fl_X8_250 rfl rfl (by decide) rfl ?_
      refine x_icmp_ge dX8_read_40 (fun c40 => ?_) (fun c40 => ?_)
      · have c40 : (nI n0) ≤ (nI i) := c40
        have c40n := (nI_leI (a := n0) (b := i) (by omega) (by omega)).mp c40
        have hxc40 : i = n0 := by omega
        try rw [hxc40]
        try rw [hxc40] at hno
        refine x_iconst 0 dX8_read_84 (by decide) ?_
        rw [← hQ]
        refine x_iret dX8_read_85 rfl (Nat.le_of_ble_eq_true rfl) (Nat.le_of_ble_eq_true rfl) ?_
        exact ⟨by rw [rdN_no hno] <;> rfl, rfl⟩
      · have c40 : ¬ ((nI n0) ≤ (nI i)) := c40
        have c40n := mt (nI_leI (a := n0) (b := i) (by omega) (by omega)).mpr c40
        refine x_iload_n dX8_read_43 rfl ?_
        refine x_aload_n dX8_read_44 rfl ?_
        refine x_get dX8_read_45 0 0 inX8 fl_X8_10 rfl rfl (by decide) rfl ?_
        refine x_get dX8_read_48 4 10 inX6 fl_X8_189 rfl rfl (by decide) rfl ?_
        refine x_icmp_ge dX8_read_51 (fun c51 => ?_) (fun c51 => ?_)
        · have c51 : (nI wk) ≤ (nI i) := c51
          have c51n := (nI_leI (a := wk) (b := i) (by omega) (by omega)).mp c51
          refine x_iconst 1 dX8_read_74 (by decide) ?_
          refine x_iload_n dX8_read_75 rfl ?_
          refine x_iadd dX8_read_76 ?_
          refine x_rei (nI (1 + i)) (nI_iadd 1 i) ?_
          rw [← hQ]
          refine x_iret dX8_read_77 rfl (Nat.le_of_ble_eq_true rfl) (Nat.le_of_ble_eq_true rfl) ?_
          exact ⟨by rw [rdN_hit (by omega) hno (by first | (rw [rdB, decide_eq_true (by omega : wk ≤ i)]; rfl) | (rw [rdB, decide_eq_false (fun q => c71 ((lgc_eq _ _).mpr q))]; simp))], rfl⟩
        · have c51 : ¬ ((nI wk) ≤ (nI i)) := c51
          have c51n := mt (nI_leI (a := wk) (b := i) (by omega) (by omega)).mpr c51
          refine x_aload_n dX8_read_54 rfl ?_
          refine x_get dX8_read_55 2 0 inX4 fl_X8_253 rfl rfl (by decide) rfl ?_
          refine x_iload_n dX8_read_58 rfl ?_
          refine x_lald dX8_read_59 3 i rfl (rfl) (by omega) (by decide) ?_
          refine x_aload_n dX8_read_60 rfl ?_
          refine x_get dX8_read_61 0 0 inX8 fl_X8_10 rfl rfl (by decide) rfl ?_
          refine x_iload_n dX8_read_64 rfl ?_
          refine x_iconst 3 dX8_read_65 (by decide) ?_
          refine x_cVi0 dX8_read_66 ml_X8_192 mX6_bookCell (ct_X6_bookCell κ.2.1 g aS aSk aSm aSp aSt aSc aSr aSe gr br cs wk z ce i 3 (by omega) (by decide)) [4, 5] rfl rfl 4 rfl rfl rfl (Nat.le_of_ble_eq_true rfl) (by decide) (Nat.le_refl _) (Nat.le_refl _) ?_
          refine x_i2l dX8_read_69 ?_
          refine x_lcmp dX8_read_70 ?_
          refine x_if_eq dX8_read_71 (fun c71 => ?_) (fun c71 => ?_)
          · have c71 : (lg_cmp (nu i) ((ce (i * 8 + 3)).toInt64)) = 0 := c71
            refine x_iinc (lv' := [some (.ref aM), some (.int (nI s)), some (.ref aA), some (.int (nI (i + 1)))]) (nI (i + 1)) dX8_read_78 rfl (nI_addc i 1 rfl) rfl ?_
            refine x_goto dX8_read_81 ?_
            exact ih35 (by omega)  (allS hno (by simp only [rdB, Bool.or_eq_false_iff, decide_eq_false_iff_not, Bool.not_eq_false', decide_eq_true_eq]; exact ⟨by omega, (lgc_eq _ _).mp c71⟩))
          · have c71 : ¬ ((lg_cmp (nu i) ((ce (i * 8 + 3)).toInt64)) = 0) := c71
            refine x_iconst 1 dX8_read_74 (by decide) ?_
            refine x_iload_n dX8_read_75 rfl ?_
            refine x_iadd dX8_read_76 ?_
            refine x_rei (nI (1 + i)) (nI_iadd 1 i) ?_
            rw [← hQ]
            refine x_iret dX8_read_77 rfl (Nat.le_of_ble_eq_true rfl) (Nat.le_of_ble_eq_true rfl) ?_
            exact ⟨by rw [rdN_hit (by omega) hno (by first | (rw [rdB, decide_eq_true (by omega : wk ≤ i)]; rfl) | (rw [rdB, decide_eq_false (fun q => c71 ((lgc_eq _ _).mpr q))]; simp))], rfl⟩
    exact L35_1 0 (Nat.zero_le _)  (fun k hk => by omega)
  · have c24 : (nI b) = 0 := c24
    have c24n := (nI_eq (a := b) (b := 0) (by omega) (by omega)).mp c24
    exact absurd c24n (by omega)

-- == liking_f ==
theorem dX8_liking_0 : xd cX8_liking 0 (.aload_n 0) 1 1 := ⟨by decide +kernel, rfl⟩
theorem dX8_liking_1 : xd cX8_liking 1 (.getfield 52) 3 4 := ⟨by decide +kernel, rfl⟩
theorem dX8_liking_4 : xd cX8_liking 4 (.aload_n 0) 1 5 := ⟨by decide +kernel, rfl⟩
theorem dX8_liking_5 : xd cX8_liking 5 (.getfield 56) 3 8 := ⟨by decide +kernel, rfl⟩
theorem dX8_liking_8 : xd cX8_liking 8 (.aload_n 0) 1 9 := ⟨by decide +kernel, rfl⟩
theorem dX8_liking_9 : xd cX8_liking 9 (.getfield 145) 3 12 := ⟨by decide +kernel, rfl⟩
theorem dX8_liking_12 : xd cX8_liking 12 (.invokevirtual 148) 3 15 := ⟨by decide +kernel, rfl⟩
theorem dX8_liking_15 : xd cX8_liking 15 (.istore_n 1) 1 16 := ⟨by decide +kernel, rfl⟩
theorem dX8_liking_16 : xd cX8_liking 16 (.iload_n 1) 1 17 := ⟨by decide +kernel, rfl⟩
theorem dX8_liking_17 : xj cX8_liking 17 (.ifCond .lt) 20 24 := ⟨7, by decide +kernel, rfl, by decide⟩
theorem dX8_liking_20 : xd cX8_liking 20 (.iconst (-1)) 1 21 := ⟨by decide +kernel, rfl⟩
theorem dX8_liking_21 : xd cX8_liking 21 (.iload_n 1) 1 22 := ⟨by decide +kernel, rfl⟩
theorem dX8_liking_22 : xd cX8_liking 22 .isub 1 23 := ⟨by decide +kernel, rfl⟩
theorem dX8_liking_23 : xd cX8_liking 23 .ireturn 1 24 := ⟨by decide +kernel, rfl⟩
theorem dX8_liking_24 : xd cX8_liking 24 (.aload_n 0) 1 25 := ⟨by decide +kernel, rfl⟩
theorem dX8_liking_25 : xd cX8_liking 25 (.getfield 10) 3 28 := ⟨by decide +kernel, rfl⟩
theorem dX8_liking_28 : xd cX8_liking 28 (.aload_n 0) 1 29 := ⟨by decide +kernel, rfl⟩
theorem dX8_liking_29 : xd cX8_liking 29 (.getfield 52) 3 32 := ⟨by decide +kernel, rfl⟩
theorem dX8_liking_32 : xd cX8_liking 32 (.aload_n 0) 1 33 := ⟨by decide +kernel, rfl⟩
theorem dX8_liking_33 : xd cX8_liking 33 (.getfield 10) 3 36 := ⟨by decide +kernel, rfl⟩
theorem dX8_liking_36 : xd cX8_liking 36 (.getfield 152) 3 39 := ⟨by decide +kernel, rfl⟩
theorem dX8_liking_39 : xd cX8_liking 39 (.invokevirtual 155) 3 42 := ⟨by decide +kernel, rfl⟩
theorem dX8_liking_42 : xd cX8_liking 42 (.putfield 159) 3 45 := ⟨by decide +kernel, rfl⟩
theorem dX8_liking_45 : xd cX8_liking 45 (.aload_n 0) 1 46 := ⟨by decide +kernel, rfl⟩
theorem dX8_liking_46 : xd cX8_liking 46 (.iconst 0) 1 47 := ⟨by decide +kernel, rfl⟩
theorem dX8_liking_47 : xd cX8_liking 47 (.putfield 145) 3 50 := ⟨by decide +kernel, rfl⟩
theorem dX8_liking_50 : xd cX8_liking 50 (.aload_n 0) 1 51 := ⟨by decide +kernel, rfl⟩
theorem dX8_liking_51 : xd cX8_liking 51 (.getfield 36) 3 54 := ⟨by decide +kernel, rfl⟩
theorem dX8_liking_54 : xd cX8_liking 54 (.invokevirtual 104) 3 57 := ⟨by decide +kernel, rfl⟩
theorem dX8_liking_57 : xd cX8_liking 57 (.iconst 0) 1 58 := ⟨by decide +kernel, rfl⟩
theorem dX8_liking_58 : xd cX8_liking 58 .ireturn 1 59 := ⟨by decide +kernel, rfl⟩

set_option maxRecDepth 100000 in
set_option maxHeartbeats 4000000 in
theorem ct_liking_f (l : Launch) (g : XG) (aM aS aK aL aC aW aR aT aH aF : Nat) (ts : Nat) (kp : Int32) (aSk aSm aSp aSt aSc aSr aSe gr br cs wk : Nat) (z : Int32) (aV aO aCs aCl aCh aCw aCc aCb tot lat : Nat) (se sw : Int32) (aRt aRc n0 a0 cs0 : Nat) (ft : Int32) (bo tb : Nat → Nat) (f0 : Nat → Int32) (co : Nat → Int32) (q : Nat) (hn : ts ≤ 60) (hbo : ∀ j, bo j < 256) (htb : ∀ j, tb j < 256) (hq : fltI (hB tb ts) ts = nI q) (hq2 : q ≤ 60) : Ct l g 32 0 0 yX8_liking cX8_liking 2 (some .int) [.ref aM] [(aM, .inr (8, [.ref aS, .ref aK, .ref aL, .ref aC, .ref aW, .ref aR, .ref aT, .ref aH, .ref aF, .int (nI ts), .int kp])), (aR, .inr (1, [.ref aRt, .ref aRc, .int (nI n0), .int (nI cs0), .int (nI a0), .int ft])), (aRt, .inl (g.2.1 1, 60, .inl (fun j => sgB (bo j)))), (aRc, .inl (g.2.1 0, 60, .inl f0)), (aT, .inl (g.2.1 1, 60, .inl (fun j => sgB (tb j)))), (aS, .inr (6, [.ref aSk, .ref aSm, .ref aSp, .ref aSt, .ref aSc, .ref aSr, .ref aSe, .int (nI gr), .int (nI br), .int (nI cs), .int (nI wk), .int z])), (aSc, .inl (g.2.1 0, 60, .inl co)), (aC, .inr (0, [.ref aS, .ref aL, .ref aV, .ref aO, .ref aCs, .ref aCl, .ref aCh, .ref aCw, .ref aCc, .ref aCb, .int (nI tot), .int (nI lat), .int se, .int sw]))] (xpi ((-1) - nI q) [(aM, .inr (8, [.ref aS, .ref aK, .ref aL, .ref aC, .ref aW, .ref aR, .ref aT, .ref aH, .ref aF, .int (nI ts), .int kp])), (aR, .inr (1, [.ref aRt, .ref aRc, .int (nI ts), .int (nI ((sumL_ (hB tb ts) 4 (0, false, [])).2.2.length)), .int (nI ((sumL_ (hB tb ts) 4 (0, false, [])).1)), .int (fltI (hB tb ts) ts)])), (aRt, .inl (g.2.1 1, 60, .inl (fun j => sgB (if j < ts then tb j else bo j)))), (aRc, .inl (g.2.1 0, 60, .inl (coL (sumL_ (hB tb ts) 4 (0, false, [])).2.2 f0))), (aT, .inl (g.2.1 1, 60, .inl (fun j => sgB (tb j)))), (aS, .inr (6, [.ref aSk, .ref aSm, .ref aSp, .ref aSt, .ref aSc, .ref aSr, .ref aSe, .int (nI gr), .int (nI br), .int (nI cs), .int (nI wk), .int z])), (aSc, .inl (g.2.1 0, 60, .inl co)), (aC, .inr (0, [.ref aS, .ref aL, .ref aV, .ref aO, .ref aCs, .ref aCl, .ref aCh, .ref aCw, .ref aCc, .ref aCb, .int (nI tot), .int (nI lat), .int se, .int sw]))]) := by
  refine Ct.ofX (lv := [some (.ref aM), none]) (by decide) rfl (Nat.le_of_ble_eq_true rfl) (fun κ => ?_)
  generalize hQ : xQ κ g 0 0 _ = Q
  refine x_aload_n dX8_liking_0 rfl ?_
  refine x_get dX8_liking_1 0 5 inX8 fl_X8_52 rfl rfl (by decide) rfl ?_
  refine x_aload_n dX8_liking_4 rfl ?_
  refine x_get dX8_liking_5 0 6 inX8 fl_X8_56 rfl rfl (by decide) rfl ?_
  refine x_aload_n dX8_liking_8 rfl ?_
  refine x_get dX8_liking_9 0 9 inX8 fl_X8_145 rfl rfl (by decide) rfl ?_
  refine x_cVi (ws' := [(aM, .inr (8, [.ref aS, .ref aK, .ref aL, .ref aC, .ref aW, .ref aR, .ref aT, .ref aH, .ref aF, .int (nI ts), .int kp])), (aR, .inr (1, [.ref aRt, .ref aRc, .int (nI ts), .int (nI ((sumL_ (hB tb ts) 4 (0, false, [])).2.2.length)), .int (nI ((sumL_ (hB tb ts) 4 (0, false, [])).1)), .int (fltI (hB tb ts) ts)])), (aRt, .inl (g.2.1 1, 60, .inl (fun j => sgB (if j < ts then tb j else bo j)))), (aRc, .inl (g.2.1 0, 60, .inl (coL (sumL_ (hB tb ts) 4 (0, false, [])).2.2 f0))), (aT, .inl (g.2.1 1, 60, .inl (fun j => sgB (tb j)))), (aS, .inr (6, [.ref aSk, .ref aSm, .ref aSp, .ref aSt, .ref aSc, .ref aSr, .ref aSe, .int (nI gr), .int (nI br), .int (nI cs), .int (nI wk), .int z])), (aSc, .inl (g.2.1 0, 60, .inl co)), (aC, .inr (0, [.ref aS, .ref aL, .ref aV, .ref aO, .ref aCs, .ref aCl, .ref aCh, .ref aCw, .ref aCc, .ref aCb, .int (nI tot), .int (nI lat), .int se, .int sw]))]) dX8_liking_12 ml_X8_148 mX1_faultOf (ct_X1_faultOf κ.2.1 g aR aRt aRc aT ts n0 a0 cs0 ft bo tb f0 (hn) (hbo) (htb)) [1, 2, 3, 4] rfl rfl 1 rfl rfl rfl (Nat.le_of_ble_eq_true rfl) (by decide) (Nat.le_refl _) (Nat.le_refl _) (rfl : [aR, aRt, aRc, aT] = [aR, aRt, aRc, aT]) rfl ?_
  refine x_rei (nI q) (hq) ?_
  refine x_istore_n (lv' := [some (.ref aM), some (.int (nI q))]) dX8_liking_15 (xlt rfl) rfl ?_
  refine x_iload_n dX8_liking_16 rfl ?_
  refine x_if_lt dX8_liking_17 (fun c17 => ?_) (fun c17 => ?_)
  · have c17 : (nI q) < 0 := c17
    have c17n := (nI_ltI (a := q) (b := 0) (by omega) (by omega)).mp c17
    exact absurd c17n (by omega)
  · have c17 : ¬ ((nI q) < 0) := c17
    have c17n := mt (nI_ltI (a := q) (b := 0) (by omega) (by omega)).mpr c17
    refine x_iconst (-1) dX8_liking_20 (by decide) ?_
    refine x_iload_n dX8_liking_21 rfl ?_
    refine x_isub dX8_liking_22 ?_
    rw [← hQ]
    refine x_iret dX8_liking_23 rfl (Nat.le_of_ble_eq_true rfl) (Nat.le_of_ble_eq_true rfl) ?_
    exact ⟨rfl, rfl⟩

-- == liking_o ==
set_option maxRecDepth 100000 in
set_option maxHeartbeats 4000000 in
theorem ct_liking_o (l : Launch) (g : XG) (aM aS aK aL aC aW aR aT aH aF : Nat) (ts : Nat) (kp : Int32) (aSk aSm aSp aSt aSc aSr aSe gr br cs wk : Nat) (z : Int32) (aV aO aCs aCl aCh aCw aCc aCb tot lat : Nat) (se sw : Int32) (aRt aRc n0 a0 cs0 : Nat) (ft : Int32) (bo tb : Nat → Nat) (f0 : Nat → Int32) (co : Nat → Int32) (hn : ts ≤ 60) (hbo : ∀ j, bo j < 256) (htb : ∀ j, tb j < 256) (hq : fltI (hB tb ts) ts = -1) : Ct l g 32 0 0 yX8_liking cX8_liking 2 (some .int) [.ref aM] [(aM, .inr (8, [.ref aS, .ref aK, .ref aL, .ref aC, .ref aW, .ref aR, .ref aT, .ref aH, .ref aF, .int (nI ts), .int kp])), (aR, .inr (1, [.ref aRt, .ref aRc, .int (nI n0), .int (nI cs0), .int (nI a0), .int ft])), (aRt, .inl (g.2.1 1, 60, .inl (fun j => sgB (bo j)))), (aRc, .inl (g.2.1 0, 60, .inl f0)), (aT, .inl (g.2.1 1, 60, .inl (fun j => sgB (tb j)))), (aS, .inr (6, [.ref aSk, .ref aSm, .ref aSp, .ref aSt, .ref aSc, .ref aSr, .ref aSe, .int (nI gr), .int (nI br), .int (nI cs), .int (nI wk), .int z])), (aSc, .inl (g.2.1 0, 60, .inl co)), (aC, .inr (0, [.ref aS, .ref aL, .ref aV, .ref aO, .ref aCs, .ref aCl, .ref aCh, .ref aCw, .ref aCc, .ref aCb, .int (nI tot), .int (nI lat), .int se, .int sw]))] (xpi (0) [(aM, .inr (8, [.ref aS, .ref aK, .ref aL, .ref aC, .ref aW, .ref aR, .ref aT, .ref aH, .ref aF, .int 0, .int kp])), (aR, .inr (1, [.ref aRt, .ref aRc, .int (nI ts), .int (nI ((sumL_ (hB tb ts) 4 (0, false, [])).2.2.length)), .int (nI ((sumL_ (hB tb ts) 4 (0, false, [])).1)), .int (fltI (hB tb ts) ts)])), (aRt, .inl (g.2.1 1, 60, .inl (fun j => sgB (if j < ts then tb j else bo j)))), (aRc, .inl (g.2.1 0, 60, .inl (coL (sumL_ (hB tb ts) 4 (0, false, [])).2.2 f0))), (aT, .inl (g.2.1 1, 60, .inl (fun j => sgB (tb j)))), (aS, .inr (6, [.ref aSk, .ref aSm, .ref aSp, .ref aSt, .ref aSc, .ref aSr, .ref aSe, .int (nI gr), .int (nI br), .int (nI ((sumL_ (hB tb ts) 4 (0, false, [])).2.2.length)), .int (nI wk), .int z])), (aSc, .inl (g.2.1 0, 60, .inl (coL (sumL_ (hB tb ts) 4 (0, false, [])).2.2 co))), (aC, .inr (0, [.ref aS, .ref aL, .ref aV, .ref aO, .ref aCs, .ref aCl, .ref aCh, .ref aCw, .ref aCc, .ref aCb, .int (nI tot), .int (nI lat), .int 0, .int 0]))]) := by
  refine Ct.ofX (lv := [some (.ref aM), none]) (by decide) rfl (Nat.le_of_ble_eq_true rfl) (fun κ => ?_)
  generalize hQ : xQ κ g 0 0 _ = Q
  refine x_aload_n dX8_liking_0 rfl ?_
  refine x_get dX8_liking_1 0 5 inX8 fl_X8_52 rfl rfl (by decide) rfl ?_
  refine x_aload_n dX8_liking_4 rfl ?_
  refine x_get dX8_liking_5 0 6 inX8 fl_X8_56 rfl rfl (by decide) rfl ?_
  refine x_aload_n dX8_liking_8 rfl ?_
  refine x_get dX8_liking_9 0 9 inX8 fl_X8_145 rfl rfl (by decide) rfl ?_
  refine x_cVi (ws' := [(aM, .inr (8, [.ref aS, .ref aK, .ref aL, .ref aC, .ref aW, .ref aR, .ref aT, .ref aH, .ref aF, .int (nI ts), .int kp])), (aR, .inr (1, [.ref aRt, .ref aRc, .int (nI ts), .int (nI ((sumL_ (hB tb ts) 4 (0, false, [])).2.2.length)), .int (nI ((sumL_ (hB tb ts) 4 (0, false, [])).1)), .int (fltI (hB tb ts) ts)])), (aRt, .inl (g.2.1 1, 60, .inl (fun j => sgB (if j < ts then tb j else bo j)))), (aRc, .inl (g.2.1 0, 60, .inl (coL (sumL_ (hB tb ts) 4 (0, false, [])).2.2 f0))), (aT, .inl (g.2.1 1, 60, .inl (fun j => sgB (tb j)))), (aS, .inr (6, [.ref aSk, .ref aSm, .ref aSp, .ref aSt, .ref aSc, .ref aSr, .ref aSe, .int (nI gr), .int (nI br), .int (nI cs), .int (nI wk), .int z])), (aSc, .inl (g.2.1 0, 60, .inl co)), (aC, .inr (0, [.ref aS, .ref aL, .ref aV, .ref aO, .ref aCs, .ref aCl, .ref aCh, .ref aCw, .ref aCc, .ref aCb, .int (nI tot), .int (nI lat), .int se, .int sw]))]) dX8_liking_12 ml_X8_148 mX1_faultOf (ct_X1_faultOf κ.2.1 g aR aRt aRc aT ts n0 a0 cs0 ft bo tb f0 (hn) (hbo) (htb)) [1, 2, 3, 4] rfl rfl 1 rfl rfl rfl (Nat.le_of_ble_eq_true rfl) (by decide) (Nat.le_refl _) (Nat.le_refl _) (rfl : [aR, aRt, aRc, aT] = [aR, aRt, aRc, aT]) rfl ?_
  refine x_rei ((-1)) (hq) ?_
  refine x_istore_n (lv' := [some (.ref aM), some (.int ((-1)))]) dX8_liking_15 (xlt rfl) rfl ?_
  refine x_iload_n dX8_liking_16 rfl ?_
  refine x_if_lt dX8_liking_17 (fun c17 => ?_) (fun c17 => ?_)
  rotate_left
  · exact absurd c17 (by decide)
  refine x_aload_n dX8_liking_24 rfl ?_
  refine x_get dX8_liking_25 0 0 inX8 fl_X8_10 rfl rfl (by decide) rfl ?_
  refine x_aload_n dX8_liking_28 rfl ?_
  refine x_get dX8_liking_29 0 5 inX8 fl_X8_52 rfl rfl (by decide) rfl ?_
  refine x_aload_n dX8_liking_32 rfl ?_
  refine x_get dX8_liking_33 0 0 inX8 fl_X8_10 rfl rfl (by decide) rfl ?_
  refine x_get dX8_liking_36 5 4 inX6 fl_X8_152 rfl rfl (by decide) rfl ?_
  refine x_cVi (ws' := [(aM, .inr (8, [.ref aS, .ref aK, .ref aL, .ref aC, .ref aW, .ref aR, .ref aT, .ref aH, .ref aF, .int (nI ts), .int kp])), (aR, .inr (1, [.ref aRt, .ref aRc, .int (nI ts), .int (nI (((sumL_ (hB tb ts) 4 (0, false, [])).2.2).length)), .int (nI ((sumL_ (hB tb ts) 4 (0, false, [])).1)), .int (fltI (hB tb ts) ts)])), (aRt, .inl (g.2.1 1, 60, .inl (fun j => sgB (if j < ts then tb j else bo j)))), (aRc, .inl (g.2.1 0, 60, .inl (coL ((sumL_ (hB tb ts) 4 (0, false, [])).2.2) f0))), (aT, .inl (g.2.1 1, 60, .inl (fun j => sgB (tb j)))), (aS, .inr (6, [.ref aSk, .ref aSm, .ref aSp, .ref aSt, .ref aSc, .ref aSr, .ref aSe, .int (nI gr), .int (nI br), .int (nI cs), .int (nI wk), .int z])), (aSc, .inl (g.2.1 0, 60, .inl (coL ((sumL_ (hB tb ts) 4 (0, false, [])).2.2) co))), (aC, .inr (0, [.ref aS, .ref aL, .ref aV, .ref aO, .ref aCs, .ref aCl, .ref aCh, .ref aCw, .ref aCc, .ref aCb, .int (nI tot), .int (nI lat), .int se, .int sw]))]) dX8_liking_39 ml_X8_155 mX1_putCodeInto (ct_X1_putCodeInto κ.2.1 g aR aRt aRc ts ((sumL_ (hB tb ts) 4 (0, false, [])).1) aSc (fltI (hB tb ts) ts) f0 co ((sumL_ (hB tb ts) 4 (0, false, [])).2.2) ((sumL_ok (okH_hB tb ts) 4 (0, false, []) ⟨Nat.zero_le _, by decide⟩).2)) [1, 3, 6] rfl rfl 1 rfl rfl rfl (Nat.le_of_ble_eq_true rfl) (by decide) (Nat.le_refl _) (Nat.le_refl _) (rfl : [aR, aRc, aSc] = [aR, aRc, aSc]) rfl ?_
  refine x_put (ws' := [(aM, .inr (8, [.ref aS, .ref aK, .ref aL, .ref aC, .ref aW, .ref aR, .ref aT, .ref aH, .ref aF, .int (nI ts), .int kp])), (aR, .inr (1, [.ref aRt, .ref aRc, .int (nI ts), .int (nI (((sumL_ (hB tb ts) 4 (0, false, [])).2.2).length)), .int (nI ((sumL_ (hB tb ts) 4 (0, false, [])).1)), .int (fltI (hB tb ts) ts)])), (aRt, .inl (g.2.1 1, 60, .inl (fun j => sgB (if j < ts then tb j else bo j)))), (aRc, .inl (g.2.1 0, 60, .inl (coL ((sumL_ (hB tb ts) 4 (0, false, [])).2.2) f0))), (aT, .inl (g.2.1 1, 60, .inl (fun j => sgB (tb j)))), (aS, .inr (6, [.ref aSk, .ref aSm, .ref aSp, .ref aSt, .ref aSc, .ref aSr, .ref aSe, .int (nI gr), .int (nI br), .int (nI (((sumL_ (hB tb ts) 4 (0, false, [])).2.2).length)), .int (nI wk), .int z])), (aSc, .inl (g.2.1 0, 60, .inl (coL ((sumL_ (hB tb ts) 4 (0, false, [])).2.2) co))), (aC, .inr (0, [.ref aS, .ref aL, .ref aV, .ref aO, .ref aCs, .ref aCl, .ref aCh, .ref aCw, .ref aCc, .ref aCb, .int (nI tot), .int (nI lat), .int se, .int sw]))]) dX8_liking_42 5 9 inX6 tyX6_ok nmX6 fl_X8_159 rfl rfl (by decide) rfl (rfl) rfl (xlt rfl) rfl ?_
  refine x_aload_n dX8_liking_45 rfl ?_
  refine x_iconst 0 dX8_liking_46 (by decide) ?_
  refine x_put (ws' := [(aM, .inr (8, [.ref aS, .ref aK, .ref aL, .ref aC, .ref aW, .ref aR, .ref aT, .ref aH, .ref aF, .int 0, .int kp])), (aR, .inr (1, [.ref aRt, .ref aRc, .int (nI ts), .int (nI (((sumL_ (hB tb ts) 4 (0, false, [])).2.2).length)), .int (nI ((sumL_ (hB tb ts) 4 (0, false, [])).1)), .int (fltI (hB tb ts) ts)])), (aRt, .inl (g.2.1 1, 60, .inl (fun j => sgB (if j < ts then tb j else bo j)))), (aRc, .inl (g.2.1 0, 60, .inl (coL ((sumL_ (hB tb ts) 4 (0, false, [])).2.2) f0))), (aT, .inl (g.2.1 1, 60, .inl (fun j => sgB (tb j)))), (aS, .inr (6, [.ref aSk, .ref aSm, .ref aSp, .ref aSt, .ref aSc, .ref aSr, .ref aSe, .int (nI gr), .int (nI br), .int (nI (((sumL_ (hB tb ts) 4 (0, false, [])).2.2).length)), .int (nI wk), .int z])), (aSc, .inl (g.2.1 0, 60, .inl (coL ((sumL_ (hB tb ts) 4 (0, false, [])).2.2) co))), (aC, .inr (0, [.ref aS, .ref aL, .ref aV, .ref aO, .ref aCs, .ref aCl, .ref aCh, .ref aCw, .ref aCc, .ref aCb, .int (nI tot), .int (nI lat), .int se, .int sw]))]) dX8_liking_47 0 9 inX8 tyX8_ok nmX8 fl_X8_145 rfl rfl (by decide) rfl (rfl) rfl (xlt rfl) rfl ?_
  refine x_aload_n dX8_liking_50 rfl ?_
  refine x_get dX8_liking_51 0 3 inX8 fl_X8_36 rfl rfl (by decide) rfl ?_
  refine x_cVv (ws' := [(aM, .inr (8, [.ref aS, .ref aK, .ref aL, .ref aC, .ref aW, .ref aR, .ref aT, .ref aH, .ref aF, .int 0, .int kp])), (aR, .inr (1, [.ref aRt, .ref aRc, .int (nI ts), .int (nI (((sumL_ (hB tb ts) 4 (0, false, [])).2.2).length)), .int (nI ((sumL_ (hB tb ts) 4 (0, false, [])).1)), .int (fltI (hB tb ts) ts)])), (aRt, .inl (g.2.1 1, 60, .inl (fun j => sgB (if j < ts then tb j else bo j)))), (aRc, .inl (g.2.1 0, 60, .inl (coL ((sumL_ (hB tb ts) 4 (0, false, [])).2.2) f0))), (aT, .inl (g.2.1 1, 60, .inl (fun j => sgB (tb j)))), (aS, .inr (6, [.ref aSk, .ref aSm, .ref aSp, .ref aSt, .ref aSc, .ref aSr, .ref aSe, .int (nI gr), .int (nI br), .int (nI (((sumL_ (hB tb ts) 4 (0, false, [])).2.2).length)), .int (nI wk), .int z])), (aSc, .inl (g.2.1 0, 60, .inl (coL ((sumL_ (hB tb ts) 4 (0, false, [])).2.2) co))), (aC, .inr (0, [.ref aS, .ref aL, .ref aV, .ref aO, .ref aCs, .ref aCl, .ref aCh, .ref aCw, .ref aCc, .ref aCb, .int (nI tot), .int (nI lat), .int 0, .int 0]))]) dX8_liking_54 ml_X8_104 mX0_stir (ct_X0_stir κ.2.1 g aC aS aL aV aO aCs aCl aCh aCw aCc aCb tot lat se sw) [7] rfl rfl 7 rfl rfl rfl (Nat.le_of_ble_eq_true rfl) (by decide) (Nat.le_refl _) (Nat.le_refl _) (rfl : [aC] = [aC]) rfl ?_
  refine x_iconst 0 dX8_liking_57 (by decide) ?_
  rw [← hQ]
  refine x_iret dX8_liking_58 rfl (Nat.le_of_ble_eq_true rfl) (Nat.le_of_ble_eq_true rfl) ?_
  exact ⟨rfl, rfl⟩

