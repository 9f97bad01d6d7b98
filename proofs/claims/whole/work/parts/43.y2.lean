
-- == X9_isSheet ==
theorem dX9_isSheet_0 : xd cX9_isSheet 0 (.iload_n 0) 1 1 := ⟨by decide +kernel, rfl⟩
theorem dX9_isSheet_1 : xj cX9_isSheet 1 (.ifCond .lt) 4 13 := ⟨12, by decide +kernel, rfl, by decide⟩
theorem dX9_isSheet_4 : xd cX9_isSheet 4 (.iload_n 0) 1 5 := ⟨by decide +kernel, rfl⟩
theorem dX9_isSheet_5 : xd cX9_isSheet 5 (.iconst 4) 1 6 := ⟨by decide +kernel, rfl⟩
theorem dX9_isSheet_6 : xj cX9_isSheet 6 (.if_icmp .ge) 9 13 := ⟨7, by decide +kernel, rfl, by decide⟩
theorem dX9_isSheet_9 : xd cX9_isSheet 9 (.iconst 1) 1 10 := ⟨by decide +kernel, rfl⟩
theorem dX9_isSheet_10 : xj cX9_isSheet 10 .goto 13 14 := ⟨4, by decide +kernel, rfl, by decide⟩
theorem dX9_isSheet_13 : xd cX9_isSheet 13 (.iconst 0) 1 14 := ⟨by decide +kernel, rfl⟩
theorem dX9_isSheet_14 : xd cX9_isSheet 14 .ireturn 1 15 := ⟨by decide +kernel, rfl⟩

set_option maxRecDepth 100000 in
set_option maxHeartbeats 4000000 in
theorem ct_X9_isSheet (l : Launch) (g : XG) (p : Int32) : Ct l g 1 0 0 yX9_isSheet cX9_isSheet 1 (some .boolean) [.int p] [] (xpi (wI p 0 3) []) := by
  refine Ct.ofX (lv := [some (.int p)]) (by decide) rfl (Nat.le_of_ble_eq_true rfl) (fun κ => ?_)
  generalize hQ : xQ κ g 0 0 _ = Q
  refine x_iload_n dX9_isSheet_0 rfl ?_
  have J1_4 : ∀ (v3 : Int32), v3 = (if p < 0 then 0 else ((if 4 ≤ p then 0 else 1))) → Xs κ g 1 0 0 cX9_isSheet yX9_isSheet (some .boolean) Q 0 0 14 [some (.int p)] [.int v3] [] := by
    intro v3 ev3
    rw [← hQ]
    refine x_zret dX9_isSheet_14 rfl (by simp only [ev3, sh_eq]; exact wI_nar _ _ _) (Nat.le_of_ble_eq_true rfl) (Nat.le_of_ble_eq_true rfl) ?_
    exact ⟨by simp only [ev3, sh_eq], rfl⟩
  refine x_if_lt dX9_isSheet_1 (fun c1 => ?_) (fun c1 => ?_)
  · have c1 : p < 0 := c1
    refine x_iconst 0 dX9_isSheet_13 (by decide) ?_
    exact J1_4 _ (if_pos c1).symm
  · have c1 : ¬ (p < 0) := c1
    refine x_iload_n dX9_isSheet_4 rfl ?_
    refine x_iconst 4 dX9_isSheet_5 (by decide) ?_
    have J6_6 : ∀ (v5 : Int32), v5 = (if 4 ≤ p then 0 else 1) → Xs κ g 1 0 0 cX9_isSheet yX9_isSheet (some .boolean) Q 0 0 14 [some (.int p)] [.int v5] [] := by
      intro v5 ev5
      exact J1_4 _ (by rw [if_neg c1]; try simp only [ev5])
    refine x_icmp_ge dX9_isSheet_6 (fun c6 => ?_) (fun c6 => ?_)
    · have c6 : 4 ≤ p := c6
      refine x_iconst 0 dX9_isSheet_13 (by decide) ?_
      exact J6_6 _ (if_pos c6).symm
    · have c6 : ¬ (4 ≤ p) := c6
      refine x_iconst 1 dX9_isSheet_9 (by decide) ?_
      refine x_goto dX9_isSheet_10 ?_
      exact J6_6 _ (if_neg c6).symm

-- == nSheet_n ==
theorem ct_nSheet_n (l : Launch) (g : XG) (n : Nat) (hn : n < 4) : Ct l g 1 0 0 yX9_isSheet cX9_isSheet 1 (some .boolean) [.int (nI n)] [] (xpi (1) []) := by
  have h := ct_X9_isSheet l g (nI n)
  rw [show wI (nI n) 0 3 = 1 from wI_nat (a := 0) (b := 3) ⟨Nat.zero_le _, by omega, by omega, by decide⟩] at h
  exact h

-- == X9_narrow ==
theorem dX9_narrow_0 : xd cX9_narrow 0 (.iload_n 0) 1 1 := ⟨by decide +kernel, rfl⟩
theorem dX9_narrow_1 : xd cX9_narrow 1 (.bipush 8) 2 3 := ⟨by decide +kernel, rfl⟩
theorem dX9_narrow_3 : xj cX9_narrow 3 (.if_icmp .ne) 6 13 := ⟨10, by decide +kernel, rfl, by decide⟩
theorem dX9_narrow_6 : xd cX9_narrow 6 (.lload_n 1) 1 7 := ⟨by decide +kernel, rfl⟩
theorem dX9_narrow_7 : xd cX9_narrow 7 .l2i 1 8 := ⟨by decide +kernel, rfl⟩
theorem dX9_narrow_8 : xd cX9_narrow 8 .i2b 1 9 := ⟨by decide +kernel, rfl⟩
theorem dX9_narrow_9 : xd cX9_narrow 9 .i2l 1 10 := ⟨by decide +kernel, rfl⟩
theorem dX9_narrow_10 : xj cX9_narrow 10 .goto 13 27 := ⟨17, by decide +kernel, rfl, by decide⟩
theorem dX9_narrow_13 : xd cX9_narrow 13 (.iload_n 0) 1 14 := ⟨by decide +kernel, rfl⟩
theorem dX9_narrow_14 : xd cX9_narrow 14 (.bipush 16) 2 16 := ⟨by decide +kernel, rfl⟩
theorem dX9_narrow_16 : xj cX9_narrow 16 (.if_icmp .ne) 19 26 := ⟨10, by decide +kernel, rfl, by decide⟩
theorem dX9_narrow_19 : xd cX9_narrow 19 (.lload_n 1) 1 20 := ⟨by decide +kernel, rfl⟩
theorem dX9_narrow_20 : xd cX9_narrow 20 .l2i 1 21 := ⟨by decide +kernel, rfl⟩
theorem dX9_narrow_21 : xd cX9_narrow 21 .i2s 1 22 := ⟨by decide +kernel, rfl⟩
theorem dX9_narrow_22 : xd cX9_narrow 22 .i2l 1 23 := ⟨by decide +kernel, rfl⟩
theorem dX9_narrow_23 : xj cX9_narrow 23 .goto 26 27 := ⟨4, by decide +kernel, rfl, by decide⟩
theorem dX9_narrow_26 : xd cX9_narrow 26 (.lload_n 1) 1 27 := ⟨by decide +kernel, rfl⟩
theorem dX9_narrow_27 : xd cX9_narrow 27 .lreturn 1 28 := ⟨by decide +kernel, rfl⟩

set_option maxRecDepth 100000 in
set_option maxHeartbeats 4000000 in
theorem ct_X9_narrow (l : Launch) (g : XG) (b : Int32) (v : Int64) : Ct l g 1 0 0 yX9_narrow cX9_narrow 3 (some .long) [.int b, .long v] [] (xpl (narR b v) []) := by
  refine Ct.ofX (lv := [some (.int b), some (.long v), none]) (by decide) rfl (Nat.le_of_ble_eq_true rfl) (fun κ => ?_)
  generalize hQ : xQ κ g 0 0 _ = Q
  refine x_iload_n dX9_narrow_0 rfl ?_
  refine x_bipush 8 dX9_narrow_1 (by decide) ?_
  refine x_icmp_ne dX9_narrow_3 (fun c3 => ?_) (fun c3 => ?_)
  · have c3 : ¬ (b = 8) := c3
    refine x_iload_n dX9_narrow_13 rfl ?_
    refine x_bipush 16 dX9_narrow_14 (by decide) ?_
    refine x_icmp_ne dX9_narrow_16 (fun c16 => ?_) (fun c16 => ?_)
    · have c16 : ¬ (b = 16) := c16
      refine x_lload_n dX9_narrow_26 rfl ?_
      rw [← hQ]
      refine x_lret dX9_narrow_27 rfl (Nat.le_of_ble_eq_true rfl) (Nat.le_of_ble_eq_true rfl) ?_
      exact ⟨by rw [narR]; first | rw [if_pos c3] | rw [if_neg c3, if_pos c16] | rw [if_neg c3, if_neg c16], rfl⟩
    · have c16 : b = 16 := c16
      refine x_lload_n dX9_narrow_19 rfl ?_
      refine x_l2i dX9_narrow_20 ?_
      refine x_i2s dX9_narrow_21 ?_
      refine x_i2l dX9_narrow_22 ?_
      refine x_goto dX9_narrow_23 ?_
      rw [← hQ]
      refine x_lret dX9_narrow_27 rfl (Nat.le_of_ble_eq_true rfl) (Nat.le_of_ble_eq_true rfl) ?_
      exact ⟨by rw [narR]; first | rw [if_pos c3] | rw [if_neg c3, if_pos c16] | rw [if_neg c3, if_neg c16], rfl⟩
  · have c3 : b = 8 := c3
    refine x_lload_n dX9_narrow_6 rfl ?_
    refine x_l2i dX9_narrow_7 ?_
    refine x_i2b dX9_narrow_8 ?_
    refine x_i2l dX9_narrow_9 ?_
    refine x_goto dX9_narrow_10 ?_
    rw [← hQ]
    refine x_lret dX9_narrow_27 rfl (Nat.le_of_ble_eq_true rfl) (Nat.le_of_ble_eq_true rfl) ?_
    exact ⟨by rw [narR]; first | rw [if_pos c3] | rw [if_neg c3, if_pos c16] | rw [if_neg c3, if_neg c16], rfl⟩

-- == nsheet_b ==
theorem dX9_sheet_0 : xd cX9_sheet 0 (.iload_n 1) 1 1 := ⟨by decide +kernel, rfl⟩
theorem dX9_sheet_1 : xd cX9_sheet 1 (.invokestatic 258) 3 4 := ⟨by decide +kernel, rfl⟩
theorem dX9_sheet_4 : xj cX9_sheet 4 (.ifCond .eq) 7 29 := ⟨25, by decide +kernel, rfl, by decide⟩
theorem dX9_sheet_7 : xd cX9_sheet 7 (.iload_n 2) 1 8 := ⟨by decide +kernel, rfl⟩
theorem dX9_sheet_8 : xj cX9_sheet 8 (.ifCond .eq) 11 36 := ⟨28, by decide +kernel, rfl, by decide⟩
theorem dX9_sheet_11 : xd cX9_sheet 11 (.iload_n 2) 1 12 := ⟨by decide +kernel, rfl⟩
theorem dX9_sheet_12 : xd cX9_sheet 12 (.bipush 8) 2 14 := ⟨by decide +kernel, rfl⟩
theorem dX9_sheet_14 : xj cX9_sheet 14 (.if_icmp .eq) 17 36 := ⟨22, by decide +kernel, rfl, by decide⟩
theorem dX9_sheet_17 : xd cX9_sheet 17 (.iload_n 2) 1 18 := ⟨by decide +kernel, rfl⟩
theorem dX9_sheet_18 : xd cX9_sheet 18 (.bipush 16) 2 20 := ⟨by decide +kernel, rfl⟩
theorem dX9_sheet_20 : xj cX9_sheet 20 (.if_icmp .eq) 23 36 := ⟨16, by decide +kernel, rfl, by decide⟩
theorem dX9_sheet_23 : xd cX9_sheet 23 (.iload_n 2) 1 24 := ⟨by decide +kernel, rfl⟩
theorem dX9_sheet_24 : xd cX9_sheet 24 (.bipush 64) 2 26 := ⟨by decide +kernel, rfl⟩
theorem dX9_sheet_26 : xj cX9_sheet 26 (.if_icmp .eq) 29 36 := ⟨10, by decide +kernel, rfl, by decide⟩
theorem dX9_sheet_29 : xd cX9_sheet 29 (.aload_n 0) 1 30 := ⟨by decide +kernel, rfl⟩
theorem dX9_sheet_30 : xd cX9_sheet 30 (.ldc 87) 2 32 := ⟨by decide +kernel, rfl⟩
theorem dX9_sheet_32 : xd cX9_sheet 32 (.invokevirtual 88) 3 35 := ⟨by decide +kernel, rfl⟩
theorem dX9_sheet_35 : xd cX9_sheet 35 .ireturn 1 36 := ⟨by decide +kernel, rfl⟩
theorem dX9_sheet_36 : xd cX9_sheet 36 (.iload_n 3) 1 37 := ⟨by decide +kernel, rfl⟩
theorem dX9_sheet_37 : xj cX9_sheet 37 (.ifCond .ge) 40 48 := ⟨11, by decide +kernel, rfl, by decide⟩
theorem dX9_sheet_40 : xd cX9_sheet 40 (.aload_n 0) 1 41 := ⟨by decide +kernel, rfl⟩
theorem dX9_sheet_41 : xd cX9_sheet 41 (.ldc_w 261) 3 44 := ⟨by decide +kernel, rfl⟩
theorem dX9_sheet_44 : xd cX9_sheet 44 (.invokevirtual 88) 3 47 := ⟨by decide +kernel, rfl⟩
theorem dX9_sheet_47 : xd cX9_sheet 47 .ireturn 1 48 := ⟨by decide +kernel, rfl⟩
theorem dX9_sheet_48 : xd cX9_sheet 48 (.iload_n 3) 1 49 := ⟨by decide +kernel, rfl⟩
theorem dX9_sheet_49 : xd cX9_sheet 49 (.bipush 40) 2 51 := ⟨by decide +kernel, rfl⟩
theorem dX9_sheet_51 : xj cX9_sheet 51 (.if_icmp .le) 54 61 := ⟨10, by decide +kernel, rfl, by decide⟩
theorem dX9_sheet_54 : xd cX9_sheet 54 (.aload_n 0) 1 55 := ⟨by decide +kernel, rfl⟩
theorem dX9_sheet_55 : xd cX9_sheet 55 (.ldc 87) 2 57 := ⟨by decide +kernel, rfl⟩
theorem dX9_sheet_57 : xd cX9_sheet 57 (.invokevirtual 88) 3 60 := ⟨by decide +kernel, rfl⟩
theorem dX9_sheet_60 : xd cX9_sheet 60 .ireturn 1 61 := ⟨by decide +kernel, rfl⟩
theorem dX9_sheet_61 : xd cX9_sheet 61 (.aload_n 0) 1 62 := ⟨by decide +kernel, rfl⟩
theorem dX9_sheet_62 : xd cX9_sheet 62 (.getfield 34) 3 65 := ⟨by decide +kernel, rfl⟩
theorem dX9_sheet_65 : xd cX9_sheet 65 (.iload_n 1) 1 66 := ⟨by decide +kernel, rfl⟩
theorem dX9_sheet_66 : xd cX9_sheet 66 (.iload_n 2) 1 67 := ⟨by decide +kernel, rfl⟩
theorem dX9_sheet_67 : xj cX9_sheet 67 (.ifCond .ne) 70 74 := ⟨7, by decide +kernel, rfl, by decide⟩
theorem dX9_sheet_70 : xd cX9_sheet 70 (.iconst (-1)) 1 71 := ⟨by decide +kernel, rfl⟩
theorem dX9_sheet_71 : xj cX9_sheet 71 .goto 74 75 := ⟨4, by decide +kernel, rfl, by decide⟩
theorem dX9_sheet_74 : xd cX9_sheet 74 (.iload_n 2) 1 75 := ⟨by decide +kernel, rfl⟩
theorem dX9_sheet_75 : xd cX9_sheet 75 .iastore 1 76 := ⟨by decide +kernel, rfl⟩
theorem dX9_sheet_76 : xd cX9_sheet 76 (.aload_n 0) 1 77 := ⟨by decide +kernel, rfl⟩
theorem dX9_sheet_77 : xd cX9_sheet 77 (.getfield 37) 3 80 := ⟨by decide +kernel, rfl⟩
theorem dX9_sheet_80 : xd cX9_sheet 80 (.iload_n 1) 1 81 := ⟨by decide +kernel, rfl⟩
theorem dX9_sheet_81 : xd cX9_sheet 81 (.iload_n 2) 1 82 := ⟨by decide +kernel, rfl⟩
theorem dX9_sheet_82 : xj cX9_sheet 82 (.ifCond .ne) 85 89 := ⟨7, by decide +kernel, rfl, by decide⟩
theorem dX9_sheet_85 : xd cX9_sheet 85 (.iconst 0) 1 86 := ⟨by decide +kernel, rfl⟩
theorem dX9_sheet_86 : xj cX9_sheet 86 .goto 89 90 := ⟨4, by decide +kernel, rfl, by decide⟩
theorem dX9_sheet_89 : xd cX9_sheet 89 (.iload_n 3) 1 90 := ⟨by decide +kernel, rfl⟩
theorem dX9_sheet_90 : xd cX9_sheet 90 .iastore 1 91 := ⟨by decide +kernel, rfl⟩
theorem dX9_sheet_91 : xd cX9_sheet 91 (.iconst 0) 1 92 := ⟨by decide +kernel, rfl⟩
theorem dX9_sheet_92 : xd cX9_sheet 92 (.istore 4) 2 94 := ⟨by decide +kernel, rfl⟩
theorem dX9_sheet_94 : xd cX9_sheet 94 (.iload 4) 2 96 := ⟨by decide +kernel, rfl⟩
theorem dX9_sheet_96 : xd cX9_sheet 96 (.bipush 40) 2 98 := ⟨by decide +kernel, rfl⟩
theorem dX9_sheet_98 : xj cX9_sheet 98 (.if_icmp .ge) 101 120 := ⟨22, by decide +kernel, rfl, by decide⟩
theorem dX9_sheet_101 : xd cX9_sheet 101 (.aload_n 0) 1 102 := ⟨by decide +kernel, rfl⟩
theorem dX9_sheet_102 : xd cX9_sheet 102 (.getfield 40) 3 105 := ⟨by decide +kernel, rfl⟩
theorem dX9_sheet_105 : xd cX9_sheet 105 (.bipush 40) 2 107 := ⟨by decide +kernel, rfl⟩
theorem dX9_sheet_107 : xd cX9_sheet 107 (.iload_n 1) 1 108 := ⟨by decide +kernel, rfl⟩
theorem dX9_sheet_108 : xd cX9_sheet 108 .imul 1 109 := ⟨by decide +kernel, rfl⟩
theorem dX9_sheet_109 : xd cX9_sheet 109 (.iload 4) 2 111 := ⟨by decide +kernel, rfl⟩
theorem dX9_sheet_111 : xd cX9_sheet 111 .iadd 1 112 := ⟨by decide +kernel, rfl⟩
theorem dX9_sheet_112 : xd cX9_sheet 112 (.lconst 0) 1 113 := ⟨by decide +kernel, rfl⟩
theorem dX9_sheet_113 : xd cX9_sheet 113 .lastore 1 114 := ⟨by decide +kernel, rfl⟩
theorem dX9_sheet_114 : xd cX9_sheet 114 (.iinc 4 1) 3 117 := ⟨by decide +kernel, rfl⟩
theorem dX9_sheet_117 : xj cX9_sheet 117 .goto 120 94 := ⟨(-23), by decide +kernel, rfl, by decide⟩
theorem dX9_sheet_120 : xd cX9_sheet 120 (.aload_n 0) 1 121 := ⟨by decide +kernel, rfl⟩
theorem dX9_sheet_121 : xd cX9_sheet 121 (.getfield 37) 3 124 := ⟨by decide +kernel, rfl⟩
theorem dX9_sheet_124 : xd cX9_sheet 124 (.iload_n 1) 1 125 := ⟨by decide +kernel, rfl⟩
theorem dX9_sheet_125 : xd cX9_sheet 125 .iaload 1 126 := ⟨by decide +kernel, rfl⟩
theorem dX9_sheet_126 : xd cX9_sheet 126 .ireturn 1 127 := ⟨by decide +kernel, rfl⟩

set_option maxRecDepth 100000 in
set_option maxHeartbeats 4000000 in
theorem ct_nsheet_b (l : Launch) (g : XG) (aN aNs aNk aNf aNr aNp aNb aNa aNt aNbo aNsz aNnu aNl aNal aNlo aNw aNtr aNis aNbg aNow nts nta nop npr nac : Nat) (nkp nbd ntp nnw nsn nwn : Int32) (fi : Nat → Nat) (nbo : Nat → Int32) (nsz : Nat → Nat) (s bits n : Int32) (hb : wI s 0 3 = 0 ∨ (¬ bits = 0 ∧ wdI bits = 0)) : Ct l g 34 0 0 yX9_sheet cX9_sheet 5 (some .int) [.ref aN, .int s, .int bits, .int n] [(aN, .inr (9, [.ref aNs, .ref aNk, .int nkp, .ref aNf, .ref aNr, .ref aNp, .ref aNb, .ref aNa, .ref aNt, .int (nI nts), .ref aNbo, .ref aNsz, .ref aNnu, .int (nI nta), .int (nI nop), .int nbd, .int ntp, .int (nI npr), .int nnw, .int nsn, .int nwn, .ref aNl, .ref aNal, .ref aNlo, .int (nI nac), .ref aNw, .ref aNtr, .ref aNis, .ref aNbg, .ref aNow])), (aNf, .inl (g.2.1 0, 8, .inl (nIf (fnF fi)))), (aNbo, .inl (g.2.1 0, 4, .inl nbo)), (aNsz, .inl (g.2.1 0, 4, .inl (nIf nsz)))] (xpi (fndI 0) [(aN, .inr (9, [.ref aNs, .ref aNk, .int nkp, .ref aNf, .ref aNr, .ref aNp, .ref aNb, .ref aNa, .ref aNt, .int (nI nts), .ref aNbo, .ref aNsz, .ref aNnu, .int (nI nta), .int (nI nop), .int nbd, .int ntp, .int (nI npr), .int nnw, .int nsn, .int nwn, .ref aNl, .ref aNal, .ref aNlo, .int (nI nac), .ref aNw, .ref aNtr, .ref aNis, .ref aNbg, .ref aNow])), (aNf, .inl (g.2.1 0, 8, .inl (nIf (fnF (updN fi 0 (fi 0 + 1)))))), (aNbo, .inl (g.2.1 0, 4, .inl nbo)), (aNsz, .inl (g.2.1 0, 4, .inl (nIf nsz)))]) := by
  refine Ct.ofX (lv := [some (.ref aN), some (.int s), some (.int bits), some (.int n), none]) (by decide) rfl (Nat.le_of_ble_eq_true rfl) (fun κ => ?_)
  generalize hQ : xQ κ g 0 0 _ = Q
  refine x_iload_n dX9_sheet_0 rfl ?_
  refine x_cSi dX9_sheet_1 ml_X9_258 mX9_isSheet (ct_X9_isSheet κ.2.1 g s) rfl (Nat.le_of_ble_eq_true rfl) (by decide) (Nat.le_refl _) (Nat.le_refl _) ?_
  refine x_if_eq dX9_sheet_4 (fun c4 => ?_) (fun c4 => ?_)
  · have c4 : (wI s 0 3) = 0 := c4
    refine x_aload_n dX9_sheet_29 rfl ?_
    refine x_ldc dX9_sheet_30 k_X9_87 ?_
    refine x_cVi (ws' := [(aN, .inr (9, [.ref aNs, .ref aNk, .int nkp, .ref aNf, .ref aNr, .ref aNp, .ref aNb, .ref aNa, .ref aNt, .int (nI nts), .ref aNbo, .ref aNsz, .ref aNnu, .int (nI nta), .int (nI nop), .int nbd, .int ntp, .int (nI npr), .int nnw, .int nsn, .int nwn, .ref aNl, .ref aNal, .ref aNlo, .int (nI nac), .ref aNw, .ref aNtr, .ref aNis, .ref aNbg, .ref aNow])), (aNf, .inl (g.2.1 0, 8, .inl (nIf (fnF (updN fi 0 (fi 0 + 1)))))), (aNbo, .inl (g.2.1 0, 4, .inl nbo)), (aNsz, .inl (g.2.1 0, 4, .inl (nIf nsz)))]) dX9_sheet_32 ml_X9_88 mX9_finds (ct_finds_0 κ.2.1 g aN aNs aNk aNf aNr aNp aNb aNa aNt aNbo aNsz aNnu aNl aNal aNlo aNw aNtr aNis aNbg aNow nts nta nop npr nac nkp nbd ntp nnw nsn nwn fi) [0, 1] rfl rfl 0 rfl rfl rfl (Nat.le_of_ble_eq_true rfl) (by decide) (Nat.le_refl _) (Nat.le_refl _) (rfl : [aN, aNf] = [aN, aNf]) rfl ?_
    rw [← hQ]
    refine x_iret dX9_sheet_35 rfl (Nat.le_of_ble_eq_true rfl) (Nat.le_of_ble_eq_true rfl) ?_
    exact ⟨rfl, rfl⟩
  · have c4 : ¬ ((wI s 0 3) = 0) := c4
    refine x_iload_n dX9_sheet_7 rfl ?_
    refine x_if_eq dX9_sheet_8 (fun c8 => ?_) (fun c8 => ?_)
    · have c8 : bits = 0 := c8
      exact hb.elim (fun h => absurd h c4) (fun h => absurd c8 h.1)
    · have c8 : ¬ (bits = 0) := c8
      refine x_iload_n dX9_sheet_11 rfl ?_
      refine x_bipush 8 dX9_sheet_12 (by decide) ?_
      refine x_icmp_eq dX9_sheet_14 (fun c14 => ?_) (fun c14 => ?_)
      · have c14 : bits = 8 := c14
        exact hb.elim (fun h => absurd h c4) (fun h => absurd h.2 (by rw [wdI]; simp [c14]))
      · have c14 : ¬ (bits = 8) := c14
        refine x_iload_n dX9_sheet_17 rfl ?_
        refine x_bipush 16 dX9_sheet_18 (by decide) ?_
        refine x_icmp_eq dX9_sheet_20 (fun c20 => ?_) (fun c20 => ?_)
        · have c20 : bits = 16 := c20
          exact hb.elim (fun h => absurd h c4) (fun h => absurd h.2 (by rw [wdI]; simp [c20]))
        · have c20 : ¬ (bits = 16) := c20
          refine x_iload_n dX9_sheet_23 rfl ?_
          refine x_bipush 64 dX9_sheet_24 (by decide) ?_
          refine x_icmp_eq dX9_sheet_26 (fun c26 => ?_) (fun c26 => ?_)
          · have c26 : bits = 64 := c26
            exact hb.elim (fun h => absurd h c4) (fun h => absurd h.2 (by rw [wdI]; simp [c26]))
          · have c26 : ¬ (bits = 64) := c26
            refine x_aload_n dX9_sheet_29 rfl ?_
            refine x_ldc dX9_sheet_30 k_X9_87 ?_
            refine x_cVi (ws' := [(aN, .inr (9, [.ref aNs, .ref aNk, .int nkp, .ref aNf, .ref aNr, .ref aNp, .ref aNb, .ref aNa, .ref aNt, .int (nI nts), .ref aNbo, .ref aNsz, .ref aNnu, .int (nI nta), .int (nI nop), .int nbd, .int ntp, .int (nI npr), .int nnw, .int nsn, .int nwn, .ref aNl, .ref aNal, .ref aNlo, .int (nI nac), .ref aNw, .ref aNtr, .ref aNis, .ref aNbg, .ref aNow])), (aNf, .inl (g.2.1 0, 8, .inl (nIf (fnF (updN fi 0 (fi 0 + 1)))))), (aNbo, .inl (g.2.1 0, 4, .inl nbo)), (aNsz, .inl (g.2.1 0, 4, .inl (nIf nsz)))]) dX9_sheet_32 ml_X9_88 mX9_finds (ct_finds_0 κ.2.1 g aN aNs aNk aNf aNr aNp aNb aNa aNt aNbo aNsz aNnu aNl aNal aNlo aNw aNtr aNis aNbg aNow nts nta nop npr nac nkp nbd ntp nnw nsn nwn fi) [0, 1] rfl rfl 0 rfl rfl rfl (Nat.le_of_ble_eq_true rfl) (by decide) (Nat.le_refl _) (Nat.le_refl _) (rfl : [aN, aNf] = [aN, aNf]) rfl ?_
            rw [← hQ]
            refine x_iret dX9_sheet_35 rfl (Nat.le_of_ble_eq_true rfl) (Nat.le_of_ble_eq_true rfl) ?_
            exact ⟨rfl, rfl⟩

-- == nsheet_z ==
set_option maxRecDepth 100000 in
set_option maxHeartbeats 4000000 in
theorem ct_nsheet_z (l : Launch) (g : XG) (aN aNs aNk aNf aNr aNp aNb aNa aNt aNbo aNsz aNnu aNl aNal aNlo aNw aNtr aNis aNbg aNow nts nta nop npr nac : Nat) (nkp nbd ntp nnw nsn nwn : Int32) (fi : Nat → Nat) (nbo : Nat → Int32) (nsz : Nat → Nat) (s : Nat) (bits n : Int32) (hs4 : s < 4) (hw : bits = 0 ∨ ¬ wdI bits = 0) (hn : n < 0) : Ct l g 34 0 0 yX9_sheet cX9_sheet 5 (some .int) [.ref aN, .int (nI s), .int bits, .int n] [(aN, .inr (9, [.ref aNs, .ref aNk, .int nkp, .ref aNf, .ref aNr, .ref aNp, .ref aNb, .ref aNa, .ref aNt, .int (nI nts), .ref aNbo, .ref aNsz, .ref aNnu, .int (nI nta), .int (nI nop), .int nbd, .int ntp, .int (nI npr), .int nnw, .int nsn, .int nwn, .ref aNl, .ref aNal, .ref aNlo, .int (nI nac), .ref aNw, .ref aNtr, .ref aNis, .ref aNbg, .ref aNow])), (aNf, .inl (g.2.1 0, 8, .inl (nIf (fnF fi)))), (aNbo, .inl (g.2.1 0, 4, .inl nbo)), (aNsz, .inl (g.2.1 0, 4, .inl (nIf nsz)))] (xpi (fndI 6) [(aN, .inr (9, [.ref aNs, .ref aNk, .int nkp, .ref aNf, .ref aNr, .ref aNp, .ref aNb, .ref aNa, .ref aNt, .int (nI nts), .ref aNbo, .ref aNsz, .ref aNnu, .int (nI nta), .int (nI nop), .int nbd, .int ntp, .int (nI npr), .int nnw, .int nsn, .int nwn, .ref aNl, .ref aNal, .ref aNlo, .int (nI nac), .ref aNw, .ref aNtr, .ref aNis, .ref aNbg, .ref aNow])), (aNf, .inl (g.2.1 0, 8, .inl (nIf (fnF (updN fi 6 (fi 6 + 1)))))), (aNbo, .inl (g.2.1 0, 4, .inl nbo)), (aNsz, .inl (g.2.1 0, 4, .inl (nIf nsz)))]) := by
  refine Ct.ofX (lv := [some (.ref aN), some (.int (nI s)), some (.int bits), some (.int n), none]) (by decide) rfl (Nat.le_of_ble_eq_true rfl) (fun κ => ?_)
  generalize hQ : xQ κ g 0 0 _ = Q
  refine x_iload_n dX9_sheet_0 rfl ?_
  refine x_cSi dX9_sheet_1 ml_X9_258 mX9_isSheet (ct_nSheet_n κ.2.1 g s (hs4)) rfl (Nat.le_of_ble_eq_true rfl) (by decide) (Nat.le_refl _) (Nat.le_refl _) ?_
  refine x_if_eq dX9_sheet_4 (fun c4 => ?_) (fun c4 => ?_)
  · exact absurd c4 (by decide)
  refine x_iload_n dX9_sheet_7 rfl ?_
  refine x_if_eq dX9_sheet_8 (fun c8 => ?_) (fun c8 => ?_)
  · have c8 : bits = 0 := c8
    refine x_iload_n dX9_sheet_36 rfl ?_
    refine x_if_ge dX9_sheet_37 (fun c37 => ?_) (fun c37 => ?_)
    · have c37 : 0 ≤ n := c37
      exact absurd hn (fun q => (fa_of_lt q).2.1 c37)
    · have c37 : ¬ (0 ≤ n) := c37
      refine x_aload_n dX9_sheet_40 rfl ?_
      refine x_ldcw dX9_sheet_41 k_X9_261 ?_
      refine x_cVi (ws' := [(aN, .inr (9, [.ref aNs, .ref aNk, .int nkp, .ref aNf, .ref aNr, .ref aNp, .ref aNb, .ref aNa, .ref aNt, .int (nI nts), .ref aNbo, .ref aNsz, .ref aNnu, .int (nI nta), .int (nI nop), .int nbd, .int ntp, .int (nI npr), .int nnw, .int nsn, .int nwn, .ref aNl, .ref aNal, .ref aNlo, .int (nI nac), .ref aNw, .ref aNtr, .ref aNis, .ref aNbg, .ref aNow])), (aNf, .inl (g.2.1 0, 8, .inl (nIf (fnF (updN fi 6 (fi 6 + 1)))))), (aNbo, .inl (g.2.1 0, 4, .inl nbo)), (aNsz, .inl (g.2.1 0, 4, .inl (nIf nsz)))]) dX9_sheet_44 ml_X9_88 mX9_finds (ct_finds_6 κ.2.1 g aN aNs aNk aNf aNr aNp aNb aNa aNt aNbo aNsz aNnu aNl aNal aNlo aNw aNtr aNis aNbg aNow nts nta nop npr nac nkp nbd ntp nnw nsn nwn fi) [0, 1] rfl rfl 0 rfl rfl rfl (Nat.le_of_ble_eq_true rfl) (by decide) (Nat.le_refl _) (Nat.le_refl _) (rfl : [aN, aNf] = [aN, aNf]) rfl ?_
      rw [← hQ]
      refine x_iret dX9_sheet_47 rfl (Nat.le_of_ble_eq_true rfl) (Nat.le_of_ble_eq_true rfl) ?_
      exact ⟨rfl, rfl⟩
  · have c8 : ¬ (bits = 0) := c8
    refine x_iload_n dX9_sheet_11 rfl ?_
    refine x_bipush 8 dX9_sheet_12 (by decide) ?_
    refine x_icmp_eq dX9_sheet_14 (fun c14 => ?_) (fun c14 => ?_)
    · have c14 : bits = 8 := c14
      refine x_iload_n dX9_sheet_36 rfl ?_
      refine x_if_ge dX9_sheet_37 (fun c37 => ?_) (fun c37 => ?_)
      · have c37 : 0 ≤ n := c37
        exact absurd hn (fun q => (fa_of_lt q).2.1 c37)
      · have c37 : ¬ (0 ≤ n) := c37
        refine x_aload_n dX9_sheet_40 rfl ?_
        refine x_ldcw dX9_sheet_41 k_X9_261 ?_
        refine x_cVi (ws' := [(aN, .inr (9, [.ref aNs, .ref aNk, .int nkp, .ref aNf, .ref aNr, .ref aNp, .ref aNb, .ref aNa, .ref aNt, .int (nI nts), .ref aNbo, .ref aNsz, .ref aNnu, .int (nI nta), .int (nI nop), .int nbd, .int ntp, .int (nI npr), .int nnw, .int nsn, .int nwn, .ref aNl, .ref aNal, .ref aNlo, .int (nI nac), .ref aNw, .ref aNtr, .ref aNis, .ref aNbg, .ref aNow])), (aNf, .inl (g.2.1 0, 8, .inl (nIf (fnF (updN fi 6 (fi 6 + 1)))))), (aNbo, .inl (g.2.1 0, 4, .inl nbo)), (aNsz, .inl (g.2.1 0, 4, .inl (nIf nsz)))]) dX9_sheet_44 ml_X9_88 mX9_finds (ct_finds_6 κ.2.1 g aN aNs aNk aNf aNr aNp aNb aNa aNt aNbo aNsz aNnu aNl aNal aNlo aNw aNtr aNis aNbg aNow nts nta nop npr nac nkp nbd ntp nnw nsn nwn fi) [0, 1] rfl rfl 0 rfl rfl rfl (Nat.le_of_ble_eq_true rfl) (by decide) (Nat.le_refl _) (Nat.le_refl _) (rfl : [aN, aNf] = [aN, aNf]) rfl ?_
        rw [← hQ]
        refine x_iret dX9_sheet_47 rfl (Nat.le_of_ble_eq_true rfl) (Nat.le_of_ble_eq_true rfl) ?_
        exact ⟨rfl, rfl⟩
    · have c14 : ¬ (bits = 8) := c14
      refine x_iload_n dX9_sheet_17 rfl ?_
      refine x_bipush 16 dX9_sheet_18 (by decide) ?_
      refine x_icmp_eq dX9_sheet_20 (fun c20 => ?_) (fun c20 => ?_)
      · have c20 : bits = 16 := c20
        refine x_iload_n dX9_sheet_36 rfl ?_
        refine x_if_ge dX9_sheet_37 (fun c37 => ?_) (fun c37 => ?_)
        · have c37 : 0 ≤ n := c37
          exact absurd hn (fun q => (fa_of_lt q).2.1 c37)
        · have c37 : ¬ (0 ≤ n) := c37
          refine x_aload_n dX9_sheet_40 rfl ?_
          refine x_ldcw dX9_sheet_41 k_X9_261 ?_
          refine x_cVi (ws' := [(aN, .inr (9, [.ref aNs, .ref aNk, .int nkp, .ref aNf, .ref aNr, .ref aNp, .ref aNb, .ref aNa, .ref aNt, .int (nI nts), .ref aNbo, .ref aNsz, .ref aNnu, .int (nI nta), .int (nI nop), .int nbd, .int ntp, .int (nI npr), .int nnw, .int nsn, .int nwn, .ref aNl, .ref aNal, .ref aNlo, .int (nI nac), .ref aNw, .ref aNtr, .ref aNis, .ref aNbg, .ref aNow])), (aNf, .inl (g.2.1 0, 8, .inl (nIf (fnF (updN fi 6 (fi 6 + 1)))))), (aNbo, .inl (g.2.1 0, 4, .inl nbo)), (aNsz, .inl (g.2.1 0, 4, .inl (nIf nsz)))]) dX9_sheet_44 ml_X9_88 mX9_finds (ct_finds_6 κ.2.1 g aN aNs aNk aNf aNr aNp aNb aNa aNt aNbo aNsz aNnu aNl aNal aNlo aNw aNtr aNis aNbg aNow nts nta nop npr nac nkp nbd ntp nnw nsn nwn fi) [0, 1] rfl rfl 0 rfl rfl rfl (Nat.le_of_ble_eq_true rfl) (by decide) (Nat.le_refl _) (Nat.le_refl _) (rfl : [aN, aNf] = [aN, aNf]) rfl ?_
          rw [← hQ]
          refine x_iret dX9_sheet_47 rfl (Nat.le_of_ble_eq_true rfl) (Nat.le_of_ble_eq_true rfl) ?_
          exact ⟨rfl, rfl⟩
      · have c20 : ¬ (bits = 16) := c20
        refine x_iload_n dX9_sheet_23 rfl ?_
        refine x_bipush 64 dX9_sheet_24 (by decide) ?_
        refine x_icmp_eq dX9_sheet_26 (fun c26 => ?_) (fun c26 => ?_)
        · have c26 : bits = 64 := c26
          refine x_iload_n dX9_sheet_36 rfl ?_
          refine x_if_ge dX9_sheet_37 (fun c37 => ?_) (fun c37 => ?_)
          · have c37 : 0 ≤ n := c37
            exact absurd hn (fun q => (fa_of_lt q).2.1 c37)
          · have c37 : ¬ (0 ≤ n) := c37
            refine x_aload_n dX9_sheet_40 rfl ?_
            refine x_ldcw dX9_sheet_41 k_X9_261 ?_
            refine x_cVi (ws' := [(aN, .inr (9, [.ref aNs, .ref aNk, .int nkp, .ref aNf, .ref aNr, .ref aNp, .ref aNb, .ref aNa, .ref aNt, .int (nI nts), .ref aNbo, .ref aNsz, .ref aNnu, .int (nI nta), .int (nI nop), .int nbd, .int ntp, .int (nI npr), .int nnw, .int nsn, .int nwn, .ref aNl, .ref aNal, .ref aNlo, .int (nI nac), .ref aNw, .ref aNtr, .ref aNis, .ref aNbg, .ref aNow])), (aNf, .inl (g.2.1 0, 8, .inl (nIf (fnF (updN fi 6 (fi 6 + 1)))))), (aNbo, .inl (g.2.1 0, 4, .inl nbo)), (aNsz, .inl (g.2.1 0, 4, .inl (nIf nsz)))]) dX9_sheet_44 ml_X9_88 mX9_finds (ct_finds_6 κ.2.1 g aN aNs aNk aNf aNr aNp aNb aNa aNt aNbo aNsz aNnu aNl aNal aNlo aNw aNtr aNis aNbg aNow nts nta nop npr nac nkp nbd ntp nnw nsn nwn fi) [0, 1] rfl rfl 0 rfl rfl rfl (Nat.le_of_ble_eq_true rfl) (by decide) (Nat.le_refl _) (Nat.le_refl _) (rfl : [aN, aNf] = [aN, aNf]) rfl ?_
            rw [← hQ]
            refine x_iret dX9_sheet_47 rfl (Nat.le_of_ble_eq_true rfl) (Nat.le_of_ble_eq_true rfl) ?_
            exact ⟨rfl, rfl⟩
        · have c26 : ¬ (bits = 64) := c26
          exact hw.elim (fun h => absurd h c8) (fun h => absurd (by rw [wdI, if_neg c14, if_neg c20, if_neg c26]) h)

-- == nsheet_c ==
set_option maxRecDepth 100000 in
set_option maxHeartbeats 4000000 in
theorem ct_nsheet_c (l : Launch) (g : XG) (aN aNs aNk aNf aNr aNp aNb aNa aNt aNbo aNsz aNnu aNl aNal aNlo aNw aNtr aNis aNbg aNow nts nta nop npr nac : Nat) (nkp nbd ntp nnw nsn nwn : Int32) (fi : Nat → Nat) (nbo : Nat → Int32) (nsz : Nat → Nat) (s : Nat) (bits n : Int32) (hs4 : s < 4) (hw : bits = 0 ∨ ¬ wdI bits = 0) (hn : 40 < n) : Ct l g 34 0 0 yX9_sheet cX9_sheet 5 (some .int) [.ref aN, .int (nI s), .int bits, .int n] [(aN, .inr (9, [.ref aNs, .ref aNk, .int nkp, .ref aNf, .ref aNr, .ref aNp, .ref aNb, .ref aNa, .ref aNt, .int (nI nts), .ref aNbo, .ref aNsz, .ref aNnu, .int (nI nta), .int (nI nop), .int nbd, .int ntp, .int (nI npr), .int nnw, .int nsn, .int nwn, .ref aNl, .ref aNal, .ref aNlo, .int (nI nac), .ref aNw, .ref aNtr, .ref aNis, .ref aNbg, .ref aNow])), (aNf, .inl (g.2.1 0, 8, .inl (nIf (fnF fi)))), (aNbo, .inl (g.2.1 0, 4, .inl nbo)), (aNsz, .inl (g.2.1 0, 4, .inl (nIf nsz)))] (xpi (fndI 0) [(aN, .inr (9, [.ref aNs, .ref aNk, .int nkp, .ref aNf, .ref aNr, .ref aNp, .ref aNb, .ref aNa, .ref aNt, .int (nI nts), .ref aNbo, .ref aNsz, .ref aNnu, .int (nI nta), .int (nI nop), .int nbd, .int ntp, .int (nI npr), .int nnw, .int nsn, .int nwn, .ref aNl, .ref aNal, .ref aNlo, .int (nI nac), .ref aNw, .ref aNtr, .ref aNis, .ref aNbg, .ref aNow])), (aNf, .inl (g.2.1 0, 8, .inl (nIf (fnF (updN fi 0 (fi 0 + 1)))))), (aNbo, .inl (g.2.1 0, 4, .inl nbo)), (aNsz, .inl (g.2.1 0, 4, .inl (nIf nsz)))]) := by
  refine Ct.ofX (lv := [some (.ref aN), some (.int (nI s)), some (.int bits), some (.int n), none]) (by decide) rfl (Nat.le_of_ble_eq_true rfl) (fun κ => ?_)
  generalize hQ : xQ κ g 0 0 _ = Q
  refine x_iload_n dX9_sheet_0 rfl ?_
  refine x_cSi dX9_sheet_1 ml_X9_258 mX9_isSheet (ct_nSheet_n κ.2.1 g s (hs4)) rfl (Nat.le_of_ble_eq_true rfl) (by decide) (Nat.le_refl _) (Nat.le_refl _) ?_
  refine x_if_eq dX9_sheet_4 (fun c4 => ?_) (fun c4 => ?_)
  · exact absurd c4 (by decide)
  refine x_iload_n dX9_sheet_7 rfl ?_
  refine x_if_eq dX9_sheet_8 (fun c8 => ?_) (fun c8 => ?_)
  · have c8 : bits = 0 := c8
    refine x_iload_n dX9_sheet_36 rfl ?_
    refine x_if_ge dX9_sheet_37 (fun c37 => ?_) (fun c37 => ?_)
    · have c37 : 0 ≤ n := c37
      refine x_iload_n dX9_sheet_48 rfl ?_
      refine x_bipush 40 dX9_sheet_49 (by decide) ?_
      refine x_icmp_le dX9_sheet_51 (fun c51 => ?_) (fun c51 => ?_)
      · have c51 : n ≤ 40 := c51
        exact absurd c51 (fa_of_lt hn).2.1
      · have c51 : ¬ (n ≤ 40) := c51
        refine x_aload_n dX9_sheet_54 rfl ?_
        refine x_ldc dX9_sheet_55 k_X9_87 ?_
        refine x_cVi (ws' := [(aN, .inr (9, [.ref aNs, .ref aNk, .int nkp, .ref aNf, .ref aNr, .ref aNp, .ref aNb, .ref aNa, .ref aNt, .int (nI nts), .ref aNbo, .ref aNsz, .ref aNnu, .int (nI nta), .int (nI nop), .int nbd, .int ntp, .int (nI npr), .int nnw, .int nsn, .int nwn, .ref aNl, .ref aNal, .ref aNlo, .int (nI nac), .ref aNw, .ref aNtr, .ref aNis, .ref aNbg, .ref aNow])), (aNf, .inl (g.2.1 0, 8, .inl (nIf (fnF (updN fi 0 (fi 0 + 1)))))), (aNbo, .inl (g.2.1 0, 4, .inl nbo)), (aNsz, .inl (g.2.1 0, 4, .inl (nIf nsz)))]) dX9_sheet_57 ml_X9_88 mX9_finds (ct_finds_0 κ.2.1 g aN aNs aNk aNf aNr aNp aNb aNa aNt aNbo aNsz aNnu aNl aNal aNlo aNw aNtr aNis aNbg aNow nts nta nop npr nac nkp nbd ntp nnw nsn nwn fi) [0, 1] rfl rfl 0 rfl rfl rfl (Nat.le_of_ble_eq_true rfl) (by decide) (Nat.le_refl _) (Nat.le_refl _) (rfl : [aN, aNf] = [aN, aNf]) rfl ?_
        rw [← hQ]
        refine x_iret dX9_sheet_60 rfl (Nat.le_of_ble_eq_true rfl) (Nat.le_of_ble_eq_true rfl) ?_
        exact ⟨rfl, rfl⟩
    · have c37 : ¬ (0 ≤ n) := c37
      exact absurd (fa_trans hn (fa_of_nle c37 |> fun q => (fa_of_lt q).1)) (by decide)
  · have c8 : ¬ (bits = 0) := c8
    refine x_iload_n dX9_sheet_11 rfl ?_
    refine x_bipush 8 dX9_sheet_12 (by decide) ?_
    refine x_icmp_eq dX9_sheet_14 (fun c14 => ?_) (fun c14 => ?_)
    · have c14 : bits = 8 := c14
      refine x_iload_n dX9_sheet_36 rfl ?_
      refine x_if_ge dX9_sheet_37 (fun c37 => ?_) (fun c37 => ?_)
      · have c37 : 0 ≤ n := c37
        refine x_iload_n dX9_sheet_48 rfl ?_
        refine x_bipush 40 dX9_sheet_49 (by decide) ?_
        refine x_icmp_le dX9_sheet_51 (fun c51 => ?_) (fun c51 => ?_)
        · have c51 : n ≤ 40 := c51
          exact absurd c51 (fa_of_lt hn).2.1
        · have c51 : ¬ (n ≤ 40) := c51
          refine x_aload_n dX9_sheet_54 rfl ?_
          refine x_ldc dX9_sheet_55 k_X9_87 ?_
          refine x_cVi (ws' := [(aN, .inr (9, [.ref aNs, .ref aNk, .int nkp, .ref aNf, .ref aNr, .ref aNp, .ref aNb, .ref aNa, .ref aNt, .int (nI nts), .ref aNbo, .ref aNsz, .ref aNnu, .int (nI nta), .int (nI nop), .int nbd, .int ntp, .int (nI npr), .int nnw, .int nsn, .int nwn, .ref aNl, .ref aNal, .ref aNlo, .int (nI nac), .ref aNw, .ref aNtr, .ref aNis, .ref aNbg, .ref aNow])), (aNf, .inl (g.2.1 0, 8, .inl (nIf (fnF (updN fi 0 (fi 0 + 1)))))), (aNbo, .inl (g.2.1 0, 4, .inl nbo)), (aNsz, .inl (g.2.1 0, 4, .inl (nIf nsz)))]) dX9_sheet_57 ml_X9_88 mX9_finds (ct_finds_0 κ.2.1 g aN aNs aNk aNf aNr aNp aNb aNa aNt aNbo aNsz aNnu aNl aNal aNlo aNw aNtr aNis aNbg aNow nts nta nop npr nac nkp nbd ntp nnw nsn nwn fi) [0, 1] rfl rfl 0 rfl rfl rfl (Nat.le_of_ble_eq_true rfl) (by decide) (Nat.le_refl _) (Nat.le_refl _) (rfl : [aN, aNf] = [aN, aNf]) rfl ?_
          rw [← hQ]
          refine x_iret dX9_sheet_60 rfl (Nat.le_of_ble_eq_true rfl) (Nat.le_of_ble_eq_true rfl) ?_
          exact ⟨rfl, rfl⟩
      · have c37 : ¬ (0 ≤ n) := c37
        exact absurd (fa_trans hn (fa_of_nle c37 |> fun q => (fa_of_lt q).1)) (by decide)
    · have c14 : ¬ (bits = 8) := c14
      refine x_iload_n dX9_sheet_17 rfl ?_
      refine x_bipush 16 dX9_sheet_18 (by decide) ?_
      refine x_icmp_eq dX9_sheet_20 (fun c20 => ?_) (fun c20 => ?_)
      · have c20 : bits = 16 := c20
        refine x_iload_n dX9_sheet_36 rfl ?_
        refine x_if_ge dX9_sheet_37 (fun c37 => ?_) (fun c37 => ?_)
        · have c37 : 0 ≤ n := c37
          refine x_iload_n dX9_sheet_48 rfl ?_
          refine x_bipush 40 dX9_sheet_49 (by decide) ?_
          refine x_icmp_le dX9_sheet_51 (fun c51 => ?_) (fun c51 => ?_)
          · have c51 : n ≤ 40 := c51
            exact absurd c51 (fa_of_lt hn).2.1
          · have c51 : ¬ (n ≤ 40) := c51
            refine x_aload_n dX9_sheet_54 rfl ?_
            refine x_ldc dX9_sheet_55 k_X9_87 ?_
            refine x_cVi (ws' := [(aN, .inr (9, [.ref aNs, .ref aNk, .int nkp, .ref aNf, .ref aNr, .ref aNp, .ref aNb, .ref aNa, .ref aNt, .int (nI nts), .ref aNbo, .ref aNsz, .ref aNnu, .int (nI nta), .int (nI nop), .int nbd, .int ntp, .int (nI npr), .int nnw, .int nsn, .int nwn, .ref aNl, .ref aNal, .ref aNlo, .int (nI nac), .ref aNw, .ref aNtr, .ref aNis, .ref aNbg, .ref aNow])), (aNf, .inl (g.2.1 0, 8, .inl (nIf (fnF (updN fi 0 (fi 0 + 1)))))), (aNbo, .inl (g.2.1 0, 4, .inl nbo)), (aNsz, .inl (g.2.1 0, 4, .inl (nIf nsz)))]) dX9_sheet_57 ml_X9_88 mX9_finds (ct_finds_0 κ.2.1 g aN aNs aNk aNf aNr aNp aNb aNa aNt aNbo aNsz aNnu aNl aNal aNlo aNw aNtr aNis aNbg aNow nts nta nop npr nac nkp nbd ntp nnw nsn nwn fi) [0, 1] rfl rfl 0 rfl rfl rfl (Nat.le_of_ble_eq_true rfl) (by decide) (Nat.le_refl _) (Nat.le_refl _) (rfl : [aN, aNf] = [aN, aNf]) rfl ?_
            rw [← hQ]
            refine x_iret dX9_sheet_60 rfl (Nat.le_of_ble_eq_true rfl) (Nat.le_of_ble_eq_true rfl) ?_
            exact ⟨rfl, rfl⟩
        · have c37 : ¬ (0 ≤ n) := c37
          exact absurd (fa_trans hn (fa_of_nle c37 |> fun q => (fa_of_lt q).1)) (by decide)
      · have c20 : ¬ (bits = 16) := c20
        refine x_iload_n dX9_sheet_23 rfl ?_
        refine x_bipush 64 dX9_sheet_24 (by decide) ?_
        refine x_icmp_eq dX9_sheet_26 (fun c26 => ?_) (fun c26 => ?_)
        · have c26 : bits = 64 := c26
          refine x_iload_n dX9_sheet_36 rfl ?_
          refine x_if_ge dX9_sheet_37 (fun c37 => ?_) (fun c37 => ?_)
          · have c37 : 0 ≤ n := c37
            refine x_iload_n dX9_sheet_48 rfl ?_
            refine x_bipush 40 dX9_sheet_49 (by decide) ?_
            refine x_icmp_le dX9_sheet_51 (fun c51 => ?_) (fun c51 => ?_)
            · have c51 : n ≤ 40 := c51
              exact absurd c51 (fa_of_lt hn).2.1
            · have c51 : ¬ (n ≤ 40) := c51
              refine x_aload_n dX9_sheet_54 rfl ?_
              refine x_ldc dX9_sheet_55 k_X9_87 ?_
              refine x_cVi (ws' := [(aN, .inr (9, [.ref aNs, .ref aNk, .int nkp, .ref aNf, .ref aNr, .ref aNp, .ref aNb, .ref aNa, .ref aNt, .int (nI nts), .ref aNbo, .ref aNsz, .ref aNnu, .int (nI nta), .int (nI nop), .int nbd, .int ntp, .int (nI npr), .int nnw, .int nsn, .int nwn, .ref aNl, .ref aNal, .ref aNlo, .int (nI nac), .ref aNw, .ref aNtr, .ref aNis, .ref aNbg, .ref aNow])), (aNf, .inl (g.2.1 0, 8, .inl (nIf (fnF (updN fi 0 (fi 0 + 1)))))), (aNbo, .inl (g.2.1 0, 4, .inl nbo)), (aNsz, .inl (g.2.1 0, 4, .inl (nIf nsz)))]) dX9_sheet_57 ml_X9_88 mX9_finds (ct_finds_0 κ.2.1 g aN aNs aNk aNf aNr aNp aNb aNa aNt aNbo aNsz aNnu aNl aNal aNlo aNw aNtr aNis aNbg aNow nts nta nop npr nac nkp nbd ntp nnw nsn nwn fi) [0, 1] rfl rfl 0 rfl rfl rfl (Nat.le_of_ble_eq_true rfl) (by decide) (Nat.le_refl _) (Nat.le_refl _) (rfl : [aN, aNf] = [aN, aNf]) rfl ?_
              rw [← hQ]
              refine x_iret dX9_sheet_60 rfl (Nat.le_of_ble_eq_true rfl) (Nat.le_of_ble_eq_true rfl) ?_
              exact ⟨rfl, rfl⟩
          · have c37 : ¬ (0 ≤ n) := c37
            exact absurd (fa_trans hn (fa_of_nle c37 |> fun q => (fa_of_lt q).1)) (by decide)
        · have c26 : ¬ (bits = 64) := c26
          exact hw.elim (fun h => absurd h c8) (fun h => absurd (by rw [wdI, if_neg c14, if_neg c20, if_neg c26]) h)

-- == nsheet_o ==
set_option maxRecDepth 100000 in
set_option maxHeartbeats 4000000 in
theorem ct_nsheet_o (l : Launch) (g : XG) (aN aNs aNk aNf aNr aNp aNb aNa aNt aNbo aNsz aNnu aNl aNal aNlo aNw aNtr aNis aNbg aNow nts nta nop npr nac : Nat) (nkp nbd ntp nnw nsn nwn : Int32) (fi : Nat → Nat) (nbo : Nat → Int32) (nsz : Nat → Nat) (nnu : Nat → Int64) (s w n : Nat) (hs4 : s < 4) (hw : nI w = 0 ∨ ¬ wdI (nI w) = 0) (hw2 : w < 2 ^ 31) (hn : n ≤ 40) : Ct l g 34 0 0 yX9_sheet cX9_sheet 5 (some .int) [.ref aN, .int (nI s), .int (nI w), .int (nI n)] [(aN, .inr (9, [.ref aNs, .ref aNk, .int nkp, .ref aNf, .ref aNr, .ref aNp, .ref aNb, .ref aNa, .ref aNt, .int (nI nts), .ref aNbo, .ref aNsz, .ref aNnu, .int (nI nta), .int (nI nop), .int nbd, .int ntp, .int (nI npr), .int nnw, .int nsn, .int nwn, .ref aNl, .ref aNal, .ref aNlo, .int (nI nac), .ref aNw, .ref aNtr, .ref aNis, .ref aNbg, .ref aNow])), (aNf, .inl (g.2.1 0, 8, .inl (nIf (fnF fi)))), (aNbo, .inl (g.2.1 0, 4, .inl nbo)), (aNsz, .inl (g.2.1 0, 4, .inl (nIf nsz))), (aNnu, .inl (g.2.1 2, 160, .inr (.inl nnu)))] (xpi (nI (if w = 0 then 0 else n)) [(aN, .inr (9, [.ref aNs, .ref aNk, .int nkp, .ref aNf, .ref aNr, .ref aNp, .ref aNb, .ref aNa, .ref aNt, .int (nI nts), .ref aNbo, .ref aNsz, .ref aNnu, .int (nI nta), .int (nI nop), .int nbd, .int ntp, .int (nI npr), .int nnw, .int nsn, .int nwn, .ref aNl, .ref aNal, .ref aNlo, .int (nI nac), .ref aNw, .ref aNtr, .ref aNis, .ref aNbg, .ref aNow])), (aNf, .inl (g.2.1 0, 8, .inl (nIf (fnF fi)))), (aNbo, .inl (g.2.1 0, 4, .inl (upd nbo s (if nI w = 0 then (-1) else nI w)))), (aNsz, .inl (g.2.1 0, 4, .inl (nIf (updN nsz s (if w = 0 then 0 else n))))), (aNnu, .inl (g.2.1 2, 160, .inr (.inl (fun j => if 40 * s ≤ j ∧ j < 40 * s + 40 then 0 else nnu j))))]) := by
  refine Ct.ofX (lv := [some (.ref aN), some (.int (nI s)), some (.int (nI w)), some (.int (nI n)), none]) (by decide) rfl (Nat.le_of_ble_eq_true rfl) (fun κ => ?_)
  generalize hQ : xQ κ g 0 0 _ = Q
  refine x_iload_n dX9_sheet_0 rfl ?_
  refine x_cSi dX9_sheet_1 ml_X9_258 mX9_isSheet (ct_nSheet_n κ.2.1 g s (hs4)) rfl (Nat.le_of_ble_eq_true rfl) (by decide) (Nat.le_refl _) (Nat.le_refl _) ?_
  refine x_if_eq dX9_sheet_4 (fun c4 => ?_) (fun c4 => ?_)
  · exact absurd c4 (by decide)
  refine x_iload_n dX9_sheet_7 rfl ?_
  refine x_if_eq dX9_sheet_8 (fun c8 => ?_) (fun c8 => ?_)
  · have c8 : (nI w) = 0 := c8
    refine x_iload_n dX9_sheet_36 rfl ?_
    refine x_if_ge dX9_sheet_37 (fun c37 => ?_) (fun c37 => ?_)
    · have c37 : 0 ≤ (nI n) := c37
      have c37n := (nI_leI (a := 0) (b := n) (by omega) (by omega)).mp c37
      refine x_iload_n dX9_sheet_48 rfl ?_
      refine x_bipush 40 dX9_sheet_49 (by decide) ?_
      refine x_icmp_le dX9_sheet_51 (fun c51 => ?_) (fun c51 => ?_)
      · have c51 : (nI n) ≤ 40 := c51
        have c51n := (nI_leI (a := n) (b := 40) (by omega) (by omega)).mp c51
        refine x_aload_n dX9_sheet_61 rfl ?_
        refine x_get dX9_sheet_62 0 10 inX9 fl_X9_34 rfl rfl (by decide) rfl ?_
        refine x_iload_n dX9_sheet_65 rfl ?_
        refine x_iload_n dX9_sheet_66 rfl ?_
        have J67_2 : ∀ (v1 : Int32), v1 = (if (nI w) = 0 then (-1) else nI w) → Xs κ g 34 0 0 cX9_sheet yX9_sheet (some .int) Q 0 0 75 [some (.ref aN), some (.int (nI s)), some (.int (nI w)), some (.int (nI n)), none] [.int v1, .int (nI s), .ref aNbo] [(aN, .inr (9, [.ref aNs, .ref aNk, .int nkp, .ref aNf, .ref aNr, .ref aNp, .ref aNb, .ref aNa, .ref aNt, .int (nI nts), .ref aNbo, .ref aNsz, .ref aNnu, .int (nI nta), .int (nI nop), .int nbd, .int ntp, .int (nI npr), .int nnw, .int nsn, .int nwn, .ref aNl, .ref aNal, .ref aNlo, .int (nI nac), .ref aNw, .ref aNtr, .ref aNis, .ref aNbg, .ref aNow])), (aNf, .inl (g.2.1 0, 8, .inl (nIf (fnF fi)))), (aNbo, .inl (g.2.1 0, 4, .inl nbo)), (aNsz, .inl (g.2.1 0, 4, .inl (nIf nsz))), (aNnu, .inl (g.2.1 2, 160, .inr (.inl nnu)))] := by
          intro v1 ev1
          refine x_iast (ws' := [(aN, .inr (9, [.ref aNs, .ref aNk, .int nkp, .ref aNf, .ref aNr, .ref aNp, .ref aNb, .ref aNa, .ref aNt, .int (nI nts), .ref aNbo, .ref aNsz, .ref aNnu, .int (nI nta), .int (nI nop), .int nbd, .int ntp, .int (nI npr), .int nnw, .int nsn, .int nwn, .ref aNl, .ref aNal, .ref aNlo, .int (nI nac), .ref aNw, .ref aNtr, .ref aNis, .ref aNbg, .ref aNow])), (aNf, .inl (g.2.1 0, 8, .inl (nIf (fnF fi)))), (aNbo, .inl (g.2.1 0, 4, .inl (upd nbo s v1))), (aNsz, .inl (g.2.1 0, 4, .inl (nIf nsz))), (aNnu, .inl (g.2.1 2, 160, .inr (.inl nnu)))]) dX9_sheet_75 2 s rfl (rfl) (by omega) (by decide) rfl ?_
          refine x_aload_n dX9_sheet_76 rfl ?_
          refine x_get dX9_sheet_77 0 11 inX9 fl_X9_37 rfl rfl (by decide) rfl ?_
          refine x_iload_n dX9_sheet_80 rfl ?_
          refine x_iload_n dX9_sheet_81 rfl ?_
          have J82_4 : ∀ (v3 : Nat), v3 = (if (nI w) = 0 then 0 else n) → Xs κ g 34 0 0 cX9_sheet yX9_sheet (some .int) Q 0 0 90 [some (.ref aN), some (.int (nI s)), some (.int (nI w)), some (.int (nI n)), none] [.int (nI v3), .int (nI s), .ref aNsz] [(aN, .inr (9, [.ref aNs, .ref aNk, .int nkp, .ref aNf, .ref aNr, .ref aNp, .ref aNb, .ref aNa, .ref aNt, .int (nI nts), .ref aNbo, .ref aNsz, .ref aNnu, .int (nI nta), .int (nI nop), .int nbd, .int ntp, .int (nI npr), .int nnw, .int nsn, .int nwn, .ref aNl, .ref aNal, .ref aNlo, .int (nI nac), .ref aNw, .ref aNtr, .ref aNis, .ref aNbg, .ref aNow])), (aNf, .inl (g.2.1 0, 8, .inl (nIf (fnF fi)))), (aNbo, .inl (g.2.1 0, 4, .inl (upd nbo s v1))), (aNsz, .inl (g.2.1 0, 4, .inl (nIf nsz))), (aNnu, .inl (g.2.1 2, 160, .inr (.inl nnu)))] := by
            intro v3 ev3
            refine x_rei (nI (if w = 0 then 0 else n)) (by simp only [ev3, nI_eq0 hw2] <;> (try (split <;> rfl))) ?_
            refine x_rei (nI (if w = 0 then 0 else n)) rfl ?_
            refine x_iast (ws' := [(aN, .inr (9, [.ref aNs, .ref aNk, .int nkp, .ref aNf, .ref aNr, .ref aNp, .ref aNb, .ref aNa, .ref aNt, .int (nI nts), .ref aNbo, .ref aNsz, .ref aNnu, .int (nI nta), .int (nI nop), .int nbd, .int ntp, .int (nI npr), .int nnw, .int nsn, .int nwn, .ref aNl, .ref aNal, .ref aNlo, .int (nI nac), .ref aNw, .ref aNtr, .ref aNis, .ref aNbg, .ref aNow])), (aNf, .inl (g.2.1 0, 8, .inl (nIf (fnF fi)))), (aNbo, .inl (g.2.1 0, 4, .inl (upd nbo s v1))), (aNsz, .inl (g.2.1 0, 4, .inl (nIf (updN nsz s (if w = 0 then 0 else n))))), (aNnu, .inl (g.2.1 2, 160, .inr (.inl nnu)))]) dX9_sheet_90 3 s rfl (rfl) (by omega) (by decide) (by rw [upd_nIf]; rfl) ?_
            refine x_iconst 0 dX9_sheet_91 (by decide) ?_
            refine x_istore (lv' := [some (.ref aN), some (.int (nI s)), some (.int (nI w)), some (.int (nI n)), some (.int 0)]) dX9_sheet_92 (xlt rfl) rfl ?_
            have L94_5 : ∀ (i : Nat), i ≤ 40 → ∀ (nf : Nat → Int64), nf = (fun j => if 40 * s ≤ j ∧ j < 40 * s + i then 0 else nnu j) → Xs κ g 34 0 0 cX9_sheet yX9_sheet (some .int) Q 0 0 94 [some (.ref aN), some (.int (nI s)), some (.int (nI w)), some (.int (nI n)), some (.int (nI i))] [] [(aN, .inr (9, [.ref aNs, .ref aNk, .int nkp, .ref aNf, .ref aNr, .ref aNp, .ref aNb, .ref aNa, .ref aNt, .int (nI nts), .ref aNbo, .ref aNsz, .ref aNnu, .int (nI nta), .int (nI nop), .int nbd, .int ntp, .int (nI npr), .int nnw, .int nsn, .int nwn, .ref aNl, .ref aNal, .ref aNlo, .int (nI nac), .ref aNw, .ref aNtr, .ref aNis, .ref aNbg, .ref aNow])), (aNf, .inl (g.2.1 0, 8, .inl (nIf (fnF fi)))), (aNbo, .inl (g.2.1 0, 4, .inl (upd nbo s v1))), (aNsz, .inl (g.2.1 0, 4, .inl (nIf (updN nsz s (if w = 0 then 0 else n))))), (aNnu, .inl (g.2.1 2, 160, .inr (.inl nf)))] := by
              refine upTo 40 (fun i hi94 ih94 => ?_)
              intro nf enf
              subst enf
              refine x_iload dX9_sheet_94 rfl ?_
              refine x_bipush 40 dX9_sheet_96 (by decide) ?_
              refine x_icmp_ge dX9_sheet_98 (fun c98 => ?_) (fun c98 => ?_)
              · have c98 : 40 ≤ (nI i) := c98
                have c98n := (nI_leI (a := 40) (b := i) (by omega) (by omega)).mp c98
                have hxc98 : i = 40 := by omega
                try rw [hxc98]
                refine x_aload_n dX9_sheet_120 rfl ?_
                refine x_get dX9_sheet_121 0 11 inX9 fl_X9_37 rfl rfl (by decide) rfl ?_
                refine x_iload_n dX9_sheet_124 rfl ?_
                refine x_iald dX9_sheet_125 3 s rfl (rfl) (by omega) (by decide) ?_
                refine x_rei (nI (if w = 0 then 0 else n)) (congrArg nI (updN_self _ _ _)) ?_
                rw [← hQ]
                refine x_iret dX9_sheet_126 rfl (Nat.le_of_ble_eq_true rfl) (Nat.le_of_ble_eq_true rfl) ?_
                simp only [ev1]; exact ⟨rfl, rfl⟩
              · have c98 : ¬ (40 ≤ (nI i)) := c98
                have c98n := mt (nI_leI (a := 40) (b := i) (by omega) (by omega)).mpr c98
                refine x_aload_n dX9_sheet_101 rfl ?_
                refine x_get dX9_sheet_102 0 12 inX9 fl_X9_40 rfl rfl (by decide) rfl ?_
                refine x_bipush 40 dX9_sheet_105 (by decide) ?_
                refine x_iload_n dX9_sheet_107 rfl ?_
                refine x_imul dX9_sheet_108 ?_
                refine x_rei (nI (40 * s)) (nI_imul 40 s) ?_
                refine x_iload dX9_sheet_109 rfl ?_
                refine x_iadd dX9_sheet_111 ?_
                refine x_rei (nI ((40 * s) + i)) (nI_iadd (40 * s) i) ?_
                refine x_lconst 0 dX9_sheet_112 (by decide) ?_
                refine x_last (ws' := [(aN, .inr (9, [.ref aNs, .ref aNk, .int nkp, .ref aNf, .ref aNr, .ref aNp, .ref aNb, .ref aNa, .ref aNt, .int (nI nts), .ref aNbo, .ref aNsz, .ref aNnu, .int (nI nta), .int (nI nop), .int nbd, .int ntp, .int (nI npr), .int nnw, .int nsn, .int nwn, .ref aNl, .ref aNal, .ref aNlo, .int (nI nac), .ref aNw, .ref aNtr, .ref aNis, .ref aNbg, .ref aNow])), (aNf, .inl (g.2.1 0, 8, .inl (nIf (fnF fi)))), (aNbo, .inl (g.2.1 0, 4, .inl (upd nbo s v1))), (aNsz, .inl (g.2.1 0, 4, .inl (nIf (updN nsz s (if w = 0 then 0 else n))))), (aNnu, .inl (g.2.1 2, 160, .inr (.inl (vp_updL (fun j => if 40 * s ≤ j ∧ j < 40 * s + i then 0 else nnu j) ((40 * s) + i) 0))))]) dX9_sheet_113 4 ((40 * s) + i) rfl (rfl) (by omega) (by decide) rfl ?_
                refine x_iinc (lv' := [some (.ref aN), some (.int (nI s)), some (.int (nI w)), some (.int (nI n)), some (.int (nI (i + 1)))]) (nI (i + 1)) dX9_sheet_114 rfl (nI_addc i 1 rfl) rfl ?_
                refine x_goto dX9_sheet_117 ?_
                exact ih94 (by omega) _ (by exact zeroL nnu s i)
            exact L94_5 0 (Nat.zero_le _) _ (by funext j; rw [if_neg (by omega)])
          refine x_if_ne dX9_sheet_82 (fun c82 => ?_) (fun c82 => ?_)
          · have c82 : ¬ ((nI w) = 0) := c82
            have c82n := mt (nI_eq (a := w) (b := 0) (by omega) (by omega)).mpr c82
            refine x_iload_n dX9_sheet_89 rfl ?_
            exact J82_4 n (if_neg c82).symm
          · have c82 : (nI w) = 0 := c82
            have c82n := (nI_eq (a := w) (b := 0) (by omega) (by omega)).mp c82
            refine x_iconst 0 dX9_sheet_85 (by decide) ?_
            refine x_goto dX9_sheet_86 ?_
            exact J82_4 0 (if_pos c82).symm
        refine x_if_ne dX9_sheet_67 (fun c67 => ?_) (fun c67 => ?_)
        · have c67 : ¬ ((nI w) = 0) := c67
          refine x_iload_n dX9_sheet_74 rfl ?_
          exact J67_2 _ (if_neg c67).symm
        · have c67 : (nI w) = 0 := c67
          refine x_iconst (-1) dX9_sheet_70 (by decide) ?_
          refine x_goto dX9_sheet_71 ?_
          exact J67_2 _ (if_pos c67).symm
      · have c51 : ¬ ((nI n) ≤ 40) := c51
        have c51n := mt (nI_leI (a := n) (b := 40) (by omega) (by omega)).mpr c51
        exact absurd c51n (by omega)
    · have c37 : ¬ (0 ≤ (nI n)) := c37
      have c37n := mt (nI_leI (a := 0) (b := n) (by omega) (by omega)).mpr c37
      exact absurd c37n (by omega)
  · have c8 : ¬ ((nI w) = 0) := c8
    refine x_iload_n dX9_sheet_11 rfl ?_
    refine x_bipush 8 dX9_sheet_12 (by decide) ?_
    refine x_icmp_eq dX9_sheet_14 (fun c14 => ?_) (fun c14 => ?_)
    · have c14 : (nI w) = 8 := c14
      refine x_iload_n dX9_sheet_36 rfl ?_
      refine x_if_ge dX9_sheet_37 (fun c37 => ?_) (fun c37 => ?_)
      · have c37 : 0 ≤ (nI n) := c37
        have c37n := (nI_leI (a := 0) (b := n) (by omega) (by omega)).mp c37
        refine x_iload_n dX9_sheet_48 rfl ?_
        refine x_bipush 40 dX9_sheet_49 (by decide) ?_
        refine x_icmp_le dX9_sheet_51 (fun c51 => ?_) (fun c51 => ?_)
        · have c51 : (nI n) ≤ 40 := c51
          have c51n := (nI_leI (a := n) (b := 40) (by omega) (by omega)).mp c51
          refine x_aload_n dX9_sheet_61 rfl ?_
          refine x_get dX9_sheet_62 0 10 inX9 fl_X9_34 rfl rfl (by decide) rfl ?_
          refine x_iload_n dX9_sheet_65 rfl ?_
          refine x_iload_n dX9_sheet_66 rfl ?_
          have J67_7 : ∀ (v6 : Int32), v6 = (if (nI w) = 0 then (-1) else nI w) → Xs κ g 34 0 0 cX9_sheet yX9_sheet (some .int) Q 0 0 75 [some (.ref aN), some (.int (nI s)), some (.int (nI w)), some (.int (nI n)), none] [.int v6, .int (nI s), .ref aNbo] [(aN, .inr (9, [.ref aNs, .ref aNk, .int nkp, .ref aNf, .ref aNr, .ref aNp, .ref aNb, .ref aNa, .ref aNt, .int (nI nts), .ref aNbo, .ref aNsz, .ref aNnu, .int (nI nta), .int (nI nop), .int nbd, .int ntp, .int (nI npr), .int nnw, .int nsn, .int nwn, .ref aNl, .ref aNal, .ref aNlo, .int (nI nac), .ref aNw, .ref aNtr, .ref aNis, .ref aNbg, .ref aNow])), (aNf, .inl (g.2.1 0, 8, .inl (nIf (fnF fi)))), (aNbo, .inl (g.2.1 0, 4, .inl nbo)), (aNsz, .inl (g.2.1 0, 4, .inl (nIf nsz))), (aNnu, .inl (g.2.1 2, 160, .inr (.inl nnu)))] := by
            intro v6 ev6
            refine x_iast (ws' := [(aN, .inr (9, [.ref aNs, .ref aNk, .int nkp, .ref aNf, .ref aNr, .ref aNp, .ref aNb, .ref aNa, .ref aNt, .int (nI nts), .ref aNbo, .ref aNsz, .ref aNnu, .int (nI nta), .int (nI nop), .int nbd, .int ntp, .int (nI npr), .int nnw, .int nsn, .int nwn, .ref aNl, .ref aNal, .ref aNlo, .int (nI nac), .ref aNw, .ref aNtr, .ref aNis, .ref aNbg, .ref aNow])), (aNf, .inl (g.2.1 0, 8, .inl (nIf (fnF fi)))), (aNbo, .inl (g.2.1 0, 4, .inl (upd nbo s v6))), (aNsz, .inl (g.2.1 0, 4, .inl (nIf nsz))), (aNnu, .inl (g.2.1 2, 160, .inr (.inl nnu)))]) dX9_sheet_75 2 s rfl (rfl) (by omega) (by decide) rfl ?_
            refine x_aload_n dX9_sheet_76 rfl ?_
            refine x_get dX9_sheet_77 0 11 inX9 fl_X9_37 rfl rfl (by decide) rfl ?_
            refine x_iload_n dX9_sheet_80 rfl ?_
            refine x_iload_n dX9_sheet_81 rfl ?_
            have J82_9 : ∀ (v8 : Nat), v8 = (if (nI w) = 0 then 0 else n) → Xs κ g 34 0 0 cX9_sheet yX9_sheet (some .int) Q 0 0 90 [some (.ref aN), some (.int (nI s)), some (.int (nI w)), some (.int (nI n)), none] [.int (nI v8), .int (nI s), .ref aNsz] [(aN, .inr (9, [.ref aNs, .ref aNk, .int nkp, .ref aNf, .ref aNr, .ref aNp, .ref aNb, .ref aNa, .ref aNt, .int (nI nts), .ref aNbo, .ref aNsz, .ref aNnu, .int (nI nta), .int (nI nop), .int nbd, .int ntp, .int (nI npr), .int nnw, .int nsn, .int nwn, .ref aNl, .ref aNal, .ref aNlo, .int (nI nac), .ref aNw, .ref aNtr, .ref aNis, .ref aNbg, .ref aNow])), (aNf, .inl (g.2.1 0, 8, .inl (nIf (fnF fi)))), (aNbo, .inl (g.2.1 0, 4, .inl (upd nbo s v6))), (aNsz, .inl (g.2.1 0, 4, .inl (nIf nsz))), (aNnu, .inl (g.2.1 2, 160, .inr (.inl nnu)))] := by
              intro v8 ev8
              refine x_rei (nI (if w = 0 then 0 else n)) (by simp only [ev8, nI_eq0 hw2] <;> (try (split <;> rfl))) ?_
              refine x_rei (nI (if w = 0 then 0 else n)) rfl ?_
              refine x_iast (ws' := [(aN, .inr (9, [.ref aNs, .ref aNk, .int nkp, .ref aNf, .ref aNr, .ref aNp, .ref aNb, .ref aNa, .ref aNt, .int (nI nts), .ref aNbo, .ref aNsz, .ref aNnu, .int (nI nta), .int (nI nop), .int nbd, .int ntp, .int (nI npr), .int nnw, .int nsn, .int nwn, .ref aNl, .ref aNal, .ref aNlo, .int (nI nac), .ref aNw, .ref aNtr, .ref aNis, .ref aNbg, .ref aNow])), (aNf, .inl (g.2.1 0, 8, .inl (nIf (fnF fi)))), (aNbo, .inl (g.2.1 0, 4, .inl (upd nbo s v6))), (aNsz, .inl (g.2.1 0, 4, .inl (nIf (updN nsz s (if w = 0 then 0 else n))))), (aNnu, .inl (g.2.1 2, 160, .inr (.inl nnu)))]) dX9_sheet_90 3 s rfl (rfl) (by omega) (by decide) (by rw [upd_nIf]; rfl) ?_
              refine x_iconst 0 dX9_sheet_91 (by decide) ?_
              refine x_istore (lv' := [some (.ref aN), some (.int (nI s)), some (.int (nI w)), some (.int (nI n)), some (.int 0)]) dX9_sheet_92 (xlt rfl) rfl ?_
              have L94_10 : ∀ (i : Nat), i ≤ 40 → ∀ (nf : Nat → Int64), nf = (fun j => if 40 * s ≤ j ∧ j < 40 * s + i then 0 else nnu j) → Xs κ g 34 0 0 cX9_sheet yX9_sheet (some .int) Q 0 0 94 [some (.ref aN), some (.int (nI s)), some (.int (nI w)), some (.int (nI n)), some (.int (nI i))] [] [(aN, .inr (9, [.ref aNs, .ref aNk, .int nkp, .ref aNf, .ref aNr, .ref aNp, .ref aNb, .ref aNa, .ref aNt, .int (nI nts), .ref aNbo, .ref aNsz, .ref aNnu, .int (nI nta), .int (nI nop), .int nbd, .int ntp, .int (nI npr), .int nnw, .int nsn, .int nwn, .ref aNl, .ref aNal, .ref aNlo, .int (nI nac), .ref aNw, .ref aNtr, .ref aNis, .ref aNbg, .ref aNow])), (aNf, .inl (g.2.1 0, 8, .inl (nIf (fnF fi)))), (aNbo, .inl (g.2.1 0, 4, .inl (upd nbo s v6))), (aNsz, .inl (g.2.1 0, 4, .inl (nIf (updN nsz s (if w = 0 then 0 else n))))), (aNnu, .inl (g.2.1 2, 160, .inr (.inl nf)))] := by
                refine upTo 40 (fun i hi94 ih94 => ?_)
                intro nf enf
                subst enf
                refine x_iload dX9_sheet_94 rfl ?_
                refine x_bipush 40 dX9_sheet_96 (by decide) ?_
                refine x_icmp_ge dX9_sheet_98 (fun c98 => ?_) (fun c98 => ?_)
                · have c98 : 40 ≤ (nI i) := c98
                  have c98n := (nI_leI (a := 40) (b := i) (by omega) (by omega)).mp c98
                  have hxc98 : i = 40 := by omega
                  try rw [hxc98]
                  refine x_aload_n dX9_sheet_120 rfl ?_
                  refine x_get dX9_sheet_121 0 11 inX9 fl_X9_37 rfl rfl (by decide) rfl ?_
                  refine x_iload_n dX9_sheet_124 rfl ?_
                  refine x_iald dX9_sheet_125 3 s rfl (rfl) (by omega) (by decide) ?_
                  refine x_rei (nI (if w = 0 then 0 else n)) (congrArg nI (updN_self _ _ _)) ?_
                  rw [← hQ]
                  refine x_iret dX9_sheet_126 rfl (Nat.le_of_ble_eq_true rfl) (Nat.le_of_ble_eq_true rfl) ?_
                  simp only [ev6]; exact ⟨rfl, rfl⟩
                · have c98 : ¬ (40 ≤ (nI i)) := c98
                  have c98n := mt (nI_leI (a := 40) (b := i) (by omega) (by omega)).mpr c98
                  refine x_aload_n dX9_sheet_101 rfl ?_
                  refine x_get dX9_sheet_102 0 12 inX9 fl_X9_40 rfl rfl (by decide) rfl ?_
                  refine x_bipush 40 dX9_sheet_105 (by decide) ?_
                  refine x_iload_n dX9_sheet_107 rfl ?_
                  refine x_imul dX9_sheet_108 ?_
                  refine x_rei (nI (40 * s)) (nI_imul 40 s) ?_
                  refine x_iload dX9_sheet_109 rfl ?_
                  refine x_iadd dX9_sheet_111 ?_
                  refine x_rei (nI ((40 * s) + i)) (nI_iadd (40 * s) i) ?_
                  refine x_lconst 0 dX9_sheet_112 (by decide) ?_
                  refine x_last (ws' := [(aN, .inr (9, [.ref aNs, .ref aNk, .int nkp, .ref aNf, .ref aNr, .ref aNp, .ref aNb, .ref aNa, .ref aNt, .int (nI nts), .ref aNbo, .ref aNsz, .ref aNnu, .int (nI nta), .int (nI nop), .int nbd, .int ntp, .int (nI npr), .int nnw, .int nsn, .int nwn, .ref aNl, .ref aNal, .ref aNlo, .int (nI nac), .ref aNw, .ref aNtr, .ref aNis, .ref aNbg, .ref aNow])), (aNf, .inl (g.2.1 0, 8, .inl (nIf (fnF fi)))), (aNbo, .inl (g.2.1 0, 4, .inl (upd nbo s v6))), (aNsz, .inl (g.2.1 0, 4, .inl (nIf (updN nsz s (if w = 0 then 0 else n))))), (aNnu, .inl (g.2.1 2, 160, .inr (.inl (vp_updL (fun j => if 40 * s ≤ j ∧ j < 40 * s + i then 0 else nnu j) ((40 * s) + i) 0))))]) dX9_sheet_113 4 ((40 * s) + i) rfl (rfl) (by omega) (by decide) rfl ?_
                  refine x_iinc (lv' := [some (.ref aN), some (.int (nI s)), some (.int (nI w)), some (.int (nI n)), some (.int (nI (i + 1)))]) (nI (i + 1)) dX9_sheet_114 rfl (nI_addc i 1 rfl) rfl ?_
                  refine x_goto dX9_sheet_117 ?_
                  exact ih94 (by omega) _ (by exact zeroL nnu s i)
              exact L94_10 0 (Nat.zero_le _) _ (by funext j; rw [if_neg (by omega)])
            refine x_if_ne dX9_sheet_82 (fun c82 => ?_) (fun c82 => ?_)
            · have c82 : ¬ ((nI w) = 0) := c82
              have c82n := mt (nI_eq (a := w) (b := 0) (by omega) (by omega)).mpr c82
              refine x_iload_n dX9_sheet_89 rfl ?_
              exact J82_9 n (if_neg c82).symm
            · have c82 : (nI w) = 0 := c82
              have c82n := (nI_eq (a := w) (b := 0) (by omega) (by omega)).mp c82
              refine x_iconst 0 dX9_sheet_85 (by decide) ?_
              refine x_goto dX9_sheet_86 ?_
              exact J82_9 0 (if_pos c82).symm
          refine x_if_ne dX9_sheet_67 (fun c67 => ?_) (fun c67 => ?_)
          · have c67 : ¬ ((nI w) = 0) := c67
            refine x_iload_n dX9_sheet_74 rfl ?_
            exact J67_7 _ (if_neg c67).symm
          · have c67 : (nI w) = 0 := c67
            refine x_iconst (-1) dX9_sheet_70 (by decide) ?_
            refine x_goto dX9_sheet_71 ?_
            exact J67_7 _ (if_pos c67).symm
        · have c51 : ¬ ((nI n) ≤ 40) := c51
          have c51n := mt (nI_leI (a := n) (b := 40) (by omega) (by omega)).mpr c51
          exact absurd c51n (by omega)
      · have c37 : ¬ (0 ≤ (nI n)) := c37
        have c37n := mt (nI_leI (a := 0) (b := n) (by omega) (by omega)).mpr c37
        exact absurd c37n (by omega)
    · have c14 : ¬ ((nI w) = 8) := c14
      refine x_iload_n dX9_sheet_17 rfl ?_
      refine x_bipush 16 dX9_sheet_18 (by decide) ?_
      refine x_icmp_eq dX9_sheet_20 (fun c20 => ?_) (fun c20 => ?_)
      · have c20 : (nI w) = 16 := c20
        refine x_iload_n dX9_sheet_36 rfl ?_
        refine x_if_ge dX9_sheet_37 (fun c37 => ?_) (fun c37 => ?_)
        · have c37 : 0 ≤ (nI n) := c37
          have c37n := (nI_leI (a := 0) (b := n) (by omega) (by omega)).mp c37
          refine x_iload_n dX9_sheet_48 rfl ?_
          refine x_bipush 40 dX9_sheet_49 (by decide) ?_
          refine x_icmp_le dX9_sheet_51 (fun c51 => ?_) (fun c51 => ?_)
          · have c51 : (nI n) ≤ 40 := c51
            have c51n := (nI_leI (a := n) (b := 40) (by omega) (by omega)).mp c51
            refine x_aload_n dX9_sheet_61 rfl ?_
            refine x_get dX9_sheet_62 0 10 inX9 fl_X9_34 rfl rfl (by decide) rfl ?_
            refine x_iload_n dX9_sheet_65 rfl ?_
            refine x_iload_n dX9_sheet_66 rfl ?_
            have J67_12 : ∀ (v11 : Int32), v11 = (if (nI w) = 0 then (-1) else nI w) → Xs κ g 34 0 0 cX9_sheet yX9_sheet (some .int) Q 0 0 75 [some (.ref aN), some (.int (nI s)), some (.int (nI w)), some (.int (nI n)), none] [.int v11, .int (nI s), .ref aNbo] [(aN, .inr (9, [.ref aNs, .ref aNk, .int nkp, .ref aNf, .ref aNr, .ref aNp, .ref aNb, .ref aNa, .ref aNt, .int (nI nts), .ref aNbo, .ref aNsz, .ref aNnu, .int (nI nta), .int (nI nop), .int nbd, .int ntp, .int (nI npr), .int nnw, .int nsn, .int nwn, .ref aNl, .ref aNal, .ref aNlo, .int (nI nac), .ref aNw, .ref aNtr, .ref aNis, .ref aNbg, .ref aNow])), (aNf, .inl (g.2.1 0, 8, .inl (nIf (fnF fi)))), (aNbo, .inl (g.2.1 0, 4, .inl nbo)), (aNsz, .inl (g.2.1 0, 4, .inl (nIf nsz))), (aNnu, .inl (g.2.1 2, 160, .inr (.inl nnu)))] := by
              intro v11 ev11
              refine x_iast (ws' := [(aN, .inr (9, [.ref aNs, .ref aNk, .int nkp, .ref aNf, .ref aNr, .ref aNp, .ref aNb, .ref aNa, .ref aNt, .int (nI nts), .ref aNbo, .ref aNsz, .ref aNnu, .int (nI nta), .int (nI nop), .int nbd, .int ntp, .int (nI npr), .int nnw, .int nsn, .int nwn, .ref aNl, .ref aNal, .ref aNlo, .int (nI nac), .ref aNw, .ref aNtr, .ref aNis, .ref aNbg, .ref aNow])), (aNf, .inl (g.2.1 0, 8, .inl (nIf (fnF fi)))), (aNbo, .inl (g.2.1 0, 4, .inl (upd nbo s v11))), (aNsz, .inl (g.2.1 0, 4, .inl (nIf nsz))), (aNnu, .inl (g.2.1 2, 160, .inr (.inl nnu)))]) dX9_sheet_75 2 s rfl (rfl) (by omega) (by decide) rfl ?_
              refine x_aload_n dX9_sheet_76 rfl ?_
              refine x_get dX9_sheet_77 0 11 inX9 fl_X9_37 rfl rfl (by decide) rfl ?_
              refine x_iload_n dX9_sheet_80 rfl ?_
              refine x_iload_n dX9_sheet_81 rfl ?_
              have J82_14 : ∀ (v13 : Nat), v13 = (if (nI w) = 0 then 0 else n) → Xs κ g 34 0 0 cX9_sheet yX9_sheet (some .int) Q 0 0 90 [some (.ref aN), some (.int (nI s)), some (.int (nI w)), some (.int (nI n)), none] [.int (nI v13), .int (nI s), .ref aNsz] [(aN, .inr (9, [.ref aNs, .ref aNk, .int nkp, .ref aNf, .ref aNr, .ref aNp, .ref aNb, .ref aNa, .ref aNt, .int (nI nts), .ref aNbo, .ref aNsz, .ref aNnu, .int (nI nta), .int (nI nop), .int nbd, .int ntp, .int (nI npr), .int nnw, .int nsn, .int nwn, .ref aNl, .ref aNal, .ref aNlo, .int (nI nac), .ref aNw, .ref aNtr, .ref aNis, .ref aNbg, .ref aNow])), (aNf, .inl (g.2.1 0, 8, .inl (nIf (fnF fi)))), (aNbo, .inl (g.2.1 0, 4, .inl (upd nbo s v11))), (aNsz, .inl (g.2.1 0, 4, .inl (nIf nsz))), (aNnu, .inl (g.2.1 2, 160, .inr (.inl nnu)))] := by
                intro v13 ev13
                refine x_rei (nI (if w = 0 then 0 else n)) (by simp only [ev13, nI_eq0 hw2] <;> (try (split <;> rfl))) ?_
                refine x_rei (nI (if w = 0 then 0 else n)) rfl ?_
                refine x_iast (ws' := [(aN, .inr (9, [.ref aNs, .ref aNk, .int nkp, .ref aNf, .ref aNr, .ref aNp, .ref aNb, .ref aNa, .ref aNt, .int (nI nts), .ref aNbo, .ref aNsz, .ref aNnu, .int (nI nta), .int (nI nop), .int nbd, .int ntp, .int (nI npr), .int nnw, .int nsn, .int nwn, .ref aNl, .ref aNal, .ref aNlo, .int (nI nac), .ref aNw, .ref aNtr, .ref aNis, .ref aNbg, .ref aNow])), (aNf, .inl (g.2.1 0, 8, .inl (nIf (fnF fi)))), (aNbo, .inl (g.2.1 0, 4, .inl (upd nbo s v11))), (aNsz, .inl (g.2.1 0, 4, .inl (nIf (updN nsz s (if w = 0 then 0 else n))))), (aNnu, .inl (g.2.1 2, 160, .inr (.inl nnu)))]) dX9_sheet_90 3 s rfl (rfl) (by omega) (by decide) (by rw [upd_nIf]; rfl) ?_
                refine x_iconst 0 dX9_sheet_91 (by decide) ?_
                refine x_istore (lv' := [some (.ref aN), some (.int (nI s)), some (.int (nI w)), some (.int (nI n)), some (.int 0)]) dX9_sheet_92 (xlt rfl) rfl ?_
                have L94_15 : ∀ (i : Nat), i ≤ 40 → ∀ (nf : Nat → Int64), nf = (fun j => if 40 * s ≤ j ∧ j < 40 * s + i then 0 else nnu j) → Xs κ g 34 0 0 cX9_sheet yX9_sheet (some .int) Q 0 0 94 [some (.ref aN), some (.int (nI s)), some (.int (nI w)), some (.int (nI n)), some (.int (nI i))] [] [(aN, .inr (9, [.ref aNs, .ref aNk, .int nkp, .ref aNf, .ref aNr, .ref aNp, .ref aNb, .ref aNa, .ref aNt, .int (nI nts), .ref aNbo, .ref aNsz, .ref aNnu, .int (nI nta), .int (nI nop), .int nbd, .int ntp, .int (nI npr), .int nnw, .int nsn, .int nwn, .ref aNl, .ref aNal, .ref aNlo, .int (nI nac), .ref aNw, .ref aNtr, .ref aNis, .ref aNbg, .ref aNow])), (aNf, .inl (g.2.1 0, 8, .inl (nIf (fnF fi)))), (aNbo, .inl (g.2.1 0, 4, .inl (upd nbo s v11))), (aNsz, .inl (g.2.1 0, 4, .inl (nIf (updN nsz s (if w = 0 then 0 else n))))), (aNnu, .inl (g.2.1 2, 160, .inr (.inl nf)))] := by
                  refine upTo 40 (fun i hi94 ih94 => ?_)
                  intro nf enf
                  subst enf
                  refine x_iload dX9_sheet_94 rfl ?_
                  refine x_bipush 40 dX9_sheet_96 (by decide) ?_
                  refine x_icmp_ge dX9_sheet_98 (fun c98 => ?_) (fun c98 => ?_)
                  · have c98 : 40 ≤ (nI i) := c98
                    have c98n := (nI_leI (a := 40) (b := i) (by omega) (by omega)).mp c98
                    have hxc98 : i = 40 := by omega
                    try rw [hxc98]
                    refine x_aload_n dX9_sheet_120 rfl ?_
                    refine x_get dX9_sheet_121 0 11 inX9 fl_X9_37 rfl rfl (by decide) rfl ?_
                    refine x_iload_n dX9_sheet_124 rfl ?_
                    refine x_iald dX9_sheet_125 3 s rfl (rfl) (by omega) (by decide) ?_
                    refine x_rei (nI (if w = 0 then 0 else n)) (congrArg nI (updN_self _ _ _)) ?_
                    rw [← hQ]
                    refine x_iret dX9_sheet_126 rfl (Nat.le_of_ble_eq_true rfl) (Nat.le_of_ble_eq_true rfl) ?_
                    simp only [ev11]; exact ⟨rfl, rfl⟩
                  · have c98 : ¬ (40 ≤ (nI i)) := c98
                    have c98n := mt (nI_leI (a := 40) (b := i) (by omega) (by omega)).mpr c98
                    refine x_aload_n dX9_sheet_101 rfl ?_
                    refine x_get dX9_sheet_102 0 12 inX9 fl_X9_40 rfl rfl (by decide) rfl ?_
                    refine x_bipush 40 dX9_sheet_105 (by decide) ?_
                    refine x_iload_n dX9_sheet_107 rfl ?_
                    refine x_imul dX9_sheet_108 ?_
                    refine x_rei (nI (40 * s)) (nI_imul 40 s) ?_
                    refine x_iload dX9_sheet_109 rfl ?_
                    refine x_iadd dX9_sheet_111 ?_
                    refine x_rei (nI ((40 * s) + i)) (nI_iadd (40 * s) i) ?_
                    refine x_lconst 0 dX9_sheet_112 (by decide) ?_
                    refine x_last (ws' := [(aN, .inr (9, [.ref aNs, .ref aNk, .int nkp, .ref aNf, .ref aNr, .ref aNp, .ref aNb, .ref aNa, .ref aNt, .int (nI nts), .ref aNbo, .ref aNsz, .ref aNnu, .int (nI nta), .int (nI nop), .int nbd, .int ntp, .int (nI npr), .int nnw, .int nsn, .int nwn, .ref aNl, .ref aNal, .ref aNlo, .int (nI nac), .ref aNw, .ref aNtr, .ref aNis, .ref aNbg, .ref aNow])), (aNf, .inl (g.2.1 0, 8, .inl (nIf (fnF fi)))), (aNbo, .inl (g.2.1 0, 4, .inl (upd nbo s v11))), (aNsz, .inl (g.2.1 0, 4, .inl (nIf (updN nsz s (if w = 0 then 0 else n))))), (aNnu, .inl (g.2.1 2, 160, .inr (.inl (vp_updL (fun j => if 40 * s ≤ j ∧ j < 40 * s + i then 0 else nnu j) ((40 * s) + i) 0))))]) dX9_sheet_113 4 ((40 * s) + i) rfl (rfl) (by omega) (by decide) rfl ?_
                    refine x_iinc (lv' := [some (.ref aN), some (.int (nI s)), some (.int (nI w)), some (.int (nI n)), some (.int (nI (i + 1)))]) (nI (i + 1)) dX9_sheet_114 rfl (nI_addc i 1 rfl) rfl ?_
                    refine x_goto dX9_sheet_117 ?_
                    exact ih94 (by omega) _ (by exact zeroL nnu s i)
                exact L94_15 0 (Nat.zero_le _) _ (by funext j; rw [if_neg (by omega)])
              refine x_if_ne dX9_sheet_82 (fun c82 => ?_) (fun c82 => ?_)
              · have c82 : ¬ ((nI w) = 0) := c82
                have c82n := mt (nI_eq (a := w) (b := 0) (by omega) (by omega)).mpr c82
                refine x_iload_n dX9_sheet_89 rfl ?_
                exact J82_14 n (if_neg c82).symm
              · have c82 : (nI w) = 0 := c82
                have c82n := (nI_eq (a := w) (b := 0) (by omega) (by omega)).mp c82
                refine x_iconst 0 dX9_sheet_85 (by decide) ?_
                refine x_goto dX9_sheet_86 ?_
                exact J82_14 0 (if_pos c82).symm
            refine x_if_ne dX9_sheet_67 (fun c67 => ?_) (fun c67 => ?_)
            · have c67 : ¬ ((nI w) = 0) := c67
              refine x_iload_n dX9_sheet_74 rfl ?_
              exact J67_12 _ (if_neg c67).symm
            · have c67 : (nI w) = 0 := c67
              refine x_iconst (-1) dX9_sheet_70 (by decide) ?_
              refine x_goto dX9_sheet_71 ?_
              exact J67_12 _ (if_pos c67).symm
          · have c51 : ¬ ((nI n) ≤ 40) := c51
            have c51n := mt (nI_leI (a := n) (b := 40) (by omega) (by omega)).mpr c51
            exact absurd c51n (by omega)
        · have c37 : ¬ (0 ≤ (nI n)) := c37
          have c37n := mt (nI_leI (a := 0) (b := n) (by omega) (by omega)).mpr c37
          exact absurd c37n (by omega)
      · have c20 : ¬ ((nI w) = 16) := c20
        refine x_iload_n dX9_sheet_23 rfl ?_
        refine x_bipush 64 dX9_sheet_24 (by decide) ?_
        refine x_icmp_eq dX9_sheet_26 (fun c26 => ?_) (fun c26 => ?_)
        · have c26 : (nI w) = 64 := c26
          refine x_iload_n dX9_sheet_36 rfl ?_
          refine x_if_ge dX9_sheet_37 (fun c37 => ?_) (fun c37 => ?_)
          · have c37 : 0 ≤ (nI n) := c37
            have c37n := (nI_leI (a := 0) (b := n) (by omega) (by omega)).mp c37
            refine x_iload_n dX9_sheet_48 rfl ?_
            refine x_bipush 40 dX9_sheet_49 (by decide) ?_
            refine x_icmp_le dX9_sheet_51 (fun c51 => ?_) (fun c51 => ?_)
            · have c51 : (nI n) ≤ 40 := c51
              have c51n := (nI_leI (a := n) (b := 40) (by omega) (by omega)).mp c51
              refine x_aload_n dX9_sheet_61 rfl ?_
              refine x_get dX9_sheet_62 0 10 inX9 fl_X9_34 rfl rfl (by decide) rfl ?_
              refine x_iload_n dX9_sheet_65 rfl ?_
              refine x_iload_n dX9_sheet_66 rfl ?_
              have J67_17 : ∀ (v16 : Int32), v16 = (if (nI w) = 0 then (-1) else nI w) → Xs κ g 34 0 0 cX9_sheet yX9_sheet (some .int) Q 0 0 75 [some (.ref aN), some (.int (nI s)), some (.int (nI w)), some (.int (nI n)), none] [.int v16, .int (nI s), .ref aNbo] [(aN, .inr (9, [.ref aNs, .ref aNk, .int nkp, .ref aNf, .ref aNr, .ref aNp, .ref aNb, .ref aNa, .ref aNt, .int (nI nts), .ref aNbo, .ref aNsz, .ref aNnu, .int (nI nta), .int (nI nop), .int nbd, .int ntp, .int (nI npr), .int nnw, .int nsn, .int nwn, .ref aNl, .ref aNal, .ref aNlo, .int (nI nac), .ref aNw, .ref aNtr, .ref aNis, .ref aNbg, .ref aNow])), (aNf, .inl (g.2.1 0, 8, .inl (nIf (fnF fi)))), (aNbo, .inl (g.2.1 0, 4, .inl nbo)), (aNsz, .inl (g.2.1 0, 4, .inl (nIf nsz))), (aNnu, .inl (g.2.1 2, 160, .inr (.inl nnu)))] := by
                intro v16 ev16
                refine x_iast (ws' := [(aN, .inr (9, [.ref aNs, .ref aNk, .int nkp, .ref aNf, .ref aNr, .ref aNp, .ref aNb, .ref aNa, .ref aNt, .int (nI nts), .ref aNbo, .ref aNsz, .ref aNnu, .int (nI nta), .int (nI nop), .int nbd, .int ntp, .int (nI npr), .int nnw, .int nsn, .int nwn, .ref aNl, .ref aNal, .ref aNlo, .int (nI nac), .ref aNw, .ref aNtr, .ref aNis, .ref aNbg, .ref aNow])), (aNf, .inl (g.2.1 0, 8, .inl (nIf (fnF fi)))), (aNbo, .inl (g.2.1 0, 4, .inl (upd nbo s v16))), (aNsz, .inl (g.2.1 0, 4, .inl (nIf nsz))), (aNnu, .inl (g.2.1 2, 160, .inr (.inl nnu)))]) dX9_sheet_75 2 s rfl (rfl) (by omega) (by decide) rfl ?_
                refine x_aload_n dX9_sheet_76 rfl ?_
                refine x_get dX9_sheet_77 0 11 inX9 fl_X9_37 rfl rfl (by decide) rfl ?_
                refine x_iload_n dX9_sheet_80 rfl ?_
                refine x_iload_n dX9_sheet_81 rfl ?_
                have J82_19 : ∀ (v18 : Nat), v18 = (if (nI w) = 0 then 0 else n) → Xs κ g 34 0 0 cX9_sheet yX9_sheet (some .int) Q 0 0 90 [some (.ref aN), some (.int (nI s)), some (.int (nI w)), some (.int (nI n)), none] [.int (nI v18), .int (nI s), .ref aNsz] [(aN, .inr (9, [.ref aNs, .ref aNk, .int nkp, .ref aNf, .ref aNr, .ref aNp, .ref aNb, .ref aNa, .ref aNt, .int (nI nts), .ref aNbo, .ref aNsz, .ref aNnu, .int (nI nta), .int (nI nop), .int nbd, .int ntp, .int (nI npr), .int nnw, .int nsn, .int nwn, .ref aNl, .ref aNal, .ref aNlo, .int (nI nac), .ref aNw, .ref aNtr, .ref aNis, .ref aNbg, .ref aNow])), (aNf, .inl (g.2.1 0, 8, .inl (nIf (fnF fi)))), (aNbo, .inl (g.2.1 0, 4, .inl (upd nbo s v16))), (aNsz, .inl (g.2.1 0, 4, .inl (nIf nsz))), (aNnu, .inl (g.2.1 2, 160, .inr (.inl nnu)))] := by
                  intro v18 ev18
                  refine x_rei (nI (if w = 0 then 0 else n)) (by simp only [ev18, nI_eq0 hw2] <;> (try (split <;> rfl))) ?_
                  refine x_rei (nI (if w = 0 then 0 else n)) rfl ?_
                  refine x_iast (ws' := [(aN, .inr (9, [.ref aNs, .ref aNk, .int nkp, .ref aNf, .ref aNr, .ref aNp, .ref aNb, .ref aNa, .ref aNt, .int (nI nts), .ref aNbo, .ref aNsz, .ref aNnu, .int (nI nta), .int (nI nop), .int nbd, .int ntp, .int (nI npr), .int nnw, .int nsn, .int nwn, .ref aNl, .ref aNal, .ref aNlo, .int (nI nac), .ref aNw, .ref aNtr, .ref aNis, .ref aNbg, .ref aNow])), (aNf, .inl (g.2.1 0, 8, .inl (nIf (fnF fi)))), (aNbo, .inl (g.2.1 0, 4, .inl (upd nbo s v16))), (aNsz, .inl (g.2.1 0, 4, .inl (nIf (updN nsz s (if w = 0 then 0 else n))))), (aNnu, .inl (g.2.1 2, 160, .inr (.inl nnu)))]) dX9_sheet_90 3 s rfl (rfl) (by omega) (by decide) (by rw [upd_nIf]; rfl) ?_
                  refine x_iconst 0 dX9_sheet_91 (by decide) ?_
                  refine x_istore (lv' := [some (.ref aN), some (.int (nI s)), some (.int (nI w)), some (.int (nI n)), some (.int 0)]) dX9_sheet_92 (xlt rfl) rfl ?_
                  have L94_20 : ∀ (i : Nat), i ≤ 40 → ∀ (nf : Nat → Int64), nf = (fun j => if 40 * s ≤ j ∧ j < 40 * s + i then 0 else nnu j) → Xs κ g 34 0 0 cX9_sheet yX9_sheet (some .int) Q 0 0 94 [some (.ref aN), some (.int (nI s)), some (.int (nI w)), some (.int (nI n)), some (.int (nI i))] [] [(aN, .inr (9, [.ref aNs, .ref aNk, .int nkp, .ref aNf, .ref aNr, .ref aNp, .ref aNb, .ref aNa, .ref aNt, .int (nI nts), .ref aNbo, .ref aNsz, .ref aNnu, .int (nI nta), .int (nI nop), .int nbd, .int ntp, .int (nI npr), .int nnw, .int nsn, .int nwn, .ref aNl, .ref aNal, .ref aNlo, .int (nI nac), .ref aNw, .ref aNtr, .ref aNis, .ref aNbg, .ref aNow])), (aNf, .inl (g.2.1 0, 8, .inl (nIf (fnF fi)))), (aNbo, .inl (g.2.1 0, 4, .inl (upd nbo s v16))), (aNsz, .inl (g.2.1 0, 4, .inl (nIf (updN nsz s (if w = 0 then 0 else n))))), (aNnu, .inl (g.2.1 2, 160, .inr (.inl nf)))] := by
                    refine upTo 40 (fun i hi94 ih94 => ?_)
                    intro nf enf
                    subst enf
                    refine x_iload dX9_sheet_94 rfl ?_
                    refine x_bipush 40 dX9_sheet_96 (by decide) ?_
                    refine x_icmp_ge dX9_sheet_98 (fun c98 => ?_) (fun c98 => ?_)
                    · have c98 : 40 ≤ (nI i) := c98
                      have c98n := (nI_leI (a := 40) (b := i) (by omega) (by omega)).mp c98
                      have hxc98 : i = 40 := by omega
                      try rw [hxc98]
                      refine x_aload_n dX9_sheet_120 rfl ?_
                      refine x_get dX9_sheet_121 0 11 inX9 fl_X9_37 rfl rfl (by decide) rfl ?_
                      refine x_iload_n dX9_sheet_124 rfl ?_
                      refine x_iald dX9_sheet_125 3 s rfl (rfl) (by omega) (by decide) ?_
                      refine x_rei (nI (if w = 0 then 0 else n)) (congrArg nI (updN_self _ _ _)) ?_
                      rw [← hQ]
                      refine x_iret dX9_sheet_126 rfl (Nat.le_of_ble_eq_true rfl) (Nat.le_of_ble_eq_true rfl) ?_
                      simp only [ev16]; exact ⟨rfl, rfl⟩
                    · have c98 : ¬ (40 ≤ (nI i)) := c98
                      have c98n := mt (nI_leI (a := 40) (b := i) (by omega) (by omega)).mpr c98
                      refine x_aload_n dX9_sheet_101 rfl ?_
                      refine x_get dX9_sheet_102 0 12 inX9 fl_X9_40 rfl rfl (by decide) rfl ?_
                      refine x_bipush 40 dX9_sheet_105 (by decide) ?_
                      refine x_iload_n dX9_sheet_107 rfl ?_
                      refine x_imul dX9_sheet_108 ?_
                      refine x_rei (nI (40 * s)) (nI_imul 40 s) ?_
                      refine x_iload dX9_sheet_109 rfl ?_
                      refine x_iadd dX9_sheet_111 ?_
                      refine x_rei (nI ((40 * s) + i)) (nI_iadd (40 * s) i) ?_
                      refine x_lconst 0 dX9_sheet_112 (by decide) ?_
                      refine x_last (ws' := [(aN, .inr (9, [.ref aNs, .ref aNk, .int nkp, .ref aNf, .ref aNr, .ref aNp, .ref aNb, .ref aNa, .ref aNt, .int (nI nts), .ref aNbo, .ref aNsz, .ref aNnu, .int (nI nta), .int (nI nop), .int nbd, .int ntp, .int (nI npr), .int nnw, .int nsn, .int nwn, .ref aNl, .ref aNal, .ref aNlo, .int (nI nac), .ref aNw, .ref aNtr, .ref aNis, .ref aNbg, .ref aNow])), (aNf, .inl (g.2.1 0, 8, .inl (nIf (fnF fi)))), (aNbo, .inl (g.2.1 0, 4, .inl (upd nbo s v16))), (aNsz, .inl (g.2.1 0, 4, .inl (nIf (updN nsz s (if w = 0 then 0 else n))))), (aNnu, .inl (g.2.1 2, 160, .inr (.inl (vp_updL (fun j => if 40 * s ≤ j ∧ j < 40 * s + i then 0 else nnu j) ((40 * s) + i) 0))))]) dX9_sheet_113 4 ((40 * s) + i) rfl (rfl) (by omega) (by decide) rfl ?_
                      refine x_iinc (lv' := [some (.ref aN), some (.int (nI s)), some (.int (nI w)), some (.int (nI n)), some (.int (nI (i + 1)))]) (nI (i + 1)) dX9_sheet_114 rfl (nI_addc i 1 rfl) rfl ?_
                      refine x_goto dX9_sheet_117 ?_
                      exact ih94 (by omega) _ (by exact zeroL nnu s i)
                  exact L94_20 0 (Nat.zero_le _) _ (by funext j; rw [if_neg (by omega)])
                refine x_if_ne dX9_sheet_82 (fun c82 => ?_) (fun c82 => ?_)
                · have c82 : ¬ ((nI w) = 0) := c82
                  have c82n := mt (nI_eq (a := w) (b := 0) (by omega) (by omega)).mpr c82
                  refine x_iload_n dX9_sheet_89 rfl ?_
                  exact J82_19 n (if_neg c82).symm
                · have c82 : (nI w) = 0 := c82
                  have c82n := (nI_eq (a := w) (b := 0) (by omega) (by omega)).mp c82
                  refine x_iconst 0 dX9_sheet_85 (by decide) ?_
                  refine x_goto dX9_sheet_86 ?_
                  exact J82_19 0 (if_pos c82).symm
              refine x_if_ne dX9_sheet_67 (fun c67 => ?_) (fun c67 => ?_)
              · have c67 : ¬ ((nI w) = 0) := c67
                refine x_iload_n dX9_sheet_74 rfl ?_
                exact J67_17 _ (if_neg c67).symm
              · have c67 : (nI w) = 0 := c67
                refine x_iconst (-1) dX9_sheet_70 (by decide) ?_
                refine x_goto dX9_sheet_71 ?_
                exact J67_17 _ (if_pos c67).symm
            · have c51 : ¬ ((nI n) ≤ 40) := c51
              have c51n := mt (nI_leI (a := n) (b := 40) (by omega) (by omega)).mpr c51
              exact absurd c51n (by omega)
          · have c37 : ¬ (0 ≤ (nI n)) := c37
            have c37n := mt (nI_leI (a := 0) (b := n) (by omega) (by omega)).mpr c37
            exact absurd c37n (by omega)
        · have c26 : ¬ ((nI w) = 64) := c26
          exact hw.elim (fun h => absurd h c8) (fun h => absurd (by rw [wdI, if_neg c14, if_neg c20, if_neg c26]) h)

-- == nwrite_b ==
theorem dX9_write_0 : xd cX9_write 0 (.iload_n 1) 1 1 := ⟨by decide +kernel, rfl⟩
theorem dX9_write_1 : xd cX9_write 1 (.invokestatic 258) 3 4 := ⟨by decide +kernel, rfl⟩
theorem dX9_write_4 : xj cX9_write 4 (.ifCond .ne) 7 15 := ⟨11, by decide +kernel, rfl, by decide⟩
theorem dX9_write_7 : xd cX9_write 7 (.aload_n 0) 1 8 := ⟨by decide +kernel, rfl⟩
theorem dX9_write_8 : xd cX9_write 8 (.ldc 87) 2 10 := ⟨by decide +kernel, rfl⟩
theorem dX9_write_10 : xd cX9_write 10 (.invokevirtual 88) 3 13 := ⟨by decide +kernel, rfl⟩
theorem dX9_write_13 : xd cX9_write 13 .i2l 1 14 := ⟨by decide +kernel, rfl⟩
theorem dX9_write_14 : xd cX9_write 14 .lreturn 1 15 := ⟨by decide +kernel, rfl⟩
theorem dX9_write_15 : xd cX9_write 15 (.aload_n 0) 1 16 := ⟨by decide +kernel, rfl⟩
theorem dX9_write_16 : xd cX9_write 16 (.getfield 34) 3 19 := ⟨by decide +kernel, rfl⟩
theorem dX9_write_19 : xd cX9_write 19 (.iload_n 1) 1 20 := ⟨by decide +kernel, rfl⟩
theorem dX9_write_20 : xd cX9_write 20 .iaload 1 21 := ⟨by decide +kernel, rfl⟩
theorem dX9_write_21 : xj cX9_write 21 (.ifCond .ge) 24 33 := ⟨12, by decide +kernel, rfl, by decide⟩
theorem dX9_write_24 : xd cX9_write 24 (.aload_n 0) 1 25 := ⟨by decide +kernel, rfl⟩
theorem dX9_write_25 : xd cX9_write 25 (.ldc_w 262) 3 28 := ⟨by decide +kernel, rfl⟩
theorem dX9_write_28 : xd cX9_write 28 (.invokevirtual 88) 3 31 := ⟨by decide +kernel, rfl⟩
theorem dX9_write_31 : xd cX9_write 31 .i2l 1 32 := ⟨by decide +kernel, rfl⟩
theorem dX9_write_32 : xd cX9_write 32 .lreturn 1 33 := ⟨by decide +kernel, rfl⟩
theorem dX9_write_33 : xd cX9_write 33 (.iload_n 2) 1 34 := ⟨by decide +kernel, rfl⟩
theorem dX9_write_34 : xd cX9_write 34 .i2l 1 35 := ⟨by decide +kernel, rfl⟩
theorem dX9_write_35 : xd cX9_write 35 (.lconst 0) 1 36 := ⟨by decide +kernel, rfl⟩
theorem dX9_write_36 : xd cX9_write 36 (.aload_n 0) 1 37 := ⟨by decide +kernel, rfl⟩
theorem dX9_write_37 : xd cX9_write 37 (.getfield 37) 3 40 := ⟨by decide +kernel, rfl⟩
theorem dX9_write_40 : xd cX9_write 40 (.iload_n 1) 1 41 := ⟨by decide +kernel, rfl⟩
theorem dX9_write_41 : xd cX9_write 41 .iaload 1 42 := ⟨by decide +kernel, rfl⟩
theorem dX9_write_42 : xd cX9_write 42 (.iconst 1) 1 43 := ⟨by decide +kernel, rfl⟩
theorem dX9_write_43 : xd cX9_write 43 .isub 1 44 := ⟨by decide +kernel, rfl⟩
theorem dX9_write_44 : xd cX9_write 44 .i2l 1 45 := ⟨by decide +kernel, rfl⟩
theorem dX9_write_45 : xd cX9_write 45 (.invokestatic 98) 3 48 := ⟨by decide +kernel, rfl⟩
theorem dX9_write_48 : xj cX9_write 48 (.ifCond .ne) 51 59 := ⟨11, by decide +kernel, rfl, by decide⟩
theorem dX9_write_51 : xd cX9_write 51 (.aload_n 0) 1 52 := ⟨by decide +kernel, rfl⟩
theorem dX9_write_52 : xd cX9_write 52 (.ldc 87) 2 54 := ⟨by decide +kernel, rfl⟩
theorem dX9_write_54 : xd cX9_write 54 (.invokevirtual 88) 3 57 := ⟨by decide +kernel, rfl⟩
theorem dX9_write_57 : xd cX9_write 57 .i2l 1 58 := ⟨by decide +kernel, rfl⟩
theorem dX9_write_58 : xd cX9_write 58 .lreturn 1 59 := ⟨by decide +kernel, rfl⟩
theorem dX9_write_59 : xd cX9_write 59 (.aload_n 0) 1 60 := ⟨by decide +kernel, rfl⟩
theorem dX9_write_60 : xd cX9_write 60 (.getfield 40) 3 63 := ⟨by decide +kernel, rfl⟩
theorem dX9_write_63 : xd cX9_write 63 (.bipush 40) 2 65 := ⟨by decide +kernel, rfl⟩
theorem dX9_write_65 : xd cX9_write 65 (.iload_n 1) 1 66 := ⟨by decide +kernel, rfl⟩
theorem dX9_write_66 : xd cX9_write 66 .imul 1 67 := ⟨by decide +kernel, rfl⟩
theorem dX9_write_67 : xd cX9_write 67 (.iload_n 2) 1 68 := ⟨by decide +kernel, rfl⟩
theorem dX9_write_68 : xd cX9_write 68 .iadd 1 69 := ⟨by decide +kernel, rfl⟩
theorem dX9_write_69 : xd cX9_write 69 .laload 1 70 := ⟨by decide +kernel, rfl⟩
theorem dX9_write_70 : xd cX9_write 70 (.lstore 5) 2 72 := ⟨by decide +kernel, rfl⟩
theorem dX9_write_72 : xd cX9_write 72 (.aload_n 0) 1 73 := ⟨by decide +kernel, rfl⟩
theorem dX9_write_73 : xd cX9_write 73 (.getfield 40) 3 76 := ⟨by decide +kernel, rfl⟩
theorem dX9_write_76 : xd cX9_write 76 (.bipush 40) 2 78 := ⟨by decide +kernel, rfl⟩
theorem dX9_write_78 : xd cX9_write 78 (.iload_n 1) 1 79 := ⟨by decide +kernel, rfl⟩
theorem dX9_write_79 : xd cX9_write 79 .imul 1 80 := ⟨by decide +kernel, rfl⟩
theorem dX9_write_80 : xd cX9_write 80 (.iload_n 2) 1 81 := ⟨by decide +kernel, rfl⟩
theorem dX9_write_81 : xd cX9_write 81 .iadd 1 82 := ⟨by decide +kernel, rfl⟩
theorem dX9_write_82 : xd cX9_write 82 (.aload_n 0) 1 83 := ⟨by decide +kernel, rfl⟩
theorem dX9_write_83 : xd cX9_write 83 (.getfield 34) 3 86 := ⟨by decide +kernel, rfl⟩
theorem dX9_write_86 : xd cX9_write 86 (.iload_n 1) 1 87 := ⟨by decide +kernel, rfl⟩
theorem dX9_write_87 : xd cX9_write 87 .iaload 1 88 := ⟨by decide +kernel, rfl⟩
theorem dX9_write_88 : xd cX9_write 88 (.lload_n 3) 1 89 := ⟨by decide +kernel, rfl⟩
theorem dX9_write_89 : xd cX9_write 89 (.invokestatic 263) 3 92 := ⟨by decide +kernel, rfl⟩
theorem dX9_write_92 : xd cX9_write 92 .lastore 1 93 := ⟨by decide +kernel, rfl⟩
theorem dX9_write_93 : xd cX9_write 93 (.lload 5) 2 95 := ⟨by decide +kernel, rfl⟩
theorem dX9_write_95 : xd cX9_write 95 .lreturn 1 96 := ⟨by decide +kernel, rfl⟩

set_option maxRecDepth 100000 in
set_option maxHeartbeats 4000000 in
theorem ct_nwrite_b (l : Launch) (g : XG) (aN aNs aNk aNf aNr aNp aNb aNa aNt aNbo aNsz aNnu aNl aNal aNlo aNw aNtr aNis aNbg aNow nts nta nop npr nac : Nat) (nkp nbd ntp nnw nsn nwn : Int32) (fi : Nat → Nat) (nbo : Nat → Int32) (nsz : Nat → Nat) (s i : Int32) (v : Int64) (hb : wI s 0 3 = 0) : Ct l g 34 0 0 yX9_write cX9_write 7 (some .long) [.ref aN, .int s, .int i, .long v] [(aN, .inr (9, [.ref aNs, .ref aNk, .int nkp, .ref aNf, .ref aNr, .ref aNp, .ref aNb, .ref aNa, .ref aNt, .int (nI nts), .ref aNbo, .ref aNsz, .ref aNnu, .int (nI nta), .int (nI nop), .int nbd, .int ntp, .int (nI npr), .int nnw, .int nsn, .int nwn, .ref aNl, .ref aNal, .ref aNlo, .int (nI nac), .ref aNw, .ref aNtr, .ref aNis, .ref aNbg, .ref aNow])), (aNf, .inl (g.2.1 0, 8, .inl (nIf (fnF fi)))), (aNbo, .inl (g.2.1 0, 4, .inl nbo)), (aNsz, .inl (g.2.1 0, 4, .inl (nIf nsz)))] (xpl ((fndI 0).toInt64) [(aN, .inr (9, [.ref aNs, .ref aNk, .int nkp, .ref aNf, .ref aNr, .ref aNp, .ref aNb, .ref aNa, .ref aNt, .int (nI nts), .ref aNbo, .ref aNsz, .ref aNnu, .int (nI nta), .int (nI nop), .int nbd, .int ntp, .int (nI npr), .int nnw, .int nsn, .int nwn, .ref aNl, .ref aNal, .ref aNlo, .int (nI nac), .ref aNw, .ref aNtr, .ref aNis, .ref aNbg, .ref aNow])), (aNf, .inl (g.2.1 0, 8, .inl (nIf (fnF (updN fi 0 (fi 0 + 1)))))), (aNbo, .inl (g.2.1 0, 4, .inl nbo)), (aNsz, .inl (g.2.1 0, 4, .inl (nIf nsz)))]) := by
  refine Ct.ofX (lv := [some (.ref aN), some (.int s), some (.int i), some (.long v), none, none, none]) (by decide) rfl (Nat.le_of_ble_eq_true rfl) (fun κ => ?_)
  generalize hQ : xQ κ g 0 0 _ = Q
  refine x_iload_n dX9_write_0 rfl ?_
  refine x_cSi dX9_write_1 ml_X9_258 mX9_isSheet (ct_X9_isSheet κ.2.1 g s) rfl (Nat.le_of_ble_eq_true rfl) (by decide) (Nat.le_refl _) (Nat.le_refl _) ?_
  refine x_if_ne dX9_write_4 (fun c4 => ?_) (fun c4 => ?_)
  · have c4 : ¬ ((wI s 0 3) = 0) := c4
    exact absurd hb c4
  · have c4 : (wI s 0 3) = 0 := c4
    refine x_aload_n dX9_write_7 rfl ?_
    refine x_ldc dX9_write_8 k_X9_87 ?_
    refine x_cVi (ws' := [(aN, .inr (9, [.ref aNs, .ref aNk, .int nkp, .ref aNf, .ref aNr, .ref aNp, .ref aNb, .ref aNa, .ref aNt, .int (nI nts), .ref aNbo, .ref aNsz, .ref aNnu, .int (nI nta), .int (nI nop), .int nbd, .int ntp, .int (nI npr), .int nnw, .int nsn, .int nwn, .ref aNl, .ref aNal, .ref aNlo, .int (nI nac), .ref aNw, .ref aNtr, .ref aNis, .ref aNbg, .ref aNow])), (aNf, .inl (g.2.1 0, 8, .inl (nIf (fnF (updN fi 0 (fi 0 + 1)))))), (aNbo, .inl (g.2.1 0, 4, .inl nbo)), (aNsz, .inl (g.2.1 0, 4, .inl (nIf nsz)))]) dX9_write_10 ml_X9_88 mX9_finds (ct_finds_0 κ.2.1 g aN aNs aNk aNf aNr aNp aNb aNa aNt aNbo aNsz aNnu aNl aNal aNlo aNw aNtr aNis aNbg aNow nts nta nop npr nac nkp nbd ntp nnw nsn nwn fi) [0, 1] rfl rfl 0 rfl rfl rfl (Nat.le_of_ble_eq_true rfl) (by decide) (Nat.le_refl _) (Nat.le_refl _) (rfl : [aN, aNf] = [aN, aNf]) rfl ?_
    refine x_i2l dX9_write_13 ?_
    rw [← hQ]
    refine x_lret dX9_write_14 rfl (Nat.le_of_ble_eq_true rfl) (Nat.le_of_ble_eq_true rfl) ?_
    exact ⟨rfl, rfl⟩

-- == nwrite_m ==
set_option maxRecDepth 100000 in
set_option maxHeartbeats 4000000 in
theorem ct_nwrite_m (l : Launch) (g : XG) (aN aNs aNk aNf aNr aNp aNb aNa aNt aNbo aNsz aNnu aNl aNal aNlo aNw aNtr aNis aNbg aNow nts nta nop npr nac : Nat) (nkp nbd ntp nnw nsn nwn : Int32) (fi : Nat → Nat) (nbo : Nat → Int32) (nsz : Nat → Nat) (i : Int32) (v : Int64) (s : Nat) (hs4 : s < 4) (hm : nbo s = -1) : Ct l g 34 0 0 yX9_write cX9_write 7 (some .long) [.ref aN, .int (nI s), .int i, .long v] [(aN, .inr (9, [.ref aNs, .ref aNk, .int nkp, .ref aNf, .ref aNr, .ref aNp, .ref aNb, .ref aNa, .ref aNt, .int (nI nts), .ref aNbo, .ref aNsz, .ref aNnu, .int (nI nta), .int (nI nop), .int nbd, .int ntp, .int (nI npr), .int nnw, .int nsn, .int nwn, .ref aNl, .ref aNal, .ref aNlo, .int (nI nac), .ref aNw, .ref aNtr, .ref aNis, .ref aNbg, .ref aNow])), (aNf, .inl (g.2.1 0, 8, .inl (nIf (fnF fi)))), (aNbo, .inl (g.2.1 0, 4, .inl nbo)), (aNsz, .inl (g.2.1 0, 4, .inl (nIf nsz)))] (xpl ((fndI 5).toInt64) [(aN, .inr (9, [.ref aNs, .ref aNk, .int nkp, .ref aNf, .ref aNr, .ref aNp, .ref aNb, .ref aNa, .ref aNt, .int (nI nts), .ref aNbo, .ref aNsz, .ref aNnu, .int (nI nta), .int (nI nop), .int nbd, .int ntp, .int (nI npr), .int nnw, .int nsn, .int nwn, .ref aNl, .ref aNal, .ref aNlo, .int (nI nac), .ref aNw, .ref aNtr, .ref aNis, .ref aNbg, .ref aNow])), (aNf, .inl (g.2.1 0, 8, .inl (nIf (fnF (updN fi 5 (fi 5 + 1)))))), (aNbo, .inl (g.2.1 0, 4, .inl nbo)), (aNsz, .inl (g.2.1 0, 4, .inl (nIf nsz)))]) := by
  refine Ct.ofX (lv := [some (.ref aN), some (.int (nI s)), some (.int i), some (.long v), none, none, none]) (by decide) rfl (Nat.le_of_ble_eq_true rfl) (fun κ => ?_)
  generalize hQ : xQ κ g 0 0 _ = Q
  refine x_iload_n dX9_write_0 rfl ?_
  refine x_cSi dX9_write_1 ml_X9_258 mX9_isSheet (ct_nSheet_n κ.2.1 g s (hs4)) rfl (Nat.le_of_ble_eq_true rfl) (by decide) (Nat.le_refl _) (Nat.le_refl _) ?_
  refine x_if_ne dX9_write_4 (fun c4 => ?_) (fun c4 => ?_)
  rotate_left
  · exact absurd c4 (by decide)
  refine x_aload_n dX9_write_15 rfl ?_
  refine x_get dX9_write_16 0 10 inX9 fl_X9_34 rfl rfl (by decide) rfl ?_
  refine x_iload_n dX9_write_19 rfl ?_
  refine x_iald dX9_write_20 2 s rfl (rfl) (by omega) (by decide) ?_
  refine x_rei ((-1)) (hm) ?_
  refine x_if_ge dX9_write_21 (fun c21 => ?_) (fun c21 => ?_)
  · exact absurd c21 (by decide)
  refine x_aload_n dX9_write_24 rfl ?_
  refine x_ldcw dX9_write_25 k_X9_262 ?_
  refine x_cVi (ws' := [(aN, .inr (9, [.ref aNs, .ref aNk, .int nkp, .ref aNf, .ref aNr, .ref aNp, .ref aNb, .ref aNa, .ref aNt, .int (nI nts), .ref aNbo, .ref aNsz, .ref aNnu, .int (nI nta), .int (nI nop), .int nbd, .int ntp, .int (nI npr), .int nnw, .int nsn, .int nwn, .ref aNl, .ref aNal, .ref aNlo, .int (nI nac), .ref aNw, .ref aNtr, .ref aNis, .ref aNbg, .ref aNow])), (aNf, .inl (g.2.1 0, 8, .inl (nIf (fnF (updN fi 5 (fi 5 + 1)))))), (aNbo, .inl (g.2.1 0, 4, .inl nbo)), (aNsz, .inl (g.2.1 0, 4, .inl (nIf nsz)))]) dX9_write_28 ml_X9_88 mX9_finds (ct_finds_5 κ.2.1 g aN aNs aNk aNf aNr aNp aNb aNa aNt aNbo aNsz aNnu aNl aNal aNlo aNw aNtr aNis aNbg aNow nts nta nop npr nac nkp nbd ntp nnw nsn nwn fi) [0, 1] rfl rfl 0 rfl rfl rfl (Nat.le_of_ble_eq_true rfl) (by decide) (Nat.le_refl _) (Nat.le_refl _) (rfl : [aN, aNf] = [aN, aNf]) rfl ?_
  refine x_i2l dX9_write_31 ?_
  rw [← hQ]
  refine x_lret dX9_write_32 rfl (Nat.le_of_ble_eq_true rfl) (Nat.le_of_ble_eq_true rfl) ?_
  exact ⟨rfl, rfl⟩

-- == nwrite_c ==
set_option maxRecDepth 100000 in
set_option maxHeartbeats 4000000 in
theorem ct_nwrite_c (l : Launch) (g : XG) (aN aNs aNk aNf aNr aNp aNb aNa aNt aNbo aNsz aNnu aNl aNal aNlo aNw aNtr aNis aNbg aNow nts nta nop npr nac : Nat) (nkp nbd ntp nnw nsn nwn : Int32) (fi : Nat → Nat) (nbo : Nat → Int32) (nsz : Nat → Nat) (i : Int32) (v : Int64) (s b : Nat) (hs4 : s < 4) (hm : nbo s = nI b ∧ b < 2 ^ 31) (hz : nsz s ≤ 40) (hb : wI i 0 (nI (nsz s) - 1) = 0) : Ct l g 34 0 0 yX9_write cX9_write 7 (some .long) [.ref aN, .int (nI s), .int i, .long v] [(aN, .inr (9, [.ref aNs, .ref aNk, .int nkp, .ref aNf, .ref aNr, .ref aNp, .ref aNb, .ref aNa, .ref aNt, .int (nI nts), .ref aNbo, .ref aNsz, .ref aNnu, .int (nI nta), .int (nI nop), .int nbd, .int ntp, .int (nI npr), .int nnw, .int nsn, .int nwn, .ref aNl, .ref aNal, .ref aNlo, .int (nI nac), .ref aNw, .ref aNtr, .ref aNis, .ref aNbg, .ref aNow])), (aNf, .inl (g.2.1 0, 8, .inl (nIf (fnF fi)))), (aNbo, .inl (g.2.1 0, 4, .inl nbo)), (aNsz, .inl (g.2.1 0, 4, .inl (nIf nsz)))] (xpl ((fndI 0).toInt64) [(aN, .inr (9, [.ref aNs, .ref aNk, .int nkp, .ref aNf, .ref aNr, .ref aNp, .ref aNb, .ref aNa, .ref aNt, .int (nI nts), .ref aNbo, .ref aNsz, .ref aNnu, .int (nI nta), .int (nI nop), .int nbd, .int ntp, .int (nI npr), .int nnw, .int nsn, .int nwn, .ref aNl, .ref aNal, .ref aNlo, .int (nI nac), .ref aNw, .ref aNtr, .ref aNis, .ref aNbg, .ref aNow])), (aNf, .inl (g.2.1 0, 8, .inl (nIf (fnF (updN fi 0 (fi 0 + 1)))))), (aNbo, .inl (g.2.1 0, 4, .inl nbo)), (aNsz, .inl (g.2.1 0, 4, .inl (nIf nsz)))]) := by
  refine Ct.ofX (lv := [some (.ref aN), some (.int (nI s)), some (.int i), some (.long v), none, none, none]) (by decide) rfl (Nat.le_of_ble_eq_true rfl) (fun κ => ?_)
  generalize hQ : xQ κ g 0 0 _ = Q
  refine x_iload_n dX9_write_0 rfl ?_
  refine x_cSi dX9_write_1 ml_X9_258 mX9_isSheet (ct_nSheet_n κ.2.1 g s (hs4)) rfl (Nat.le_of_ble_eq_true rfl) (by decide) (Nat.le_refl _) (Nat.le_refl _) ?_
  refine x_if_ne dX9_write_4 (fun c4 => ?_) (fun c4 => ?_)
  rotate_left
  · exact absurd c4 (by decide)
  refine x_aload_n dX9_write_15 rfl ?_
  refine x_get dX9_write_16 0 10 inX9 fl_X9_34 rfl rfl (by decide) rfl ?_
  refine x_iload_n dX9_write_19 rfl ?_
  refine x_iald dX9_write_20 2 s rfl (rfl) (by omega) (by decide) ?_
  refine x_rei (nI b) (hm.1) ?_
  refine x_if_ge dX9_write_21 (fun c21 => ?_) (fun c21 => ?_)
  · have c21 : 0 ≤ (nI b) := c21
    have c21n := (nI_leI (a := 0) (b := b) (by omega) (by omega)).mp c21
    refine x_iload_n dX9_write_33 rfl ?_
    refine x_i2l dX9_write_34 ?_
    refine x_lconst 0 dX9_write_35 (by decide) ?_
    refine x_aload_n dX9_write_36 rfl ?_
    refine x_get dX9_write_37 0 11 inX9 fl_X9_37 rfl rfl (by decide) rfl ?_
    refine x_iload_n dX9_write_40 rfl ?_
    refine x_iald dX9_write_41 3 s rfl (rfl) (by omega) (by decide) ?_
    refine x_iconst 1 dX9_write_42 (by decide) ?_
    refine x_isub dX9_write_43 ?_
    refine x_i2l dX9_write_44 ?_
    refine x_cSi dX9_write_45 ml_X9_98 mX9_isIn (ct_X9_isIn κ.2.1 g i.toInt64 0 (((nI (nsz s)) - 1).toInt64)) rfl (Nat.le_of_ble_eq_true rfl) (by decide) (Nat.le_refl _) (Nat.le_refl _) ?_
    refine x_rei (wI i 0 ((nI (nsz s)) - 1)) (inL_w i 0 ((nI (nsz s)) - 1) (by first | rfl | decide) (by first | rfl | decide)) ?_
    refine x_if_ne dX9_write_48 (fun c48 => ?_) (fun c48 => ?_)
    · have c48 : ¬ ((wI i 0 ((nI (nsz s)) - 1)) = 0) := c48
      exact absurd hb c48
    · have c48 : (wI i 0 ((nI (nsz s)) - 1)) = 0 := c48
      refine x_aload_n dX9_write_51 rfl ?_
      refine x_ldc dX9_write_52 k_X9_87 ?_
      refine x_cVi (ws' := [(aN, .inr (9, [.ref aNs, .ref aNk, .int nkp, .ref aNf, .ref aNr, .ref aNp, .ref aNb, .ref aNa, .ref aNt, .int (nI nts), .ref aNbo, .ref aNsz, .ref aNnu, .int (nI nta), .int (nI nop), .int nbd, .int ntp, .int (nI npr), .int nnw, .int nsn, .int nwn, .ref aNl, .ref aNal, .ref aNlo, .int (nI nac), .ref aNw, .ref aNtr, .ref aNis, .ref aNbg, .ref aNow])), (aNf, .inl (g.2.1 0, 8, .inl (nIf (fnF (updN fi 0 (fi 0 + 1)))))), (aNbo, .inl (g.2.1 0, 4, .inl nbo)), (aNsz, .inl (g.2.1 0, 4, .inl (nIf nsz)))]) dX9_write_54 ml_X9_88 mX9_finds (ct_finds_0 κ.2.1 g aN aNs aNk aNf aNr aNp aNb aNa aNt aNbo aNsz aNnu aNl aNal aNlo aNw aNtr aNis aNbg aNow nts nta nop npr nac nkp nbd ntp nnw nsn nwn fi) [0, 1] rfl rfl 0 rfl rfl rfl (Nat.le_of_ble_eq_true rfl) (by decide) (Nat.le_refl _) (Nat.le_refl _) (rfl : [aN, aNf] = [aN, aNf]) rfl ?_
      refine x_i2l dX9_write_57 ?_
      rw [← hQ]
      refine x_lret dX9_write_58 rfl (Nat.le_of_ble_eq_true rfl) (Nat.le_of_ble_eq_true rfl) ?_
      exact ⟨rfl, rfl⟩
  · have c21 : ¬ (0 ≤ (nI b)) := c21
    have c21n := mt (nI_leI (a := 0) (b := b) (by omega) (by omega)).mpr c21
    exact absurd c21n (by omega)

-- == nwrite_o ==
set_option maxRecDepth 100000 in
set_option maxHeartbeats 4000000 in
theorem ct_nwrite_o (l : Launch) (g : XG) (aN aNs aNk aNf aNr aNp aNb aNa aNt aNbo aNsz aNnu aNl aNal aNlo aNw aNtr aNis aNbg aNow nts nta nop npr nac : Nat) (nkp nbd ntp nnw nsn nwn : Int32) (fi : Nat → Nat) (nbo : Nat → Int32) (nsz : Nat → Nat) (nnu : Nat → Int64) (v : Int64) (s i b : Nat) (hs4 : s < 4) (hm : nbo s = nI b ∧ b < 2 ^ 31) (hz : nsz s ≤ 40) (hi : i < nsz s) : Ct l g 34 0 0 yX9_write cX9_write 7 (some .long) [.ref aN, .int (nI s), .int (nI i), .long v] [(aN, .inr (9, [.ref aNs, .ref aNk, .int nkp, .ref aNf, .ref aNr, .ref aNp, .ref aNb, .ref aNa, .ref aNt, .int (nI nts), .ref aNbo, .ref aNsz, .ref aNnu, .int (nI nta), .int (nI nop), .int nbd, .int ntp, .int (nI npr), .int nnw, .int nsn, .int nwn, .ref aNl, .ref aNal, .ref aNlo, .int (nI nac), .ref aNw, .ref aNtr, .ref aNis, .ref aNbg, .ref aNow])), (aNf, .inl (g.2.1 0, 8, .inl (nIf (fnF fi)))), (aNbo, .inl (g.2.1 0, 4, .inl nbo)), (aNsz, .inl (g.2.1 0, 4, .inl (nIf nsz))), (aNnu, .inl (g.2.1 2, 160, .inr (.inl nnu)))] (xpl (nnu (40 * s + i)) [(aN, .inr (9, [.ref aNs, .ref aNk, .int nkp, .ref aNf, .ref aNr, .ref aNp, .ref aNb, .ref aNa, .ref aNt, .int (nI nts), .ref aNbo, .ref aNsz, .ref aNnu, .int (nI nta), .int (nI nop), .int nbd, .int ntp, .int (nI npr), .int nnw, .int nsn, .int nwn, .ref aNl, .ref aNal, .ref aNlo, .int (nI nac), .ref aNw, .ref aNtr, .ref aNis, .ref aNbg, .ref aNow])), (aNf, .inl (g.2.1 0, 8, .inl (nIf (fnF fi)))), (aNbo, .inl (g.2.1 0, 4, .inl nbo)), (aNsz, .inl (g.2.1 0, 4, .inl (nIf nsz))), (aNnu, .inl (g.2.1 2, 160, .inr (.inl (vp_updL nnu (40 * s + i) (narR (nI b) v)))))]) := by
  refine Ct.ofX (lv := [some (.ref aN), some (.int (nI s)), some (.int (nI i)), some (.long v), none, none, none]) (by decide) rfl (Nat.le_of_ble_eq_true rfl) (fun κ => ?_)
  generalize hQ : xQ κ g 0 0 _ = Q
  refine x_iload_n dX9_write_0 rfl ?_
  refine x_cSi dX9_write_1 ml_X9_258 mX9_isSheet (ct_nSheet_n κ.2.1 g s (hs4)) rfl (Nat.le_of_ble_eq_true rfl) (by decide) (Nat.le_refl _) (Nat.le_refl _) ?_
  refine x_if_ne dX9_write_4 (fun c4 => ?_) (fun c4 => ?_)
  rotate_left
  · exact absurd c4 (by decide)
  refine x_aload_n dX9_write_15 rfl ?_
  refine x_get dX9_write_16 0 10 inX9 fl_X9_34 rfl rfl (by decide) rfl ?_
  refine x_iload_n dX9_write_19 rfl ?_
  refine x_iald dX9_write_20 2 s rfl (rfl) (by omega) (by decide) ?_
  refine x_rei (nI b) (hm.1) ?_
  refine x_if_ge dX9_write_21 (fun c21 => ?_) (fun c21 => ?_)
  · have c21 : 0 ≤ (nI b) := c21
    have c21n := (nI_leI (a := 0) (b := b) (by omega) (by omega)).mp c21
    refine x_iload_n dX9_write_33 rfl ?_
    refine x_i2l dX9_write_34 ?_
    refine x_lconst 0 dX9_write_35 (by decide) ?_
    refine x_aload_n dX9_write_36 rfl ?_
    refine x_get dX9_write_37 0 11 inX9 fl_X9_37 rfl rfl (by decide) rfl ?_
    refine x_iload_n dX9_write_40 rfl ?_
    refine x_iald dX9_write_41 3 s rfl (rfl) (by omega) (by decide) ?_
    refine x_iconst 1 dX9_write_42 (by decide) ?_
    refine x_isub dX9_write_43 ?_
    refine x_rei (nI ((nsz s) - 1)) (nI_isub (nsz s) 1 (by omega)) ?_
    refine x_i2l dX9_write_44 ?_
    refine x_cSi dX9_write_45 ml_X9_98 mX9_isIn (ct_X9_isIn κ.2.1 g ((nI i).toInt64) 0 ((nI ((nsz s) - 1)).toInt64)) rfl (Nat.le_of_ble_eq_true rfl) (by decide) (Nat.le_refl _) (Nat.le_refl _) ?_
    refine x_rei (wI (nI i) 0 (nI ((nsz s) - 1))) (inL_w (nI i) 0 (nI ((nsz s) - 1)) (by first | rfl | decide) (by first | rfl | decide)) ?_
    refine x_rei 1 (show wI (nI i) 0 (nI ((nsz s) - 1)) = 1 from wI_nat (n := i) (a := 0) (b := ((nsz s) - 1)) ⟨by omega, by omega, by omega, by omega⟩) ?_
    refine x_if_ne dX9_write_48 (fun c48 => ?_) (fun c48 => ?_)
    rotate_left
    · exact absurd c48 (by decide)
    refine x_aload_n dX9_write_59 rfl ?_
    refine x_get dX9_write_60 0 12 inX9 fl_X9_40 rfl rfl (by decide) rfl ?_
    refine x_bipush 40 dX9_write_63 (by decide) ?_
    refine x_iload_n dX9_write_65 rfl ?_
    refine x_imul dX9_write_66 ?_
    refine x_rei (nI (40 * s)) (nI_imul 40 s) ?_
    refine x_iload_n dX9_write_67 rfl ?_
    refine x_iadd dX9_write_68 ?_
    refine x_rei (nI ((40 * s) + i)) (nI_iadd (40 * s) i) ?_
    refine x_lald dX9_write_69 4 ((40 * s) + i) rfl (rfl) (by omega) (by decide) ?_
    refine x_lstore (lv' := [some (.ref aN), some (.int (nI s)), some (.int (nI i)), some (.long v), none, some (.long (nnu ((40 * s) + i))), none]) dX9_write_70 (xlt rfl) rfl ?_
    refine x_aload_n dX9_write_72 rfl ?_
    refine x_get dX9_write_73 0 12 inX9 fl_X9_40 rfl rfl (by decide) rfl ?_
    refine x_bipush 40 dX9_write_76 (by decide) ?_
    refine x_iload_n dX9_write_78 rfl ?_
    refine x_imul dX9_write_79 ?_
    refine x_rei (nI (40 * s)) (nI_imul 40 s) ?_
    refine x_iload_n dX9_write_80 rfl ?_
    refine x_iadd dX9_write_81 ?_
    refine x_rei (nI ((40 * s) + i)) (nI_iadd (40 * s) i) ?_
    refine x_aload_n dX9_write_82 rfl ?_
    refine x_get dX9_write_83 0 10 inX9 fl_X9_34 rfl rfl (by decide) rfl ?_
    refine x_iload_n dX9_write_86 rfl ?_
    refine x_iald dX9_write_87 2 s rfl (rfl) (by omega) (by decide) ?_
    refine x_rei (nI b) (hm.1) ?_
    refine x_lload_n dX9_write_88 rfl ?_
    refine x_cSl dX9_write_89 ml_X9_263 mX9_narrow (ct_X9_narrow κ.2.1 g (nI b) v) rfl (Nat.le_of_ble_eq_true rfl) (by decide) (Nat.le_refl _) (Nat.le_refl _) ?_
    refine x_last (ws' := [(aN, .inr (9, [.ref aNs, .ref aNk, .int nkp, .ref aNf, .ref aNr, .ref aNp, .ref aNb, .ref aNa, .ref aNt, .int (nI nts), .ref aNbo, .ref aNsz, .ref aNnu, .int (nI nta), .int (nI nop), .int nbd, .int ntp, .int (nI npr), .int nnw, .int nsn, .int nwn, .ref aNl, .ref aNal, .ref aNlo, .int (nI nac), .ref aNw, .ref aNtr, .ref aNis, .ref aNbg, .ref aNow])), (aNf, .inl (g.2.1 0, 8, .inl (nIf (fnF fi)))), (aNbo, .inl (g.2.1 0, 4, .inl nbo)), (aNsz, .inl (g.2.1 0, 4, .inl (nIf nsz))), (aNnu, .inl (g.2.1 2, 160, .inr (.inl (vp_updL nnu ((40 * s) + i) (narR (nI b) v)))))]) dX9_write_92 4 ((40 * s) + i) rfl (rfl) (by omega) (by decide) rfl ?_
    refine x_lload dX9_write_93 rfl ?_
    rw [← hQ]
    refine x_lret dX9_write_95 rfl (Nat.le_of_ble_eq_true rfl) (Nat.le_of_ble_eq_true rfl) ?_
    exact ⟨rfl, rfl⟩
  · have c21 : ¬ (0 ≤ (nI b)) := c21
    have c21n := mt (nI_leI (a := 0) (b := b) (by omega) (by omega)).mpr c21
    exact absurd c21n (by omega)

-- == ncopy_b ==
theorem dX9_copy_0 : xd cX9_copy 0 (.iload_n 1) 1 1 := ⟨by decide +kernel, rfl⟩
theorem dX9_copy_1 : xd cX9_copy 1 (.invokestatic 258) 3 4 := ⟨by decide +kernel, rfl⟩
theorem dX9_copy_4 : xj cX9_copy 4 (.ifCond .eq) 7 14 := ⟨10, by decide +kernel, rfl, by decide⟩
theorem dX9_copy_7 : xd cX9_copy 7 (.iload_n 3) 1 8 := ⟨by decide +kernel, rfl⟩
theorem dX9_copy_8 : xd cX9_copy 8 (.invokestatic 258) 3 11 := ⟨by decide +kernel, rfl⟩
theorem dX9_copy_11 : xj cX9_copy 11 (.ifCond .ne) 14 21 := ⟨10, by decide +kernel, rfl, by decide⟩
theorem dX9_copy_14 : xd cX9_copy 14 (.aload_n 0) 1 15 := ⟨by decide +kernel, rfl⟩
theorem dX9_copy_15 : xd cX9_copy 15 (.ldc 87) 2 17 := ⟨by decide +kernel, rfl⟩
theorem dX9_copy_17 : xd cX9_copy 17 (.invokevirtual 88) 3 20 := ⟨by decide +kernel, rfl⟩
theorem dX9_copy_20 : xd cX9_copy 20 .ireturn 1 21 := ⟨by decide +kernel, rfl⟩
theorem dX9_copy_21 : xd cX9_copy 21 (.aload_n 0) 1 22 := ⟨by decide +kernel, rfl⟩
theorem dX9_copy_22 : xd cX9_copy 22 (.getfield 34) 3 25 := ⟨by decide +kernel, rfl⟩
theorem dX9_copy_25 : xd cX9_copy 25 (.iload_n 1) 1 26 := ⟨by decide +kernel, rfl⟩
theorem dX9_copy_26 : xd cX9_copy 26 .iaload 1 27 := ⟨by decide +kernel, rfl⟩
theorem dX9_copy_27 : xj cX9_copy 27 (.ifCond .lt) 30 39 := ⟨12, by decide +kernel, rfl, by decide⟩
theorem dX9_copy_30 : xd cX9_copy 30 (.aload_n 0) 1 31 := ⟨by decide +kernel, rfl⟩
theorem dX9_copy_31 : xd cX9_copy 31 (.getfield 34) 3 34 := ⟨by decide +kernel, rfl⟩
theorem dX9_copy_34 : xd cX9_copy 34 (.iload_n 3) 1 35 := ⟨by decide +kernel, rfl⟩
theorem dX9_copy_35 : xd cX9_copy 35 .iaload 1 36 := ⟨by decide +kernel, rfl⟩
theorem dX9_copy_36 : xj cX9_copy 36 (.ifCond .ge) 39 47 := ⟨11, by decide +kernel, rfl, by decide⟩
theorem dX9_copy_39 : xd cX9_copy 39 (.aload_n 0) 1 40 := ⟨by decide +kernel, rfl⟩
theorem dX9_copy_40 : xd cX9_copy 40 (.ldc_w 262) 3 43 := ⟨by decide +kernel, rfl⟩
theorem dX9_copy_43 : xd cX9_copy 43 (.invokevirtual 88) 3 46 := ⟨by decide +kernel, rfl⟩
theorem dX9_copy_46 : xd cX9_copy 46 .ireturn 1 47 := ⟨by decide +kernel, rfl⟩
theorem dX9_copy_47 : xd cX9_copy 47 (.aload_n 0) 1 48 := ⟨by decide +kernel, rfl⟩
theorem dX9_copy_48 : xd cX9_copy 48 (.getfield 34) 3 51 := ⟨by decide +kernel, rfl⟩
theorem dX9_copy_51 : xd cX9_copy 51 (.iload_n 1) 1 52 := ⟨by decide +kernel, rfl⟩
theorem dX9_copy_52 : xd cX9_copy 52 .iaload 1 53 := ⟨by decide +kernel, rfl⟩
theorem dX9_copy_53 : xd cX9_copy 53 (.aload_n 0) 1 54 := ⟨by decide +kernel, rfl⟩
theorem dX9_copy_54 : xd cX9_copy 54 (.getfield 34) 3 57 := ⟨by decide +kernel, rfl⟩
theorem dX9_copy_57 : xd cX9_copy 57 (.iload_n 3) 1 58 := ⟨by decide +kernel, rfl⟩
theorem dX9_copy_58 : xd cX9_copy 58 .iaload 1 59 := ⟨by decide +kernel, rfl⟩
theorem dX9_copy_59 : xj cX9_copy 59 (.if_icmp .eq) 62 69 := ⟨10, by decide +kernel, rfl, by decide⟩
theorem dX9_copy_62 : xd cX9_copy 62 (.aload_n 0) 1 63 := ⟨by decide +kernel, rfl⟩
theorem dX9_copy_63 : xd cX9_copy 63 (.ldc 111) 2 65 := ⟨by decide +kernel, rfl⟩
theorem dX9_copy_65 : xd cX9_copy 65 (.invokevirtual 88) 3 68 := ⟨by decide +kernel, rfl⟩
theorem dX9_copy_68 : xd cX9_copy 68 .ireturn 1 69 := ⟨by decide +kernel, rfl⟩
theorem dX9_copy_69 : xd cX9_copy 69 (.iload_n 2) 1 70 := ⟨by decide +kernel, rfl⟩
theorem dX9_copy_70 : xj cX9_copy 70 (.ifCond .lt) 73 110 := ⟨40, by decide +kernel, rfl, by decide⟩
theorem dX9_copy_73 : xd cX9_copy 73 (.iload 4) 2 75 := ⟨by decide +kernel, rfl⟩
theorem dX9_copy_75 : xj cX9_copy 75 (.ifCond .lt) 78 110 := ⟨35, by decide +kernel, rfl, by decide⟩
theorem dX9_copy_78 : xd cX9_copy 78 (.iload 5) 2 80 := ⟨by decide +kernel, rfl⟩
theorem dX9_copy_80 : xj cX9_copy 80 (.ifCond .lt) 83 110 := ⟨30, by decide +kernel, rfl, by decide⟩
theorem dX9_copy_83 : xd cX9_copy 83 (.iload 5) 2 85 := ⟨by decide +kernel, rfl⟩
theorem dX9_copy_85 : xd cX9_copy 85 (.aload_n 0) 1 86 := ⟨by decide +kernel, rfl⟩
theorem dX9_copy_86 : xd cX9_copy 86 (.getfield 37) 3 89 := ⟨by decide +kernel, rfl⟩
theorem dX9_copy_89 : xd cX9_copy 89 (.iload_n 1) 1 90 := ⟨by decide +kernel, rfl⟩
theorem dX9_copy_90 : xd cX9_copy 90 .iaload 1 91 := ⟨by decide +kernel, rfl⟩
theorem dX9_copy_91 : xd cX9_copy 91 (.iload_n 2) 1 92 := ⟨by decide +kernel, rfl⟩
theorem dX9_copy_92 : xd cX9_copy 92 .isub 1 93 := ⟨by decide +kernel, rfl⟩
theorem dX9_copy_93 : xj cX9_copy 93 (.if_icmp .gt) 96 110 := ⟨17, by decide +kernel, rfl, by decide⟩
theorem dX9_copy_96 : xd cX9_copy 96 (.iload 5) 2 98 := ⟨by decide +kernel, rfl⟩
theorem dX9_copy_98 : xd cX9_copy 98 (.aload_n 0) 1 99 := ⟨by decide +kernel, rfl⟩
theorem dX9_copy_99 : xd cX9_copy 99 (.getfield 37) 3 102 := ⟨by decide +kernel, rfl⟩
theorem dX9_copy_102 : xd cX9_copy 102 (.iload_n 3) 1 103 := ⟨by decide +kernel, rfl⟩
theorem dX9_copy_103 : xd cX9_copy 103 .iaload 1 104 := ⟨by decide +kernel, rfl⟩
theorem dX9_copy_104 : xd cX9_copy 104 (.iload 4) 2 106 := ⟨by decide +kernel, rfl⟩
theorem dX9_copy_106 : xd cX9_copy 106 .isub 1 107 := ⟨by decide +kernel, rfl⟩
theorem dX9_copy_107 : xj cX9_copy 107 (.if_icmp .le) 110 117 := ⟨10, by decide +kernel, rfl, by decide⟩
theorem dX9_copy_110 : xd cX9_copy 110 (.aload_n 0) 1 111 := ⟨by decide +kernel, rfl⟩
theorem dX9_copy_111 : xd cX9_copy 111 (.ldc 87) 2 113 := ⟨by decide +kernel, rfl⟩
theorem dX9_copy_113 : xd cX9_copy 113 (.invokevirtual 88) 3 116 := ⟨by decide +kernel, rfl⟩
theorem dX9_copy_116 : xd cX9_copy 116 .ireturn 1 117 := ⟨by decide +kernel, rfl⟩
theorem dX9_copy_117 : xd cX9_copy 117 (.bipush 40) 2 119 := ⟨by decide +kernel, rfl⟩
theorem dX9_copy_119 : xd cX9_copy 119 (.iload_n 1) 1 120 := ⟨by decide +kernel, rfl⟩
theorem dX9_copy_120 : xd cX9_copy 120 .imul 1 121 := ⟨by decide +kernel, rfl⟩
theorem dX9_copy_121 : xd cX9_copy 121 (.iload_n 2) 1 122 := ⟨by decide +kernel, rfl⟩
theorem dX9_copy_122 : xd cX9_copy 122 .iadd 1 123 := ⟨by decide +kernel, rfl⟩
theorem dX9_copy_123 : xd cX9_copy 123 (.istore 6) 2 125 := ⟨by decide +kernel, rfl⟩
theorem dX9_copy_125 : xd cX9_copy 125 (.bipush 40) 2 127 := ⟨by decide +kernel, rfl⟩
theorem dX9_copy_127 : xd cX9_copy 127 (.iload_n 3) 1 128 := ⟨by decide +kernel, rfl⟩
theorem dX9_copy_128 : xd cX9_copy 128 .imul 1 129 := ⟨by decide +kernel, rfl⟩
theorem dX9_copy_129 : xd cX9_copy 129 (.iload 4) 2 131 := ⟨by decide +kernel, rfl⟩
theorem dX9_copy_131 : xd cX9_copy 131 .iadd 1 132 := ⟨by decide +kernel, rfl⟩
theorem dX9_copy_132 : xd cX9_copy 132 (.istore 7) 2 134 := ⟨by decide +kernel, rfl⟩
theorem dX9_copy_134 : xd cX9_copy 134 (.iconst 0) 1 135 := ⟨by decide +kernel, rfl⟩
theorem dX9_copy_135 : xd cX9_copy 135 (.istore 8) 2 137 := ⟨by decide +kernel, rfl⟩
theorem dX9_copy_137 : xd cX9_copy 137 (.iload 8) 2 139 := ⟨by decide +kernel, rfl⟩
theorem dX9_copy_139 : xd cX9_copy 139 (.iload 5) 2 141 := ⟨by decide +kernel, rfl⟩
theorem dX9_copy_141 : xj cX9_copy 141 (.if_icmp .ge) 144 191 := ⟨50, by decide +kernel, rfl, by decide⟩
theorem dX9_copy_144 : xd cX9_copy 144 (.iload 6) 2 146 := ⟨by decide +kernel, rfl⟩
theorem dX9_copy_146 : xd cX9_copy 146 (.iload 7) 2 148 := ⟨by decide +kernel, rfl⟩
theorem dX9_copy_148 : xj cX9_copy 148 (.if_icmp .ge) 151 161 := ⟨13, by decide +kernel, rfl, by decide⟩
theorem dX9_copy_151 : xd cX9_copy 151 (.iload 5) 2 153 := ⟨by decide +kernel, rfl⟩
theorem dX9_copy_153 : xd cX9_copy 153 (.iconst 1) 1 154 := ⟨by decide +kernel, rfl⟩
theorem dX9_copy_154 : xd cX9_copy 154 .isub 1 155 := ⟨by decide +kernel, rfl⟩
theorem dX9_copy_155 : xd cX9_copy 155 (.iload 8) 2 157 := ⟨by decide +kernel, rfl⟩
theorem dX9_copy_157 : xd cX9_copy 157 .isub 1 158 := ⟨by decide +kernel, rfl⟩
theorem dX9_copy_158 : xj cX9_copy 158 .goto 161 163 := ⟨5, by decide +kernel, rfl, by decide⟩
theorem dX9_copy_161 : xd cX9_copy 161 (.iload 8) 2 163 := ⟨by decide +kernel, rfl⟩
theorem dX9_copy_163 : xd cX9_copy 163 (.istore 9) 2 165 := ⟨by decide +kernel, rfl⟩
theorem dX9_copy_165 : xd cX9_copy 165 (.aload_n 0) 1 166 := ⟨by decide +kernel, rfl⟩
theorem dX9_copy_166 : xd cX9_copy 166 (.getfield 40) 3 169 := ⟨by decide +kernel, rfl⟩
theorem dX9_copy_169 : xd cX9_copy 169 (.iload 7) 2 171 := ⟨by decide +kernel, rfl⟩
theorem dX9_copy_171 : xd cX9_copy 171 (.iload 9) 2 173 := ⟨by decide +kernel, rfl⟩
theorem dX9_copy_173 : xd cX9_copy 173 .iadd 1 174 := ⟨by decide +kernel, rfl⟩
theorem dX9_copy_174 : xd cX9_copy 174 (.aload_n 0) 1 175 := ⟨by decide +kernel, rfl⟩
theorem dX9_copy_175 : xd cX9_copy 175 (.getfield 40) 3 178 := ⟨by decide +kernel, rfl⟩
theorem dX9_copy_178 : xd cX9_copy 178 (.iload 6) 2 180 := ⟨by decide +kernel, rfl⟩
theorem dX9_copy_180 : xd cX9_copy 180 (.iload 9) 2 182 := ⟨by decide +kernel, rfl⟩
theorem dX9_copy_182 : xd cX9_copy 182 .iadd 1 183 := ⟨by decide +kernel, rfl⟩
theorem dX9_copy_183 : xd cX9_copy 183 .laload 1 184 := ⟨by decide +kernel, rfl⟩
theorem dX9_copy_184 : xd cX9_copy 184 .lastore 1 185 := ⟨by decide +kernel, rfl⟩
theorem dX9_copy_185 : xd cX9_copy 185 (.iinc 8 1) 3 188 := ⟨by decide +kernel, rfl⟩
theorem dX9_copy_188 : xj cX9_copy 188 .goto 191 137 := ⟨(-51), by decide +kernel, rfl, by decide⟩
theorem dX9_copy_191 : xd cX9_copy 191 (.iload 5) 2 193 := ⟨by decide +kernel, rfl⟩
theorem dX9_copy_193 : xd cX9_copy 193 .ireturn 1 194 := ⟨by decide +kernel, rfl⟩

set_option maxRecDepth 100000 in
set_option maxHeartbeats 4000000 in
theorem ct_ncopy_b (l : Launch) (g : XG) (aN aNs aNk aNf aNr aNp aNb aNa aNt aNbo aNsz aNnu aNl aNal aNlo aNw aNtr aNis aNbg aNow nts nta nop npr nac : Nat) (nkp nbd ntp nnw nsn nwn : Int32) (fi : Nat → Nat) (nbo : Nat → Int32) (nsz : Nat → Nat) (s f t to n : Int32) (hb : wI s 0 3 = 0 ∨ wI t 0 3 = 0) : Ct l g 34 0 0 yX9_copy cX9_copy 10 (some .int) [.ref aN, .int s, .int f, .int t, .int to, .int n] [(aN, .inr (9, [.ref aNs, .ref aNk, .int nkp, .ref aNf, .ref aNr, .ref aNp, .ref aNb, .ref aNa, .ref aNt, .int (nI nts), .ref aNbo, .ref aNsz, .ref aNnu, .int (nI nta), .int (nI nop), .int nbd, .int ntp, .int (nI npr), .int nnw, .int nsn, .int nwn, .ref aNl, .ref aNal, .ref aNlo, .int (nI nac), .ref aNw, .ref aNtr, .ref aNis, .ref aNbg, .ref aNow])), (aNf, .inl (g.2.1 0, 8, .inl (nIf (fnF fi)))), (aNbo, .inl (g.2.1 0, 4, .inl nbo)), (aNsz, .inl (g.2.1 0, 4, .inl (nIf nsz)))] (xpi (fndI 0) [(aN, .inr (9, [.ref aNs, .ref aNk, .int nkp, .ref aNf, .ref aNr, .ref aNp, .ref aNb, .ref aNa, .ref aNt, .int (nI nts), .ref aNbo, .ref aNsz, .ref aNnu, .int (nI nta), .int (nI nop), .int nbd, .int ntp, .int (nI npr), .int nnw, .int nsn, .int nwn, .ref aNl, .ref aNal, .ref aNlo, .int (nI nac), .ref aNw, .ref aNtr, .ref aNis, .ref aNbg, .ref aNow])), (aNf, .inl (g.2.1 0, 8, .inl (nIf (fnF (updN fi 0 (fi 0 + 1)))))), (aNbo, .inl (g.2.1 0, 4, .inl nbo)), (aNsz, .inl (g.2.1 0, 4, .inl (nIf nsz)))]) := by
  refine Ct.ofX (lv := [some (.ref aN), some (.int s), some (.int f), some (.int t), some (.int to), some (.int n), none, none, none, none]) (by decide) rfl (Nat.le_of_ble_eq_true rfl) (fun κ => ?_)
  generalize hQ : xQ κ g 0 0 _ = Q
  refine x_iload_n dX9_copy_0 rfl ?_
  refine x_cSi dX9_copy_1 ml_X9_258 mX9_isSheet (ct_X9_isSheet κ.2.1 g s) rfl (Nat.le_of_ble_eq_true rfl) (by decide) (Nat.le_refl _) (Nat.le_refl _) ?_
  refine x_if_eq dX9_copy_4 (fun c4 => ?_) (fun c4 => ?_)
  · have c4 : (wI s 0 3) = 0 := c4
    refine x_aload_n dX9_copy_14 rfl ?_
    refine x_ldc dX9_copy_15 k_X9_87 ?_
    refine x_cVi (ws' := [(aN, .inr (9, [.ref aNs, .ref aNk, .int nkp, .ref aNf, .ref aNr, .ref aNp, .ref aNb, .ref aNa, .ref aNt, .int (nI nts), .ref aNbo, .ref aNsz, .ref aNnu, .int (nI nta), .int (nI nop), .int nbd, .int ntp, .int (nI npr), .int nnw, .int nsn, .int nwn, .ref aNl, .ref aNal, .ref aNlo, .int (nI nac), .ref aNw, .ref aNtr, .ref aNis, .ref aNbg, .ref aNow])), (aNf, .inl (g.2.1 0, 8, .inl (nIf (fnF (updN fi 0 (fi 0 + 1)))))), (aNbo, .inl (g.2.1 0, 4, .inl nbo)), (aNsz, .inl (g.2.1 0, 4, .inl (nIf nsz)))]) dX9_copy_17 ml_X9_88 mX9_finds (ct_finds_0 κ.2.1 g aN aNs aNk aNf aNr aNp aNb aNa aNt aNbo aNsz aNnu aNl aNal aNlo aNw aNtr aNis aNbg aNow nts nta nop npr nac nkp nbd ntp nnw nsn nwn fi) [0, 1] rfl rfl 0 rfl rfl rfl (Nat.le_of_ble_eq_true rfl) (by decide) (Nat.le_refl _) (Nat.le_refl _) (rfl : [aN, aNf] = [aN, aNf]) rfl ?_
    rw [← hQ]
    refine x_iret dX9_copy_20 rfl (Nat.le_of_ble_eq_true rfl) (Nat.le_of_ble_eq_true rfl) ?_
    exact ⟨rfl, rfl⟩
  · have c4 : ¬ ((wI s 0 3) = 0) := c4
    refine x_iload_n dX9_copy_7 rfl ?_
    refine x_cSi dX9_copy_8 ml_X9_258 mX9_isSheet (ct_X9_isSheet κ.2.1 g t) rfl (Nat.le_of_ble_eq_true rfl) (by decide) (Nat.le_refl _) (Nat.le_refl _) ?_
    refine x_if_ne dX9_copy_11 (fun c11 => ?_) (fun c11 => ?_)
    · have c11 : ¬ ((wI t 0 3) = 0) := c11
      exact absurd (hb.resolve_left c4) c11
    · have c11 : (wI t 0 3) = 0 := c11
      refine x_aload_n dX9_copy_14 rfl ?_
      refine x_ldc dX9_copy_15 k_X9_87 ?_
      refine x_cVi (ws' := [(aN, .inr (9, [.ref aNs, .ref aNk, .int nkp, .ref aNf, .ref aNr, .ref aNp, .ref aNb, .ref aNa, .ref aNt, .int (nI nts), .ref aNbo, .ref aNsz, .ref aNnu, .int (nI nta), .int (nI nop), .int nbd, .int ntp, .int (nI npr), .int nnw, .int nsn, .int nwn, .ref aNl, .ref aNal, .ref aNlo, .int (nI nac), .ref aNw, .ref aNtr, .ref aNis, .ref aNbg, .ref aNow])), (aNf, .inl (g.2.1 0, 8, .inl (nIf (fnF (updN fi 0 (fi 0 + 1)))))), (aNbo, .inl (g.2.1 0, 4, .inl nbo)), (aNsz, .inl (g.2.1 0, 4, .inl (nIf nsz)))]) dX9_copy_17 ml_X9_88 mX9_finds (ct_finds_0 κ.2.1 g aN aNs aNk aNf aNr aNp aNb aNa aNt aNbo aNsz aNnu aNl aNal aNlo aNw aNtr aNis aNbg aNow nts nta nop npr nac nkp nbd ntp nnw nsn nwn fi) [0, 1] rfl rfl 0 rfl rfl rfl (Nat.le_of_ble_eq_true rfl) (by decide) (Nat.le_refl _) (Nat.le_refl _) (rfl : [aN, aNf] = [aN, aNf]) rfl ?_
      rw [← hQ]
      refine x_iret dX9_copy_20 rfl (Nat.le_of_ble_eq_true rfl) (Nat.le_of_ble_eq_true rfl) ?_
      exact ⟨rfl, rfl⟩

-- == ncopy_m1 ==
set_option maxRecDepth 100000 in
set_option maxHeartbeats 4000000 in
theorem ct_ncopy_m1 (l : Launch) (g : XG) (aN aNs aNk aNf aNr aNp aNb aNa aNt aNbo aNsz aNnu aNl aNal aNlo aNw aNtr aNis aNbg aNow nts nta nop npr nac : Nat) (nkp nbd ntp nnw nsn nwn : Int32) (fi : Nat → Nat) (nbo : Nat → Int32) (nsz : Nat → Nat) (f to n : Int32) (s t : Nat) (hs4 : s < 4) (ht4 : t < 4) (hm : nbo s = -1) : Ct l g 34 0 0 yX9_copy cX9_copy 10 (some .int) [.ref aN, .int (nI s), .int f, .int (nI t), .int to, .int n] [(aN, .inr (9, [.ref aNs, .ref aNk, .int nkp, .ref aNf, .ref aNr, .ref aNp, .ref aNb, .ref aNa, .ref aNt, .int (nI nts), .ref aNbo, .ref aNsz, .ref aNnu, .int (nI nta), .int (nI nop), .int nbd, .int ntp, .int (nI npr), .int nnw, .int nsn, .int nwn, .ref aNl, .ref aNal, .ref aNlo, .int (nI nac), .ref aNw, .ref aNtr, .ref aNis, .ref aNbg, .ref aNow])), (aNf, .inl (g.2.1 0, 8, .inl (nIf (fnF fi)))), (aNbo, .inl (g.2.1 0, 4, .inl nbo)), (aNsz, .inl (g.2.1 0, 4, .inl (nIf nsz)))] (xpi (fndI 5) [(aN, .inr (9, [.ref aNs, .ref aNk, .int nkp, .ref aNf, .ref aNr, .ref aNp, .ref aNb, .ref aNa, .ref aNt, .int (nI nts), .ref aNbo, .ref aNsz, .ref aNnu, .int (nI nta), .int (nI nop), .int nbd, .int ntp, .int (nI npr), .int nnw, .int nsn, .int nwn, .ref aNl, .ref aNal, .ref aNlo, .int (nI nac), .ref aNw, .ref aNtr, .ref aNis, .ref aNbg, .ref aNow])), (aNf, .inl (g.2.1 0, 8, .inl (nIf (fnF (updN fi 5 (fi 5 + 1)))))), (aNbo, .inl (g.2.1 0, 4, .inl nbo)), (aNsz, .inl (g.2.1 0, 4, .inl (nIf nsz)))]) := by
  refine Ct.ofX (lv := [some (.ref aN), some (.int (nI s)), some (.int f), some (.int (nI t)), some (.int to), some (.int n), none, none, none, none]) (by decide) rfl (Nat.le_of_ble_eq_true rfl) (fun κ => ?_)
  generalize hQ : xQ κ g 0 0 _ = Q
  refine x_iload_n dX9_copy_0 rfl ?_
  refine x_cSi dX9_copy_1 ml_X9_258 mX9_isSheet (ct_nSheet_n κ.2.1 g s (hs4)) rfl (Nat.le_of_ble_eq_true rfl) (by decide) (Nat.le_refl _) (Nat.le_refl _) ?_
  refine x_if_eq dX9_copy_4 (fun c4 => ?_) (fun c4 => ?_)
  · exact absurd c4 (by decide)
  refine x_iload_n dX9_copy_7 rfl ?_
  refine x_cSi dX9_copy_8 ml_X9_258 mX9_isSheet (ct_nSheet_n κ.2.1 g t (ht4)) rfl (Nat.le_of_ble_eq_true rfl) (by decide) (Nat.le_refl _) (Nat.le_refl _) ?_
  refine x_if_ne dX9_copy_11 (fun c11 => ?_) (fun c11 => ?_)
  rotate_left
  · exact absurd c11 (by decide)
  refine x_aload_n dX9_copy_21 rfl ?_
  refine x_get dX9_copy_22 0 10 inX9 fl_X9_34 rfl rfl (by decide) rfl ?_
  refine x_iload_n dX9_copy_25 rfl ?_
  refine x_iald dX9_copy_26 2 s rfl (rfl) (by omega) (by decide) ?_
  refine x_rei ((-1)) (hm) ?_
  refine x_if_lt dX9_copy_27 (fun c27 => ?_) (fun c27 => ?_)
  rotate_left
  · exact absurd c27 (by decide)
  refine x_aload_n dX9_copy_39 rfl ?_
  refine x_ldcw dX9_copy_40 k_X9_262 ?_
  refine x_cVi (ws' := [(aN, .inr (9, [.ref aNs, .ref aNk, .int nkp, .ref aNf, .ref aNr, .ref aNp, .ref aNb, .ref aNa, .ref aNt, .int (nI nts), .ref aNbo, .ref aNsz, .ref aNnu, .int (nI nta), .int (nI nop), .int nbd, .int ntp, .int (nI npr), .int nnw, .int nsn, .int nwn, .ref aNl, .ref aNal, .ref aNlo, .int (nI nac), .ref aNw, .ref aNtr, .ref aNis, .ref aNbg, .ref aNow])), (aNf, .inl (g.2.1 0, 8, .inl (nIf (fnF (updN fi 5 (fi 5 + 1)))))), (aNbo, .inl (g.2.1 0, 4, .inl nbo)), (aNsz, .inl (g.2.1 0, 4, .inl (nIf nsz)))]) dX9_copy_43 ml_X9_88 mX9_finds (ct_finds_5 κ.2.1 g aN aNs aNk aNf aNr aNp aNb aNa aNt aNbo aNsz aNnu aNl aNal aNlo aNw aNtr aNis aNbg aNow nts nta nop npr nac nkp nbd ntp nnw nsn nwn fi) [0, 1] rfl rfl 0 rfl rfl rfl (Nat.le_of_ble_eq_true rfl) (by decide) (Nat.le_refl _) (Nat.le_refl _) (rfl : [aN, aNf] = [aN, aNf]) rfl ?_
  rw [← hQ]
  refine x_iret dX9_copy_46 rfl (Nat.le_of_ble_eq_true rfl) (Nat.le_of_ble_eq_true rfl) ?_
  exact ⟨rfl, rfl⟩

-- == ncopy_m2 ==
set_option maxRecDepth 100000 in
set_option maxHeartbeats 4000000 in
theorem ct_ncopy_m2 (l : Launch) (g : XG) (aN aNs aNk aNf aNr aNp aNb aNa aNt aNbo aNsz aNnu aNl aNal aNlo aNw aNtr aNis aNbg aNow nts nta nop npr nac : Nat) (nkp nbd ntp nnw nsn nwn : Int32) (fi : Nat → Nat) (nbo : Nat → Int32) (nsz : Nat → Nat) (f to n : Int32) (s t b : Nat) (hs4 : s < 4) (ht4 : t < 4) (hb1 : nbo s = nI b ∧ b < 2 ^ 31) (hm : nbo t = -1) : Ct l g 34 0 0 yX9_copy cX9_copy 10 (some .int) [.ref aN, .int (nI s), .int f, .int (nI t), .int to, .int n] [(aN, .inr (9, [.ref aNs, .ref aNk, .int nkp, .ref aNf, .ref aNr, .ref aNp, .ref aNb, .ref aNa, .ref aNt, .int (nI nts), .ref aNbo, .ref aNsz, .ref aNnu, .int (nI nta), .int (nI nop), .int nbd, .int ntp, .int (nI npr), .int nnw, .int nsn, .int nwn, .ref aNl, .ref aNal, .ref aNlo, .int (nI nac), .ref aNw, .ref aNtr, .ref aNis, .ref aNbg, .ref aNow])), (aNf, .inl (g.2.1 0, 8, .inl (nIf (fnF fi)))), (aNbo, .inl (g.2.1 0, 4, .inl nbo)), (aNsz, .inl (g.2.1 0, 4, .inl (nIf nsz)))] (xpi (fndI 5) [(aN, .inr (9, [.ref aNs, .ref aNk, .int nkp, .ref aNf, .ref aNr, .ref aNp, .ref aNb, .ref aNa, .ref aNt, .int (nI nts), .ref aNbo, .ref aNsz, .ref aNnu, .int (nI nta), .int (nI nop), .int nbd, .int ntp, .int (nI npr), .int nnw, .int nsn, .int nwn, .ref aNl, .ref aNal, .ref aNlo, .int (nI nac), .ref aNw, .ref aNtr, .ref aNis, .ref aNbg, .ref aNow])), (aNf, .inl (g.2.1 0, 8, .inl (nIf (fnF (updN fi 5 (fi 5 + 1)))))), (aNbo, .inl (g.2.1 0, 4, .inl nbo)), (aNsz, .inl (g.2.1 0, 4, .inl (nIf nsz)))]) := by
  refine Ct.ofX (lv := [some (.ref aN), some (.int (nI s)), some (.int f), some (.int (nI t)), some (.int to), some (.int n), none, none, none, none]) (by decide) rfl (Nat.le_of_ble_eq_true rfl) (fun κ => ?_)
  generalize hQ : xQ κ g 0 0 _ = Q
  refine x_iload_n dX9_copy_0 rfl ?_
  refine x_cSi dX9_copy_1 ml_X9_258 mX9_isSheet (ct_nSheet_n κ.2.1 g s (hs4)) rfl (Nat.le_of_ble_eq_true rfl) (by decide) (Nat.le_refl _) (Nat.le_refl _) ?_
  refine x_if_eq dX9_copy_4 (fun c4 => ?_) (fun c4 => ?_)
  · exact absurd c4 (by decide)
  refine x_iload_n dX9_copy_7 rfl ?_
  refine x_cSi dX9_copy_8 ml_X9_258 mX9_isSheet (ct_nSheet_n κ.2.1 g t (ht4)) rfl (Nat.le_of_ble_eq_true rfl) (by decide) (Nat.le_refl _) (Nat.le_refl _) ?_
  refine x_if_ne dX9_copy_11 (fun c11 => ?_) (fun c11 => ?_)
  rotate_left
  · exact absurd c11 (by decide)
  refine x_aload_n dX9_copy_21 rfl ?_
  refine x_get dX9_copy_22 0 10 inX9 fl_X9_34 rfl rfl (by decide) rfl ?_
  refine x_iload_n dX9_copy_25 rfl ?_
  refine x_iald dX9_copy_26 2 s rfl (rfl) (by omega) (by decide) ?_
  refine x_rei (nI b) (hb1.1) ?_
  refine x_if_lt dX9_copy_27 (fun c27 => ?_) (fun c27 => ?_)
  · have c27 : (nI b) < 0 := c27
    have c27n := (nI_ltI (a := b) (b := 0) (by omega) (by omega)).mp c27
    exact absurd c27n (by omega)
  · have c27 : ¬ ((nI b) < 0) := c27
    have c27n := mt (nI_ltI (a := b) (b := 0) (by omega) (by omega)).mpr c27
    refine x_aload_n dX9_copy_30 rfl ?_
    refine x_get dX9_copy_31 0 10 inX9 fl_X9_34 rfl rfl (by decide) rfl ?_
    refine x_iload_n dX9_copy_34 rfl ?_
    refine x_iald dX9_copy_35 2 t rfl (rfl) (by omega) (by decide) ?_
    refine x_rei ((-1)) (hm) ?_
    refine x_if_ge dX9_copy_36 (fun c36 => ?_) (fun c36 => ?_)
    · exact absurd c36 (by decide)
    refine x_aload_n dX9_copy_39 rfl ?_
    refine x_ldcw dX9_copy_40 k_X9_262 ?_
    refine x_cVi (ws' := [(aN, .inr (9, [.ref aNs, .ref aNk, .int nkp, .ref aNf, .ref aNr, .ref aNp, .ref aNb, .ref aNa, .ref aNt, .int (nI nts), .ref aNbo, .ref aNsz, .ref aNnu, .int (nI nta), .int (nI nop), .int nbd, .int ntp, .int (nI npr), .int nnw, .int nsn, .int nwn, .ref aNl, .ref aNal, .ref aNlo, .int (nI nac), .ref aNw, .ref aNtr, .ref aNis, .ref aNbg, .ref aNow])), (aNf, .inl (g.2.1 0, 8, .inl (nIf (fnF (updN fi 5 (fi 5 + 1)))))), (aNbo, .inl (g.2.1 0, 4, .inl nbo)), (aNsz, .inl (g.2.1 0, 4, .inl (nIf nsz)))]) dX9_copy_43 ml_X9_88 mX9_finds (ct_finds_5 κ.2.1 g aN aNs aNk aNf aNr aNp aNb aNa aNt aNbo aNsz aNnu aNl aNal aNlo aNw aNtr aNis aNbg aNow nts nta nop npr nac nkp nbd ntp nnw nsn nwn fi) [0, 1] rfl rfl 0 rfl rfl rfl (Nat.le_of_ble_eq_true rfl) (by decide) (Nat.le_refl _) (Nat.le_refl _) (rfl : [aN, aNf] = [aN, aNf]) rfl ?_
    rw [← hQ]
    refine x_iret dX9_copy_46 rfl (Nat.le_of_ble_eq_true rfl) (Nat.le_of_ble_eq_true rfl) ?_
    exact ⟨rfl, rfl⟩

-- == ncopy_k ==
set_option maxRecDepth 100000 in
set_option maxHeartbeats 4000000 in
theorem ct_ncopy_k (l : Launch) (g : XG) (aN aNs aNk aNf aNr aNp aNb aNa aNt aNbo aNsz aNnu aNl aNal aNlo aNw aNtr aNis aNbg aNow nts nta nop npr nac : Nat) (nkp nbd ntp nnw nsn nwn : Int32) (fi : Nat → Nat) (nbo : Nat → Int32) (nsz : Nat → Nat) (f to n : Int32) (s t b b2 : Nat) (hs4 : s < 4) (ht4 : t < 4) (hb1 : nbo s = nI b ∧ b < 2 ^ 31) (hb2 : nbo t = nI b2 ∧ b2 < 2 ^ 31) (hk : ¬ b = b2) : Ct l g 34 0 0 yX9_copy cX9_copy 10 (some .int) [.ref aN, .int (nI s), .int f, .int (nI t), .int to, .int n] [(aN, .inr (9, [.ref aNs, .ref aNk, .int nkp, .ref aNf, .ref aNr, .ref aNp, .ref aNb, .ref aNa, .ref aNt, .int (nI nts), .ref aNbo, .ref aNsz, .ref aNnu, .int (nI nta), .int (nI nop), .int nbd, .int ntp, .int (nI npr), .int nnw, .int nsn, .int nwn, .ref aNl, .ref aNal, .ref aNlo, .int (nI nac), .ref aNw, .ref aNtr, .ref aNis, .ref aNbg, .ref aNow])), (aNf, .inl (g.2.1 0, 8, .inl (nIf (fnF fi)))), (aNbo, .inl (g.2.1 0, 4, .inl nbo)), (aNsz, .inl (g.2.1 0, 4, .inl (nIf nsz)))] (xpi (fndI 2) [(aN, .inr (9, [.ref aNs, .ref aNk, .int nkp, .ref aNf, .ref aNr, .ref aNp, .ref aNb, .ref aNa, .ref aNt, .int (nI nts), .ref aNbo, .ref aNsz, .ref aNnu, .int (nI nta), .int (nI nop), .int nbd, .int ntp, .int (nI npr), .int nnw, .int nsn, .int nwn, .ref aNl, .ref aNal, .ref aNlo, .int (nI nac), .ref aNw, .ref aNtr, .ref aNis, .ref aNbg, .ref aNow])), (aNf, .inl (g.2.1 0, 8, .inl (nIf (fnF (updN fi 2 (fi 2 + 1)))))), (aNbo, .inl (g.2.1 0, 4, .inl nbo)), (aNsz, .inl (g.2.1 0, 4, .inl (nIf nsz)))]) := by
  refine Ct.ofX (lv := [some (.ref aN), some (.int (nI s)), some (.int f), some (.int (nI t)), some (.int to), some (.int n), none, none, none, none]) (by decide) rfl (Nat.le_of_ble_eq_true rfl) (fun κ => ?_)
  generalize hQ : xQ κ g 0 0 _ = Q
  refine x_iload_n dX9_copy_0 rfl ?_
  refine x_cSi dX9_copy_1 ml_X9_258 mX9_isSheet (ct_nSheet_n κ.2.1 g s (hs4)) rfl (Nat.le_of_ble_eq_true rfl) (by decide) (Nat.le_refl _) (Nat.le_refl _) ?_
  refine x_if_eq dX9_copy_4 (fun c4 => ?_) (fun c4 => ?_)
  · exact absurd c4 (by decide)
  refine x_iload_n dX9_copy_7 rfl ?_
  refine x_cSi dX9_copy_8 ml_X9_258 mX9_isSheet (ct_nSheet_n κ.2.1 g t (ht4)) rfl (Nat.le_of_ble_eq_true rfl) (by decide) (Nat.le_refl _) (Nat.le_refl _) ?_
  refine x_if_ne dX9_copy_11 (fun c11 => ?_) (fun c11 => ?_)
  rotate_left
  · exact absurd c11 (by decide)
  refine x_aload_n dX9_copy_21 rfl ?_
  refine x_get dX9_copy_22 0 10 inX9 fl_X9_34 rfl rfl (by decide) rfl ?_
  refine x_iload_n dX9_copy_25 rfl ?_
  refine x_iald dX9_copy_26 2 s rfl (rfl) (by omega) (by decide) ?_
  refine x_rei (nI b) (hb1.1) ?_
  refine x_if_lt dX9_copy_27 (fun c27 => ?_) (fun c27 => ?_)
  · have c27 : (nI b) < 0 := c27
    have c27n := (nI_ltI (a := b) (b := 0) (by omega) (by omega)).mp c27
    exact absurd c27n (by omega)
  · have c27 : ¬ ((nI b) < 0) := c27
    have c27n := mt (nI_ltI (a := b) (b := 0) (by omega) (by omega)).mpr c27
    refine x_aload_n dX9_copy_30 rfl ?_
    refine x_get dX9_copy_31 0 10 inX9 fl_X9_34 rfl rfl (by decide) rfl ?_
    refine x_iload_n dX9_copy_34 rfl ?_
    refine x_iald dX9_copy_35 2 t rfl (rfl) (by omega) (by decide) ?_
    refine x_rei (nI b2) (hb2.1) ?_
    refine x_if_ge dX9_copy_36 (fun c36 => ?_) (fun c36 => ?_)
    · have c36 : 0 ≤ (nI b2) := c36
      have c36n := (nI_leI (a := 0) (b := b2) (by omega) (by omega)).mp c36
      refine x_aload_n dX9_copy_47 rfl ?_
      refine x_get dX9_copy_48 0 10 inX9 fl_X9_34 rfl rfl (by decide) rfl ?_
      refine x_iload_n dX9_copy_51 rfl ?_
      refine x_iald dX9_copy_52 2 s rfl (rfl) (by omega) (by decide) ?_
      refine x_rei (nI b) (hb1.1) ?_
      refine x_aload_n dX9_copy_53 rfl ?_
      refine x_get dX9_copy_54 0 10 inX9 fl_X9_34 rfl rfl (by decide) rfl ?_
      refine x_iload_n dX9_copy_57 rfl ?_
      refine x_iald dX9_copy_58 2 t rfl (rfl) (by omega) (by decide) ?_
      refine x_rei (nI b2) (hb2.1) ?_
      refine x_icmp_eq dX9_copy_59 (fun c59 => ?_) (fun c59 => ?_)
      · have c59 : (nI b) = (nI b2) := c59
        have c59n := (nI_eq (a := b) (b := b2) (by omega) (by omega)).mp c59
        exact absurd c59n hk
      · have c59 : ¬ ((nI b) = (nI b2)) := c59
        have c59n := mt (nI_eq (a := b) (b := b2) (by omega) (by omega)).mpr c59
        refine x_aload_n dX9_copy_62 rfl ?_
        refine x_ldc dX9_copy_63 k_X9_111 ?_
        refine x_cVi (ws' := [(aN, .inr (9, [.ref aNs, .ref aNk, .int nkp, .ref aNf, .ref aNr, .ref aNp, .ref aNb, .ref aNa, .ref aNt, .int (nI nts), .ref aNbo, .ref aNsz, .ref aNnu, .int (nI nta), .int (nI nop), .int nbd, .int ntp, .int (nI npr), .int nnw, .int nsn, .int nwn, .ref aNl, .ref aNal, .ref aNlo, .int (nI nac), .ref aNw, .ref aNtr, .ref aNis, .ref aNbg, .ref aNow])), (aNf, .inl (g.2.1 0, 8, .inl (nIf (fnF (updN fi 2 (fi 2 + 1)))))), (aNbo, .inl (g.2.1 0, 4, .inl nbo)), (aNsz, .inl (g.2.1 0, 4, .inl (nIf nsz)))]) dX9_copy_65 ml_X9_88 mX9_finds (ct_finds_2 κ.2.1 g aN aNs aNk aNf aNr aNp aNb aNa aNt aNbo aNsz aNnu aNl aNal aNlo aNw aNtr aNis aNbg aNow nts nta nop npr nac nkp nbd ntp nnw nsn nwn fi) [0, 1] rfl rfl 0 rfl rfl rfl (Nat.le_of_ble_eq_true rfl) (by decide) (Nat.le_refl _) (Nat.le_refl _) (rfl : [aN, aNf] = [aN, aNf]) rfl ?_
        rw [← hQ]
        refine x_iret dX9_copy_68 rfl (Nat.le_of_ble_eq_true rfl) (Nat.le_of_ble_eq_true rfl) ?_
        exact ⟨rfl, rfl⟩
    · have c36 : ¬ (0 ≤ (nI b2)) := c36
      have c36n := mt (nI_leI (a := 0) (b := b2) (by omega) (by omega)).mpr c36
      exact absurd c36n (by omega)

-- == ncopy_c ==
set_option maxRecDepth 100000 in
set_option maxHeartbeats 4000000 in
theorem ct_ncopy_c (l : Launch) (g : XG) (aN aNs aNk aNf aNr aNp aNb aNa aNt aNbo aNsz aNnu aNl aNal aNlo aNw aNtr aNis aNbg aNow nts nta nop npr nac : Nat) (nkp nbd ntp nnw nsn nwn : Int32) (fi : Nat → Nat) (nbo : Nat → Int32) (nsz : Nat → Nat) (f to n : Int32) (s t b b2 : Nat) (hs4 : s < 4) (ht4 : t < 4) (hb1 : nbo s = nI b ∧ b < 2 ^ 31) (hb2 : nbo t = nI b2 ∧ b2 < 2 ^ 31) (hk : b = b2) (hz : nsz s ≤ 40 ∧ nsz t ≤ 40) (hb : hdI (nsz s) f n = 0 ∨ hdI (nsz t) to n = 0) : Ct l g 34 0 0 yX9_copy cX9_copy 10 (some .int) [.ref aN, .int (nI s), .int f, .int (nI t), .int to, .int n] [(aN, .inr (9, [.ref aNs, .ref aNk, .int nkp, .ref aNf, .ref aNr, .ref aNp, .ref aNb, .ref aNa, .ref aNt, .int (nI nts), .ref aNbo, .ref aNsz, .ref aNnu, .int (nI nta), .int (nI nop), .int nbd, .int ntp, .int (nI npr), .int nnw, .int nsn, .int nwn, .ref aNl, .ref aNal, .ref aNlo, .int (nI nac), .ref aNw, .ref aNtr, .ref aNis, .ref aNbg, .ref aNow])), (aNf, .inl (g.2.1 0, 8, .inl (nIf (fnF fi)))), (aNbo, .inl (g.2.1 0, 4, .inl nbo)), (aNsz, .inl (g.2.1 0, 4, .inl (nIf nsz)))] (xpi (fndI 0) [(aN, .inr (9, [.ref aNs, .ref aNk, .int nkp, .ref aNf, .ref aNr, .ref aNp, .ref aNb, .ref aNa, .ref aNt, .int (nI nts), .ref aNbo, .ref aNsz, .ref aNnu, .int (nI nta), .int (nI nop), .int nbd, .int ntp, .int (nI npr), .int nnw, .int nsn, .int nwn, .ref aNl, .ref aNal, .ref aNlo, .int (nI nac), .ref aNw, .ref aNtr, .ref aNis, .ref aNbg, .ref aNow])), (aNf, .inl (g.2.1 0, 8, .inl (nIf (fnF (updN fi 0 (fi 0 + 1)))))), (aNbo, .inl (g.2.1 0, 4, .inl nbo)), (aNsz, .inl (g.2.1 0, 4, .inl (nIf nsz)))]) := by
  refine Ct.ofX (lv := [some (.ref aN), some (.int (nI s)), some (.int f), some (.int (nI t)), some (.int to), some (.int n), none, none, none, none]) (by decide) rfl (Nat.le_of_ble_eq_true rfl) (fun κ => ?_)
  generalize hQ : xQ κ g 0 0 _ = Q
  refine x_iload_n dX9_copy_0 rfl ?_
  refine x_cSi dX9_copy_1 ml_X9_258 mX9_isSheet (ct_nSheet_n κ.2.1 g s (hs4)) rfl (Nat.le_of_ble_eq_true rfl) (by decide) (Nat.le_refl _) (Nat.le_refl _) ?_
  refine x_if_eq dX9_copy_4 (fun c4 => ?_) (fun c4 => ?_)
  · exact absurd c4 (by decide)
  refine x_iload_n dX9_copy_7 rfl ?_
  refine x_cSi dX9_copy_8 ml_X9_258 mX9_isSheet (ct_nSheet_n κ.2.1 g t (ht4)) rfl (Nat.le_of_ble_eq_true rfl) (by decide) (Nat.le_refl _) (Nat.le_refl _) ?_
  refine x_if_ne dX9_copy_11 (fun c11 => ?_) (fun c11 => ?_)
  rotate_left
  · exact absurd c11 (by decide)
  refine x_aload_n dX9_copy_21 rfl ?_
  refine x_get dX9_copy_22 0 10 inX9 fl_X9_34 rfl rfl (by decide) rfl ?_
  refine x_iload_n dX9_copy_25 rfl ?_
  refine x_iald dX9_copy_26 2 s rfl (rfl) (by omega) (by decide) ?_
  refine x_rei (nI b) (hb1.1) ?_
  refine x_if_lt dX9_copy_27 (fun c27 => ?_) (fun c27 => ?_)
  · have c27 : (nI b) < 0 := c27
    have c27n := (nI_ltI (a := b) (b := 0) (by omega) (by omega)).mp c27
    exact absurd c27n (by omega)
  · have c27 : ¬ ((nI b) < 0) := c27
    have c27n := mt (nI_ltI (a := b) (b := 0) (by omega) (by omega)).mpr c27
    refine x_aload_n dX9_copy_30 rfl ?_
    refine x_get dX9_copy_31 0 10 inX9 fl_X9_34 rfl rfl (by decide) rfl ?_
    refine x_iload_n dX9_copy_34 rfl ?_
    refine x_iald dX9_copy_35 2 t rfl (rfl) (by omega) (by decide) ?_
    refine x_rei (nI b2) (hb2.1) ?_
    refine x_if_ge dX9_copy_36 (fun c36 => ?_) (fun c36 => ?_)
    · have c36 : 0 ≤ (nI b2) := c36
      have c36n := (nI_leI (a := 0) (b := b2) (by omega) (by omega)).mp c36
      refine x_aload_n dX9_copy_47 rfl ?_
      refine x_get dX9_copy_48 0 10 inX9 fl_X9_34 rfl rfl (by decide) rfl ?_
      refine x_iload_n dX9_copy_51 rfl ?_
      refine x_iald dX9_copy_52 2 s rfl (rfl) (by omega) (by decide) ?_
      refine x_rei (nI b) (hb1.1) ?_
      refine x_aload_n dX9_copy_53 rfl ?_
      refine x_get dX9_copy_54 0 10 inX9 fl_X9_34 rfl rfl (by decide) rfl ?_
      refine x_iload_n dX9_copy_57 rfl ?_
      refine x_iald dX9_copy_58 2 t rfl (rfl) (by omega) (by decide) ?_
      refine x_rei (nI b2) (hb2.1) ?_
      refine x_icmp_eq dX9_copy_59 (fun c59 => ?_) (fun c59 => ?_)
      · have c59 : (nI b) = (nI b2) := c59
        have c59n := (nI_eq (a := b) (b := b2) (by omega) (by omega)).mp c59
        refine x_iload_n dX9_copy_69 rfl ?_
        refine x_if_lt dX9_copy_70 (fun c70 => ?_) (fun c70 => ?_)
        · have c70 : f < 0 := c70
          refine x_aload_n dX9_copy_110 rfl ?_
          refine x_ldc dX9_copy_111 k_X9_87 ?_
          refine x_cVi (ws' := [(aN, .inr (9, [.ref aNs, .ref aNk, .int nkp, .ref aNf, .ref aNr, .ref aNp, .ref aNb, .ref aNa, .ref aNt, .int (nI nts), .ref aNbo, .ref aNsz, .ref aNnu, .int (nI nta), .int (nI nop), .int nbd, .int ntp, .int (nI npr), .int nnw, .int nsn, .int nwn, .ref aNl, .ref aNal, .ref aNlo, .int (nI nac), .ref aNw, .ref aNtr, .ref aNis, .ref aNbg, .ref aNow])), (aNf, .inl (g.2.1 0, 8, .inl (nIf (fnF (updN fi 0 (fi 0 + 1)))))), (aNbo, .inl (g.2.1 0, 4, .inl nbo)), (aNsz, .inl (g.2.1 0, 4, .inl (nIf nsz)))]) dX9_copy_113 ml_X9_88 mX9_finds (ct_finds_0 κ.2.1 g aN aNs aNk aNf aNr aNp aNb aNa aNt aNbo aNsz aNnu aNl aNal aNlo aNw aNtr aNis aNbg aNow nts nta nop npr nac nkp nbd ntp nnw nsn nwn fi) [0, 1] rfl rfl 0 rfl rfl rfl (Nat.le_of_ble_eq_true rfl) (by decide) (Nat.le_refl _) (Nat.le_refl _) (rfl : [aN, aNf] = [aN, aNf]) rfl ?_
          rw [← hQ]
          refine x_iret dX9_copy_116 rfl (Nat.le_of_ble_eq_true rfl) (Nat.le_of_ble_eq_true rfl) ?_
          exact ⟨rfl, rfl⟩
        · have c70 : ¬ (f < 0) := c70
          refine x_iload dX9_copy_73 rfl ?_
          refine x_if_lt dX9_copy_75 (fun c75 => ?_) (fun c75 => ?_)
          · have c75 : to < 0 := c75
            refine x_aload_n dX9_copy_110 rfl ?_
            refine x_ldc dX9_copy_111 k_X9_87 ?_
            refine x_cVi (ws' := [(aN, .inr (9, [.ref aNs, .ref aNk, .int nkp, .ref aNf, .ref aNr, .ref aNp, .ref aNb, .ref aNa, .ref aNt, .int (nI nts), .ref aNbo, .ref aNsz, .ref aNnu, .int (nI nta), .int (nI nop), .int nbd, .int ntp, .int (nI npr), .int nnw, .int nsn, .int nwn, .ref aNl, .ref aNal, .ref aNlo, .int (nI nac), .ref aNw, .ref aNtr, .ref aNis, .ref aNbg, .ref aNow])), (aNf, .inl (g.2.1 0, 8, .inl (nIf (fnF (updN fi 0 (fi 0 + 1)))))), (aNbo, .inl (g.2.1 0, 4, .inl nbo)), (aNsz, .inl (g.2.1 0, 4, .inl (nIf nsz)))]) dX9_copy_113 ml_X9_88 mX9_finds (ct_finds_0 κ.2.1 g aN aNs aNk aNf aNr aNp aNb aNa aNt aNbo aNsz aNnu aNl aNal aNlo aNw aNtr aNis aNbg aNow nts nta nop npr nac nkp nbd ntp nnw nsn nwn fi) [0, 1] rfl rfl 0 rfl rfl rfl (Nat.le_of_ble_eq_true rfl) (by decide) (Nat.le_refl _) (Nat.le_refl _) (rfl : [aN, aNf] = [aN, aNf]) rfl ?_
            rw [← hQ]
            refine x_iret dX9_copy_116 rfl (Nat.le_of_ble_eq_true rfl) (Nat.le_of_ble_eq_true rfl) ?_
            exact ⟨rfl, rfl⟩
          · have c75 : ¬ (to < 0) := c75
            refine x_iload dX9_copy_78 rfl ?_
            refine x_if_lt dX9_copy_80 (fun c80 => ?_) (fun c80 => ?_)
            · have c80 : n < 0 := c80
              refine x_aload_n dX9_copy_110 rfl ?_
              refine x_ldc dX9_copy_111 k_X9_87 ?_
              refine x_cVi (ws' := [(aN, .inr (9, [.ref aNs, .ref aNk, .int nkp, .ref aNf, .ref aNr, .ref aNp, .ref aNb, .ref aNa, .ref aNt, .int (nI nts), .ref aNbo, .ref aNsz, .ref aNnu, .int (nI nta), .int (nI nop), .int nbd, .int ntp, .int (nI npr), .int nnw, .int nsn, .int nwn, .ref aNl, .ref aNal, .ref aNlo, .int (nI nac), .ref aNw, .ref aNtr, .ref aNis, .ref aNbg, .ref aNow])), (aNf, .inl (g.2.1 0, 8, .inl (nIf (fnF (updN fi 0 (fi 0 + 1)))))), (aNbo, .inl (g.2.1 0, 4, .inl nbo)), (aNsz, .inl (g.2.1 0, 4, .inl (nIf nsz)))]) dX9_copy_113 ml_X9_88 mX9_finds (ct_finds_0 κ.2.1 g aN aNs aNk aNf aNr aNp aNb aNa aNt aNbo aNsz aNnu aNl aNal aNlo aNw aNtr aNis aNbg aNow nts nta nop npr nac nkp nbd ntp nnw nsn nwn fi) [0, 1] rfl rfl 0 rfl rfl rfl (Nat.le_of_ble_eq_true rfl) (by decide) (Nat.le_refl _) (Nat.le_refl _) (rfl : [aN, aNf] = [aN, aNf]) rfl ?_
              rw [← hQ]
              refine x_iret dX9_copy_116 rfl (Nat.le_of_ble_eq_true rfl) (Nat.le_of_ble_eq_true rfl) ?_
              exact ⟨rfl, rfl⟩
            · have c80 : ¬ (n < 0) := c80
              refine x_iload dX9_copy_83 rfl ?_
              refine x_aload_n dX9_copy_85 rfl ?_
              refine x_get dX9_copy_86 0 11 inX9 fl_X9_37 rfl rfl (by decide) rfl ?_
              refine x_iload_n dX9_copy_89 rfl ?_
              refine x_iald dX9_copy_90 3 s rfl (rfl) (by omega) (by decide) ?_
              refine x_iload_n dX9_copy_91 rfl ?_
              refine x_isub dX9_copy_92 ?_
              refine x_icmp_gt dX9_copy_93 (fun c93 => ?_) (fun c93 => ?_)
              · have c93 : ((nI (nsz s)) - f) < n := c93
                refine x_aload_n dX9_copy_110 rfl ?_
                refine x_ldc dX9_copy_111 k_X9_87 ?_
                refine x_cVi (ws' := [(aN, .inr (9, [.ref aNs, .ref aNk, .int nkp, .ref aNf, .ref aNr, .ref aNp, .ref aNb, .ref aNa, .ref aNt, .int (nI nts), .ref aNbo, .ref aNsz, .ref aNnu, .int (nI nta), .int (nI nop), .int nbd, .int ntp, .int (nI npr), .int nnw, .int nsn, .int nwn, .ref aNl, .ref aNal, .ref aNlo, .int (nI nac), .ref aNw, .ref aNtr, .ref aNis, .ref aNbg, .ref aNow])), (aNf, .inl (g.2.1 0, 8, .inl (nIf (fnF (updN fi 0 (fi 0 + 1)))))), (aNbo, .inl (g.2.1 0, 4, .inl nbo)), (aNsz, .inl (g.2.1 0, 4, .inl (nIf nsz)))]) dX9_copy_113 ml_X9_88 mX9_finds (ct_finds_0 κ.2.1 g aN aNs aNk aNf aNr aNp aNb aNa aNt aNbo aNsz aNnu aNl aNal aNlo aNw aNtr aNis aNbg aNow nts nta nop npr nac nkp nbd ntp nnw nsn nwn fi) [0, 1] rfl rfl 0 rfl rfl rfl (Nat.le_of_ble_eq_true rfl) (by decide) (Nat.le_refl _) (Nat.le_refl _) (rfl : [aN, aNf] = [aN, aNf]) rfl ?_
                rw [← hQ]
                refine x_iret dX9_copy_116 rfl (Nat.le_of_ble_eq_true rfl) (Nat.le_of_ble_eq_true rfl) ?_
                exact ⟨rfl, rfl⟩
              · have c93 : ¬ (((nI (nsz s)) - f) < n) := c93
                refine x_iload dX9_copy_96 rfl ?_
                refine x_aload_n dX9_copy_98 rfl ?_
                refine x_get dX9_copy_99 0 11 inX9 fl_X9_37 rfl rfl (by decide) rfl ?_
                refine x_iload_n dX9_copy_102 rfl ?_
                refine x_iald dX9_copy_103 3 t rfl (rfl) (by omega) (by decide) ?_
                refine x_iload dX9_copy_104 rfl ?_
                refine x_isub dX9_copy_106 ?_
                refine x_icmp_le dX9_copy_107 (fun c107 => ?_) (fun c107 => ?_)
                · have c107 : n ≤ ((nI (nsz t)) - to) := c107
                  exact hb.elim (fun h => absurd (hdI_no h hz.1 c70 c80) c93) (fun h => absurd c107 (fa_of_lt (hdI_no h hz.2 c75 c80)).2.1)
                · have c107 : ¬ (n ≤ ((nI (nsz t)) - to)) := c107
                  refine x_aload_n dX9_copy_110 rfl ?_
                  refine x_ldc dX9_copy_111 k_X9_87 ?_
                  refine x_cVi (ws' := [(aN, .inr (9, [.ref aNs, .ref aNk, .int nkp, .ref aNf, .ref aNr, .ref aNp, .ref aNb, .ref aNa, .ref aNt, .int (nI nts), .ref aNbo, .ref aNsz, .ref aNnu, .int (nI nta), .int (nI nop), .int nbd, .int ntp, .int (nI npr), .int nnw, .int nsn, .int nwn, .ref aNl, .ref aNal, .ref aNlo, .int (nI nac), .ref aNw, .ref aNtr, .ref aNis, .ref aNbg, .ref aNow])), (aNf, .inl (g.2.1 0, 8, .inl (nIf (fnF (updN fi 0 (fi 0 + 1)))))), (aNbo, .inl (g.2.1 0, 4, .inl nbo)), (aNsz, .inl (g.2.1 0, 4, .inl (nIf nsz)))]) dX9_copy_113 ml_X9_88 mX9_finds (ct_finds_0 κ.2.1 g aN aNs aNk aNf aNr aNp aNb aNa aNt aNbo aNsz aNnu aNl aNal aNlo aNw aNtr aNis aNbg aNow nts nta nop npr nac nkp nbd ntp nnw nsn nwn fi) [0, 1] rfl rfl 0 rfl rfl rfl (Nat.le_of_ble_eq_true rfl) (by decide) (Nat.le_refl _) (Nat.le_refl _) (rfl : [aN, aNf] = [aN, aNf]) rfl ?_
                  rw [← hQ]
                  refine x_iret dX9_copy_116 rfl (Nat.le_of_ble_eq_true rfl) (Nat.le_of_ble_eq_true rfl) ?_
                  exact ⟨rfl, rfl⟩
      · have c59 : ¬ ((nI b) = (nI b2)) := c59
        have c59n := mt (nI_eq (a := b) (b := b2) (by omega) (by omega)).mpr c59
        exact absurd hk c59n
    · have c36 : ¬ (0 ≤ (nI b2)) := c36
      have c36n := mt (nI_leI (a := 0) (b := b2) (by omega) (by omega)).mpr c36
      exact absurd c36n (by omega)

-- == ncopy_f ==
set_option maxRecDepth 100000 in
set_option maxHeartbeats 4000000 in
theorem ct_ncopy_f (l : Launch) (g : XG) (aN aNs aNk aNf aNr aNp aNb aNa aNt aNbo aNsz aNnu aNl aNal aNlo aNw aNtr aNis aNbg aNow nts nta nop npr nac : Nat) (nkp nbd ntp nnw nsn nwn : Int32) (fi : Nat → Nat) (nbo : Nat → Int32) (nsz : Nat → Nat) (nnu : Nat → Int64) (f to n s t b b2 : Nat) (hs4 : s < 4) (ht4 : t < 4) (hb1 : nbo s = nI b ∧ b < 2 ^ 31) (hb2 : nbo t = nI b2 ∧ b2 < 2 ^ 31) (hk : b = b2) (hz : nsz s ≤ 40 ∧ nsz t ≤ 40) (hnn : f + n ≤ nsz s ∧ to + n ≤ nsz t) (hab : ¬ 40 * s + f < 40 * t + to) : Ct l g 34 0 0 yX9_copy cX9_copy 10 (some .int) [.ref aN, .int (nI s), .int (nI f), .int (nI t), .int (nI to), .int (nI n)] [(aN, .inr (9, [.ref aNs, .ref aNk, .int nkp, .ref aNf, .ref aNr, .ref aNp, .ref aNb, .ref aNa, .ref aNt, .int (nI nts), .ref aNbo, .ref aNsz, .ref aNnu, .int (nI nta), .int (nI nop), .int nbd, .int ntp, .int (nI npr), .int nnw, .int nsn, .int nwn, .ref aNl, .ref aNal, .ref aNlo, .int (nI nac), .ref aNw, .ref aNtr, .ref aNis, .ref aNbg, .ref aNow])), (aNf, .inl (g.2.1 0, 8, .inl (nIf (fnF fi)))), (aNbo, .inl (g.2.1 0, 4, .inl nbo)), (aNsz, .inl (g.2.1 0, 4, .inl (nIf nsz))), (aNnu, .inl (g.2.1 2, 160, .inr (.inl nnu)))] (xpi (nI (n)) [(aN, .inr (9, [.ref aNs, .ref aNk, .int nkp, .ref aNf, .ref aNr, .ref aNp, .ref aNb, .ref aNa, .ref aNt, .int (nI nts), .ref aNbo, .ref aNsz, .ref aNnu, .int (nI nta), .int (nI nop), .int nbd, .int ntp, .int (nI npr), .int nnw, .int nsn, .int nwn, .ref aNl, .ref aNal, .ref aNlo, .int (nI nac), .ref aNw, .ref aNtr, .ref aNis, .ref aNbg, .ref aNow])), (aNf, .inl (g.2.1 0, 8, .inl (nIf (fnF fi)))), (aNbo, .inl (g.2.1 0, 4, .inl nbo)), (aNsz, .inl (g.2.1 0, 4, .inl (nIf nsz))), (aNnu, .inl (g.2.1 2, 160, .inr (.inl (cpR nnu (40 * s + f) (40 * t + to) n))))]) := by
  refine Ct.ofX (lv := [some (.ref aN), some (.int (nI s)), some (.int (nI f)), some (.int (nI t)), some (.int (nI to)), some (.int (nI n)), none, none, none, none]) (by decide) rfl (Nat.le_of_ble_eq_true rfl) (fun κ => ?_)
  generalize hQ : xQ κ g 0 0 _ = Q
  refine x_iload_n dX9_copy_0 rfl ?_
  refine x_cSi dX9_copy_1 ml_X9_258 mX9_isSheet (ct_nSheet_n κ.2.1 g s (hs4)) rfl (Nat.le_of_ble_eq_true rfl) (by decide) (Nat.le_refl _) (Nat.le_refl _) ?_
  refine x_if_eq dX9_copy_4 (fun c4 => ?_) (fun c4 => ?_)
  · exact absurd c4 (by decide)
  refine x_iload_n dX9_copy_7 rfl ?_
  refine x_cSi dX9_copy_8 ml_X9_258 mX9_isSheet (ct_nSheet_n κ.2.1 g t (ht4)) rfl (Nat.le_of_ble_eq_true rfl) (by decide) (Nat.le_refl _) (Nat.le_refl _) ?_
  refine x_if_ne dX9_copy_11 (fun c11 => ?_) (fun c11 => ?_)
  rotate_left
  · exact absurd c11 (by decide)
  refine x_aload_n dX9_copy_21 rfl ?_
  refine x_get dX9_copy_22 0 10 inX9 fl_X9_34 rfl rfl (by decide) rfl ?_
  refine x_iload_n dX9_copy_25 rfl ?_
  refine x_iald dX9_copy_26 2 s rfl (rfl) (by omega) (by decide) ?_
  refine x_rei (nI b) (hb1.1) ?_
  refine x_if_lt dX9_copy_27 (fun c27 => ?_) (fun c27 => ?_)
  · have c27 : (nI b) < 0 := c27
    have c27n := (nI_ltI (a := b) (b := 0) (by omega) (by omega)).mp c27
    exact absurd c27n (by omega)
  · have c27 : ¬ ((nI b) < 0) := c27
    have c27n := mt (nI_ltI (a := b) (b := 0) (by omega) (by omega)).mpr c27
    refine x_aload_n dX9_copy_30 rfl ?_
    refine x_get dX9_copy_31 0 10 inX9 fl_X9_34 rfl rfl (by decide) rfl ?_
    refine x_iload_n dX9_copy_34 rfl ?_
    refine x_iald dX9_copy_35 2 t rfl (rfl) (by omega) (by decide) ?_
    refine x_rei (nI b2) (hb2.1) ?_
    refine x_if_ge dX9_copy_36 (fun c36 => ?_) (fun c36 => ?_)
    · have c36 : 0 ≤ (nI b2) := c36
      have c36n := (nI_leI (a := 0) (b := b2) (by omega) (by omega)).mp c36
      refine x_aload_n dX9_copy_47 rfl ?_
      refine x_get dX9_copy_48 0 10 inX9 fl_X9_34 rfl rfl (by decide) rfl ?_
      refine x_iload_n dX9_copy_51 rfl ?_
      refine x_iald dX9_copy_52 2 s rfl (rfl) (by omega) (by decide) ?_
      refine x_rei (nI b) (hb1.1) ?_
      refine x_aload_n dX9_copy_53 rfl ?_
      refine x_get dX9_copy_54 0 10 inX9 fl_X9_34 rfl rfl (by decide) rfl ?_
      refine x_iload_n dX9_copy_57 rfl ?_
      refine x_iald dX9_copy_58 2 t rfl (rfl) (by omega) (by decide) ?_
      refine x_rei (nI b2) (hb2.1) ?_
      refine x_icmp_eq dX9_copy_59 (fun c59 => ?_) (fun c59 => ?_)
      · have c59 : (nI b) = (nI b2) := c59
        have c59n := (nI_eq (a := b) (b := b2) (by omega) (by omega)).mp c59
        refine x_iload_n dX9_copy_69 rfl ?_
        refine x_if_lt dX9_copy_70 (fun c70 => ?_) (fun c70 => ?_)
        · have c70 : (nI f) < 0 := c70
          have c70n := (nI_ltI (a := f) (b := 0) (by omega) (by omega)).mp c70
          exact absurd c70n (by omega)
        · have c70 : ¬ ((nI f) < 0) := c70
          have c70n := mt (nI_ltI (a := f) (b := 0) (by omega) (by omega)).mpr c70
          refine x_iload dX9_copy_73 rfl ?_
          refine x_if_lt dX9_copy_75 (fun c75 => ?_) (fun c75 => ?_)
          · have c75 : (nI to) < 0 := c75
            have c75n := (nI_ltI (a := to) (b := 0) (by omega) (by omega)).mp c75
            exact absurd c75n (by omega)
          · have c75 : ¬ ((nI to) < 0) := c75
            have c75n := mt (nI_ltI (a := to) (b := 0) (by omega) (by omega)).mpr c75
            refine x_iload dX9_copy_78 rfl ?_
            refine x_if_lt dX9_copy_80 (fun c80 => ?_) (fun c80 => ?_)
            · have c80 : (nI n) < 0 := c80
              have c80n := (nI_ltI (a := n) (b := 0) (by omega) (by omega)).mp c80
              exact absurd c80n (by omega)
            · have c80 : ¬ ((nI n) < 0) := c80
              have c80n := mt (nI_ltI (a := n) (b := 0) (by omega) (by omega)).mpr c80
              refine x_iload dX9_copy_83 rfl ?_
              refine x_aload_n dX9_copy_85 rfl ?_
              refine x_get dX9_copy_86 0 11 inX9 fl_X9_37 rfl rfl (by decide) rfl ?_
              refine x_iload_n dX9_copy_89 rfl ?_
              refine x_iald dX9_copy_90 3 s rfl (rfl) (by omega) (by decide) ?_
              refine x_iload_n dX9_copy_91 rfl ?_
              refine x_isub dX9_copy_92 ?_
              refine x_rei (nI ((nsz s) - f)) (nI_isub (nsz s) f (by omega)) ?_
              refine x_icmp_gt dX9_copy_93 (fun c93 => ?_) (fun c93 => ?_)
              · have c93 : (nI ((nsz s) - f)) < (nI n) := c93
                have c93n := (nI_ltI (a := ((nsz s) - f)) (b := n) (by omega) (by omega)).mp c93
                exact absurd c93n (by omega)
              · have c93 : ¬ ((nI ((nsz s) - f)) < (nI n)) := c93
                have c93n := mt (nI_ltI (a := ((nsz s) - f)) (b := n) (by omega) (by omega)).mpr c93
                refine x_iload dX9_copy_96 rfl ?_
                refine x_aload_n dX9_copy_98 rfl ?_
                refine x_get dX9_copy_99 0 11 inX9 fl_X9_37 rfl rfl (by decide) rfl ?_
                refine x_iload_n dX9_copy_102 rfl ?_
                refine x_iald dX9_copy_103 3 t rfl (rfl) (by omega) (by decide) ?_
                refine x_iload dX9_copy_104 rfl ?_
                refine x_isub dX9_copy_106 ?_
                refine x_rei (nI ((nsz t) - to)) (nI_isub (nsz t) to (by omega)) ?_
                refine x_icmp_le dX9_copy_107 (fun c107 => ?_) (fun c107 => ?_)
                · have c107 : (nI n) ≤ (nI ((nsz t) - to)) := c107
                  have c107n := (nI_leI (a := n) (b := ((nsz t) - to)) (by omega) (by omega)).mp c107
                  refine x_bipush 40 dX9_copy_117 (by decide) ?_
                  refine x_iload_n dX9_copy_119 rfl ?_
                  refine x_imul dX9_copy_120 ?_
                  refine x_rei (nI (40 * s)) (nI_imul 40 s) ?_
                  refine x_iload_n dX9_copy_121 rfl ?_
                  refine x_iadd dX9_copy_122 ?_
                  refine x_rei (nI ((40 * s) + f)) (nI_iadd (40 * s) f) ?_
                  refine x_istore (lv' := [some (.ref aN), some (.int (nI s)), some (.int (nI f)), some (.int (nI t)), some (.int (nI to)), some (.int (nI n)), some (.int (nI ((40 * s) + f))), none, none, none]) dX9_copy_123 (xlt rfl) rfl ?_
                  refine x_bipush 40 dX9_copy_125 (by decide) ?_
                  refine x_iload_n dX9_copy_127 rfl ?_
                  refine x_imul dX9_copy_128 ?_
                  refine x_rei (nI (40 * t)) (nI_imul 40 t) ?_
                  refine x_iload dX9_copy_129 rfl ?_
                  refine x_iadd dX9_copy_131 ?_
                  refine x_rei (nI ((40 * t) + to)) (nI_iadd (40 * t) to) ?_
                  refine x_istore (lv' := [some (.ref aN), some (.int (nI s)), some (.int (nI f)), some (.int (nI t)), some (.int (nI to)), some (.int (nI n)), some (.int (nI ((40 * s) + f))), some (.int (nI ((40 * t) + to))), none, none]) dX9_copy_132 (xlt rfl) rfl ?_
                  refine x_iconst 0 dX9_copy_134 (by decide) ?_
                  refine x_istore (lv' := [some (.ref aN), some (.int (nI s)), some (.int (nI f)), some (.int (nI t)), some (.int (nI to)), some (.int (nI n)), some (.int (nI ((40 * s) + f))), some (.int (nI ((40 * t) + to))), some (.int 0), none]) dX9_copy_135 (xlt rfl) rfl ?_
                  have L137_1 : ∀ (k : Nat), k ≤ n → ∀ (nf : Nat → Int64), nf = cpR nnu (40 * s + f) (40 * t + to) k → Xs κ g 34 0 0 cX9_copy yX9_copy (some .int) Q 0 0 137 [some (.ref aN), some (.int (nI s)), some (.int (nI f)), some (.int (nI t)), some (.int (nI to)), some (.int (nI n)), some (.int (nI ((40 * s) + f))), some (.int (nI ((40 * t) + to))), some (.int (nI k)), none] [] [(aN, .inr (9, [.ref aNs, .ref aNk, .int nkp, .ref aNf, .ref aNr, .ref aNp, .ref aNb, .ref aNa, .ref aNt, .int (nI nts), .ref aNbo, .ref aNsz, .ref aNnu, .int (nI nta), .int (nI nop), .int nbd, .int ntp, .int (nI npr), .int nnw, .int nsn, .int nwn, .ref aNl, .ref aNal, .ref aNlo, .int (nI nac), .ref aNw, .ref aNtr, .ref aNis, .ref aNbg, .ref aNow])), (aNf, .inl (g.2.1 0, 8, .inl (nIf (fnF fi)))), (aNbo, .inl (g.2.1 0, 4, .inl nbo)), (aNsz, .inl (g.2.1 0, 4, .inl (nIf nsz))), (aNnu, .inl (g.2.1 2, 160, .inr (.inl nf)))] := by
                    refine upTo n (fun k hi137 ih137 => ?_)
                    intro nf enf
                    subst enf
                    refine x_iload dX9_copy_137 rfl ?_
                    refine x_iload dX9_copy_139 rfl ?_
                    refine x_icmp_ge dX9_copy_141 (fun c141 => ?_) (fun c141 => ?_)
                    · have c141 : (nI n) ≤ (nI k) := c141
                      have c141n := (nI_leI (a := n) (b := k) (by omega) (by omega)).mp c141
                      have hxc141 : k = n := by omega
                      try rw [hxc141]
                      refine x_iload dX9_copy_191 rfl ?_
                      rw [← hQ]
                      refine x_iret dX9_copy_193 rfl (Nat.le_of_ble_eq_true rfl) (Nat.le_of_ble_eq_true rfl) ?_
                      exact ⟨rfl, rfl⟩
                    · have c141 : ¬ ((nI n) ≤ (nI k)) := c141
                      have c141n := mt (nI_leI (a := n) (b := k) (by omega) (by omega)).mpr c141
                      refine x_iload dX9_copy_144 rfl ?_
                      refine x_iload dX9_copy_146 rfl ?_
                      refine x_icmp_ge dX9_copy_148 (fun c148 => ?_) (fun c148 => ?_)
                      · have c148 : (nI ((40 * t) + to)) ≤ (nI ((40 * s) + f)) := c148
                        have c148n := (nI_leI (a := ((40 * t) + to)) (b := ((40 * s) + f)) (by omega) (by omega)).mp c148
                        refine x_iload dX9_copy_161 rfl ?_
                        refine x_istore (lv' := [some (.ref aN), some (.int (nI s)), some (.int (nI f)), some (.int (nI t)), some (.int (nI to)), some (.int (nI n)), some (.int (nI ((40 * s) + f))), some (.int (nI ((40 * t) + to))), some (.int (nI k)), some (.int (nI k))]) dX9_copy_163 (xlt rfl) rfl ?_
                        refine x_aload_n dX9_copy_165 rfl ?_
                        refine x_get dX9_copy_166 0 12 inX9 fl_X9_40 rfl rfl (by decide) rfl ?_
                        refine x_iload dX9_copy_169 rfl ?_
                        refine x_iload dX9_copy_171 rfl ?_
                        refine x_iadd dX9_copy_173 ?_
                        refine x_rei (nI (((40 * t) + to) + k)) (nI_iadd ((40 * t) + to) k) ?_
                        refine x_aload_n dX9_copy_174 rfl ?_
                        refine x_get dX9_copy_175 0 12 inX9 fl_X9_40 rfl rfl (by decide) rfl ?_
                        refine x_iload dX9_copy_178 rfl ?_
                        refine x_iload dX9_copy_180 rfl ?_
                        refine x_iadd dX9_copy_182 ?_
                        refine x_rei (nI (((40 * s) + f) + k)) (nI_iadd ((40 * s) + f) k) ?_
                        refine x_lald dX9_copy_183 4 (((40 * s) + f) + k) rfl (rfl) (by omega) (by decide) ?_
                        refine x_last (ws' := [(aN, .inr (9, [.ref aNs, .ref aNk, .int nkp, .ref aNf, .ref aNr, .ref aNp, .ref aNb, .ref aNa, .ref aNt, .int (nI nts), .ref aNbo, .ref aNsz, .ref aNnu, .int (nI nta), .int (nI nop), .int nbd, .int ntp, .int (nI npr), .int nnw, .int nsn, .int nwn, .ref aNl, .ref aNal, .ref aNlo, .int (nI nac), .ref aNw, .ref aNtr, .ref aNis, .ref aNbg, .ref aNow])), (aNf, .inl (g.2.1 0, 8, .inl (nIf (fnF fi)))), (aNbo, .inl (g.2.1 0, 4, .inl nbo)), (aNsz, .inl (g.2.1 0, 4, .inl (nIf nsz))), (aNnu, .inl (g.2.1 2, 160, .inr (.inl (vp_updL (cpR nnu (40 * s + f) (40 * t + to) k) (((40 * t) + to) + k) ((cpR nnu (40 * s + f) (40 * t + to) k) (((40 * s) + f) + k))))))]) dX9_copy_184 4 (((40 * t) + to) + k) rfl (rfl) (by omega) (by decide) rfl ?_
                        refine x_iinc (lv' := [some (.ref aN), some (.int (nI s)), some (.int (nI f)), some (.int (nI t)), some (.int (nI to)), some (.int (nI n)), some (.int (nI ((40 * s) + f))), some (.int (nI ((40 * t) + to))), some (.int (nI (k + 1))), some (.int (nI k))]) (nI (k + 1)) dX9_copy_185 rfl (nI_addc k 1 rfl) rfl ?_
                        refine x_goto dX9_copy_188 ?_
                        refine x_fgt (lv' := [some (.ref aN), some (.int (nI s)), some (.int (nI f)), some (.int (nI t)), some (.int (nI to)), some (.int (nI n)), some (.int (nI ((40 * s) + f))), some (.int (nI ((40 * t) + to))), some (.int (nI (k + 1))), none]) ⟨Or.inr rfl, Or.inr rfl, Or.inr rfl, Or.inr rfl, Or.inr rfl, Or.inr rfl, Or.inr rfl, Or.inr rfl, Or.inr rfl, Or.inl rfl, trivial⟩ ?_
                        exact ih137 (by omega) _ (by exact cpR_f nnu hab)
                      · have c148 : ¬ ((nI ((40 * t) + to)) ≤ (nI ((40 * s) + f))) := c148
                        have c148n := mt (nI_leI (a := ((40 * t) + to)) (b := ((40 * s) + f)) (by omega) (by omega)).mpr c148
                        exact absurd c148n (by omega)
                  exact L137_1 0 (Nat.zero_le _) _ (by exact (cpR_0 _ _ _).symm)
                · have c107 : ¬ ((nI n) ≤ (nI ((nsz t) - to))) := c107
                  have c107n := mt (nI_leI (a := n) (b := ((nsz t) - to)) (by omega) (by omega)).mpr c107
                  exact absurd c107n (by omega)
      · have c59 : ¬ ((nI b) = (nI b2)) := c59
        have c59n := mt (nI_eq (a := b) (b := b2) (by omega) (by omega)).mpr c59
        exact absurd hk c59n
    · have c36 : ¬ (0 ≤ (nI b2)) := c36
      have c36n := mt (nI_leI (a := 0) (b := b2) (by omega) (by omega)).mpr c36
      exact absurd c36n (by omega)

-- == ncopy_d ==
set_option maxRecDepth 100000 in
set_option maxHeartbeats 4000000 in
theorem ct_ncopy_d (l : Launch) (g : XG) (aN aNs aNk aNf aNr aNp aNb aNa aNt aNbo aNsz aNnu aNl aNal aNlo aNw aNtr aNis aNbg aNow nts nta nop npr nac : Nat) (nkp nbd ntp nnw nsn nwn : Int32) (fi : Nat → Nat) (nbo : Nat → Int32) (nsz : Nat → Nat) (nnu : Nat → Int64) (f to n s t b b2 : Nat) (hs4 : s < 4) (ht4 : t < 4) (hb1 : nbo s = nI b ∧ b < 2 ^ 31) (hb2 : nbo t = nI b2 ∧ b2 < 2 ^ 31) (hk : b = b2) (hz : nsz s ≤ 40 ∧ nsz t ≤ 40) (hnn : f + n ≤ nsz s ∧ to + n ≤ nsz t) (hab : 40 * s + f < 40 * t + to) : Ct l g 34 0 0 yX9_copy cX9_copy 10 (some .int) [.ref aN, .int (nI s), .int (nI f), .int (nI t), .int (nI to), .int (nI n)] [(aN, .inr (9, [.ref aNs, .ref aNk, .int nkp, .ref aNf, .ref aNr, .ref aNp, .ref aNb, .ref aNa, .ref aNt, .int (nI nts), .ref aNbo, .ref aNsz, .ref aNnu, .int (nI nta), .int (nI nop), .int nbd, .int ntp, .int (nI npr), .int nnw, .int nsn, .int nwn, .ref aNl, .ref aNal, .ref aNlo, .int (nI nac), .ref aNw, .ref aNtr, .ref aNis, .ref aNbg, .ref aNow])), (aNf, .inl (g.2.1 0, 8, .inl (nIf (fnF fi)))), (aNbo, .inl (g.2.1 0, 4, .inl nbo)), (aNsz, .inl (g.2.1 0, 4, .inl (nIf nsz))), (aNnu, .inl (g.2.1 2, 160, .inr (.inl nnu)))] (xpi (nI (n)) [(aN, .inr (9, [.ref aNs, .ref aNk, .int nkp, .ref aNf, .ref aNr, .ref aNp, .ref aNb, .ref aNa, .ref aNt, .int (nI nts), .ref aNbo, .ref aNsz, .ref aNnu, .int (nI nta), .int (nI nop), .int nbd, .int ntp, .int (nI npr), .int nnw, .int nsn, .int nwn, .ref aNl, .ref aNal, .ref aNlo, .int (nI nac), .ref aNw, .ref aNtr, .ref aNis, .ref aNbg, .ref aNow])), (aNf, .inl (g.2.1 0, 8, .inl (nIf (fnF fi)))), (aNbo, .inl (g.2.1 0, 4, .inl nbo)), (aNsz, .inl (g.2.1 0, 4, .inl (nIf nsz))), (aNnu, .inl (g.2.1 2, 160, .inr (.inl (cpR nnu (40 * s + f) (40 * t + to) n))))]) := by
  refine Ct.ofX (lv := [some (.ref aN), some (.int (nI s)), some (.int (nI f)), some (.int (nI t)), some (.int (nI to)), some (.int (nI n)), none, none, none, none]) (by decide) rfl (Nat.le_of_ble_eq_true rfl) (fun κ => ?_)
  generalize hQ : xQ κ g 0 0 _ = Q
  refine x_iload_n dX9_copy_0 rfl ?_
  refine x_cSi dX9_copy_1 ml_X9_258 mX9_isSheet (ct_nSheet_n κ.2.1 g s (hs4)) rfl (Nat.le_of_ble_eq_true rfl) (by decide) (Nat.le_refl _) (Nat.le_refl _) ?_
  refine x_if_eq dX9_copy_4 (fun c4 => ?_) (fun c4 => ?_)
  · exact absurd c4 (by decide)
  refine x_iload_n dX9_copy_7 rfl ?_
  refine x_cSi dX9_copy_8 ml_X9_258 mX9_isSheet (ct_nSheet_n κ.2.1 g t (ht4)) rfl (Nat.le_of_ble_eq_true rfl) (by decide) (Nat.le_refl _) (Nat.le_refl _) ?_
  refine x_if_ne dX9_copy_11 (fun c11 => ?_) (fun c11 => ?_)
  rotate_left
  · exact absurd c11 (by decide)
  refine x_aload_n dX9_copy_21 rfl ?_
  refine x_get dX9_copy_22 0 10 inX9 fl_X9_34 rfl rfl (by decide) rfl ?_
  refine x_iload_n dX9_copy_25 rfl ?_
  refine x_iald dX9_copy_26 2 s rfl (rfl) (by omega) (by decide) ?_
  refine x_rei (nI b) (hb1.1) ?_
  refine x_if_lt dX9_copy_27 (fun c27 => ?_) (fun c27 => ?_)
  · have c27 : (nI b) < 0 := c27
    have c27n := (nI_ltI (a := b) (b := 0) (by omega) (by omega)).mp c27
    exact absurd c27n (by omega)
  · have c27 : ¬ ((nI b) < 0) := c27
    have c27n := mt (nI_ltI (a := b) (b := 0) (by omega) (by omega)).mpr c27
    refine x_aload_n dX9_copy_30 rfl ?_
    refine x_get dX9_copy_31 0 10 inX9 fl_X9_34 rfl rfl (by decide) rfl ?_
    refine x_iload_n dX9_copy_34 rfl ?_
    refine x_iald dX9_copy_35 2 t rfl (rfl) (by omega) (by decide) ?_
    refine x_rei (nI b2) (hb2.1) ?_
    refine x_if_ge dX9_copy_36 (fun c36 => ?_) (fun c36 => ?_)
    · have c36 : 0 ≤ (nI b2) := c36
      have c36n := (nI_leI (a := 0) (b := b2) (by omega) (by omega)).mp c36
      refine x_aload_n dX9_copy_47 rfl ?_
      refine x_get dX9_copy_48 0 10 inX9 fl_X9_34 rfl rfl (by decide) rfl ?_
      refine x_iload_n dX9_copy_51 rfl ?_
      refine x_iald dX9_copy_52 2 s rfl (rfl) (by omega) (by decide) ?_
      refine x_rei (nI b) (hb1.1) ?_
      refine x_aload_n dX9_copy_53 rfl ?_
      refine x_get dX9_copy_54 0 10 inX9 fl_X9_34 rfl rfl (by decide) rfl ?_
      refine x_iload_n dX9_copy_57 rfl ?_
      refine x_iald dX9_copy_58 2 t rfl (rfl) (by omega) (by decide) ?_
      refine x_rei (nI b2) (hb2.1) ?_
      refine x_icmp_eq dX9_copy_59 (fun c59 => ?_) (fun c59 => ?_)
      · have c59 : (nI b) = (nI b2) := c59
        have c59n := (nI_eq (a := b) (b := b2) (by omega) (by omega)).mp c59
        refine x_iload_n dX9_copy_69 rfl ?_
        refine x_if_lt dX9_copy_70 (fun c70 => ?_) (fun c70 => ?_)
        · have c70 : (nI f) < 0 := c70
          have c70n := (nI_ltI (a := f) (b := 0) (by omega) (by omega)).mp c70
          exact absurd c70n (by omega)
        · have c70 : ¬ ((nI f) < 0) := c70
          have c70n := mt (nI_ltI (a := f) (b := 0) (by omega) (by omega)).mpr c70
          refine x_iload dX9_copy_73 rfl ?_
          refine x_if_lt dX9_copy_75 (fun c75 => ?_) (fun c75 => ?_)
          · have c75 : (nI to) < 0 := c75
            have c75n := (nI_ltI (a := to) (b := 0) (by omega) (by omega)).mp c75
            exact absurd c75n (by omega)
          · have c75 : ¬ ((nI to) < 0) := c75
            have c75n := mt (nI_ltI (a := to) (b := 0) (by omega) (by omega)).mpr c75
            refine x_iload dX9_copy_78 rfl ?_
            refine x_if_lt dX9_copy_80 (fun c80 => ?_) (fun c80 => ?_)
            · have c80 : (nI n) < 0 := c80
              have c80n := (nI_ltI (a := n) (b := 0) (by omega) (by omega)).mp c80
              exact absurd c80n (by omega)
            · have c80 : ¬ ((nI n) < 0) := c80
              have c80n := mt (nI_ltI (a := n) (b := 0) (by omega) (by omega)).mpr c80
              refine x_iload dX9_copy_83 rfl ?_
              refine x_aload_n dX9_copy_85 rfl ?_
              refine x_get dX9_copy_86 0 11 inX9 fl_X9_37 rfl rfl (by decide) rfl ?_
              refine x_iload_n dX9_copy_89 rfl ?_
              refine x_iald dX9_copy_90 3 s rfl (rfl) (by omega) (by decide) ?_
              refine x_iload_n dX9_copy_91 rfl ?_
              refine x_isub dX9_copy_92 ?_
              refine x_rei (nI ((nsz s) - f)) (nI_isub (nsz s) f (by omega)) ?_
              refine x_icmp_gt dX9_copy_93 (fun c93 => ?_) (fun c93 => ?_)
              · have c93 : (nI ((nsz s) - f)) < (nI n) := c93
                have c93n := (nI_ltI (a := ((nsz s) - f)) (b := n) (by omega) (by omega)).mp c93
                exact absurd c93n (by omega)
              · have c93 : ¬ ((nI ((nsz s) - f)) < (nI n)) := c93
                have c93n := mt (nI_ltI (a := ((nsz s) - f)) (b := n) (by omega) (by omega)).mpr c93
                refine x_iload dX9_copy_96 rfl ?_
                refine x_aload_n dX9_copy_98 rfl ?_
                refine x_get dX9_copy_99 0 11 inX9 fl_X9_37 rfl rfl (by decide) rfl ?_
                refine x_iload_n dX9_copy_102 rfl ?_
                refine x_iald dX9_copy_103 3 t rfl (rfl) (by omega) (by decide) ?_
                refine x_iload dX9_copy_104 rfl ?_
                refine x_isub dX9_copy_106 ?_
                refine x_rei (nI ((nsz t) - to)) (nI_isub (nsz t) to (by omega)) ?_
                refine x_icmp_le dX9_copy_107 (fun c107 => ?_) (fun c107 => ?_)
                · have c107 : (nI n) ≤ (nI ((nsz t) - to)) := c107
                  have c107n := (nI_leI (a := n) (b := ((nsz t) - to)) (by omega) (by omega)).mp c107
                  refine x_bipush 40 dX9_copy_117 (by decide) ?_
                  refine x_iload_n dX9_copy_119 rfl ?_
                  refine x_imul dX9_copy_120 ?_
                  refine x_rei (nI (40 * s)) (nI_imul 40 s) ?_
                  refine x_iload_n dX9_copy_121 rfl ?_
                  refine x_iadd dX9_copy_122 ?_
                  refine x_rei (nI ((40 * s) + f)) (nI_iadd (40 * s) f) ?_
                  refine x_istore (lv' := [some (.ref aN), some (.int (nI s)), some (.int (nI f)), some (.int (nI t)), some (.int (nI to)), some (.int (nI n)), some (.int (nI ((40 * s) + f))), none, none, none]) dX9_copy_123 (xlt rfl) rfl ?_
                  refine x_bipush 40 dX9_copy_125 (by decide) ?_
                  refine x_iload_n dX9_copy_127 rfl ?_
                  refine x_imul dX9_copy_128 ?_
                  refine x_rei (nI (40 * t)) (nI_imul 40 t) ?_
                  refine x_iload dX9_copy_129 rfl ?_
                  refine x_iadd dX9_copy_131 ?_
                  refine x_rei (nI ((40 * t) + to)) (nI_iadd (40 * t) to) ?_
                  refine x_istore (lv' := [some (.ref aN), some (.int (nI s)), some (.int (nI f)), some (.int (nI t)), some (.int (nI to)), some (.int (nI n)), some (.int (nI ((40 * s) + f))), some (.int (nI ((40 * t) + to))), none, none]) dX9_copy_132 (xlt rfl) rfl ?_
                  refine x_iconst 0 dX9_copy_134 (by decide) ?_
                  refine x_istore (lv' := [some (.ref aN), some (.int (nI s)), some (.int (nI f)), some (.int (nI t)), some (.int (nI to)), some (.int (nI n)), some (.int (nI ((40 * s) + f))), some (.int (nI ((40 * t) + to))), some (.int 0), none]) dX9_copy_135 (xlt rfl) rfl ?_
                  have L137_1 : ∀ (k : Nat), k ≤ n → ∀ (nf : Nat → Int64), nf = cpB nnu (40 * s + f) (40 * t + to) n k → Xs κ g 34 0 0 cX9_copy yX9_copy (some .int) Q 0 0 137 [some (.ref aN), some (.int (nI s)), some (.int (nI f)), some (.int (nI t)), some (.int (nI to)), some (.int (nI n)), some (.int (nI ((40 * s) + f))), some (.int (nI ((40 * t) + to))), some (.int (nI k)), none] [] [(aN, .inr (9, [.ref aNs, .ref aNk, .int nkp, .ref aNf, .ref aNr, .ref aNp, .ref aNb, .ref aNa, .ref aNt, .int (nI nts), .ref aNbo, .ref aNsz, .ref aNnu, .int (nI nta), .int (nI nop), .int nbd, .int ntp, .int (nI npr), .int nnw, .int nsn, .int nwn, .ref aNl, .ref aNal, .ref aNlo, .int (nI nac), .ref aNw, .ref aNtr, .ref aNis, .ref aNbg, .ref aNow])), (aNf, .inl (g.2.1 0, 8, .inl (nIf (fnF fi)))), (aNbo, .inl (g.2.1 0, 4, .inl nbo)), (aNsz, .inl (g.2.1 0, 4, .inl (nIf nsz))), (aNnu, .inl (g.2.1 2, 160, .inr (.inl nf)))] := by
                    refine upTo n (fun k hi137 ih137 => ?_)
                    intro nf enf
                    subst enf
                    refine x_iload dX9_copy_137 rfl ?_
                    refine x_iload dX9_copy_139 rfl ?_
                    refine x_icmp_ge dX9_copy_141 (fun c141 => ?_) (fun c141 => ?_)
                    · have c141 : (nI n) ≤ (nI k) := c141
                      have c141n := (nI_leI (a := n) (b := k) (by omega) (by omega)).mp c141
                      have hxc141 : k = n := by omega
                      try rw [hxc141]
                      refine x_iload dX9_copy_191 rfl ?_
                      rw [← hQ]
                      refine x_iret dX9_copy_193 rfl (Nat.le_of_ble_eq_true rfl) (Nat.le_of_ble_eq_true rfl) ?_
                      rw [← cpB_n]
                      exact ⟨rfl, rfl⟩
                    · have c141 : ¬ ((nI n) ≤ (nI k)) := c141
                      have c141n := mt (nI_leI (a := n) (b := k) (by omega) (by omega)).mpr c141
                      refine x_iload dX9_copy_144 rfl ?_
                      refine x_iload dX9_copy_146 rfl ?_
                      refine x_icmp_ge dX9_copy_148 (fun c148 => ?_) (fun c148 => ?_)
                      · have c148 : (nI ((40 * t) + to)) ≤ (nI ((40 * s) + f)) := c148
                        have c148n := (nI_leI (a := ((40 * t) + to)) (b := ((40 * s) + f)) (by omega) (by omega)).mp c148
                        exact absurd c148n (by omega)
                      · have c148 : ¬ ((nI ((40 * t) + to)) ≤ (nI ((40 * s) + f))) := c148
                        have c148n := mt (nI_leI (a := ((40 * t) + to)) (b := ((40 * s) + f)) (by omega) (by omega)).mpr c148
                        refine x_iload dX9_copy_151 rfl ?_
                        refine x_iconst 1 dX9_copy_153 (by decide) ?_
                        refine x_isub dX9_copy_154 ?_
                        refine x_rei (nI (n - 1)) (nI_isub n 1 (by omega)) ?_
                        refine x_iload dX9_copy_155 rfl ?_
                        refine x_isub dX9_copy_157 ?_
                        refine x_rei (nI ((n - 1) - k)) (nI_isub (n - 1) k (by omega)) ?_
                        refine x_goto dX9_copy_158 ?_
                        refine x_istore (lv' := [some (.ref aN), some (.int (nI s)), some (.int (nI f)), some (.int (nI t)), some (.int (nI to)), some (.int (nI n)), some (.int (nI ((40 * s) + f))), some (.int (nI ((40 * t) + to))), some (.int (nI k)), some (.int (nI ((n - 1) - k)))]) dX9_copy_163 (xlt rfl) rfl ?_
                        refine x_aload_n dX9_copy_165 rfl ?_
                        refine x_get dX9_copy_166 0 12 inX9 fl_X9_40 rfl rfl (by decide) rfl ?_
                        refine x_iload dX9_copy_169 rfl ?_
                        refine x_iload dX9_copy_171 rfl ?_
                        refine x_iadd dX9_copy_173 ?_
                        refine x_rei (nI (((40 * t) + to) + ((n - 1) - k))) (nI_iadd ((40 * t) + to) ((n - 1) - k)) ?_
                        refine x_aload_n dX9_copy_174 rfl ?_
                        refine x_get dX9_copy_175 0 12 inX9 fl_X9_40 rfl rfl (by decide) rfl ?_
                        refine x_iload dX9_copy_178 rfl ?_
                        refine x_iload dX9_copy_180 rfl ?_
                        refine x_iadd dX9_copy_182 ?_
                        refine x_rei (nI (((40 * s) + f) + ((n - 1) - k))) (nI_iadd ((40 * s) + f) ((n - 1) - k)) ?_
                        refine x_lald dX9_copy_183 4 (((40 * s) + f) + ((n - 1) - k)) rfl (rfl) (by omega) (by decide) ?_
                        refine x_last (ws' := [(aN, .inr (9, [.ref aNs, .ref aNk, .int nkp, .ref aNf, .ref aNr, .ref aNp, .ref aNb, .ref aNa, .ref aNt, .int (nI nts), .ref aNbo, .ref aNsz, .ref aNnu, .int (nI nta), .int (nI nop), .int nbd, .int ntp, .int (nI npr), .int nnw, .int nsn, .int nwn, .ref aNl, .ref aNal, .ref aNlo, .int (nI nac), .ref aNw, .ref aNtr, .ref aNis, .ref aNbg, .ref aNow])), (aNf, .inl (g.2.1 0, 8, .inl (nIf (fnF fi)))), (aNbo, .inl (g.2.1 0, 4, .inl nbo)), (aNsz, .inl (g.2.1 0, 4, .inl (nIf nsz))), (aNnu, .inl (g.2.1 2, 160, .inr (.inl (vp_updL (cpB nnu (40 * s + f) (40 * t + to) n k) (((40 * t) + to) + ((n - 1) - k)) ((cpB nnu (40 * s + f) (40 * t + to) n k) (((40 * s) + f) + ((n - 1) - k)))))))]) dX9_copy_184 4 (((40 * t) + to) + ((n - 1) - k)) rfl (rfl) (by omega) (by decide) rfl ?_
                        refine x_iinc (lv' := [some (.ref aN), some (.int (nI s)), some (.int (nI f)), some (.int (nI t)), some (.int (nI to)), some (.int (nI n)), some (.int (nI ((40 * s) + f))), some (.int (nI ((40 * t) + to))), some (.int (nI (k + 1))), some (.int (nI ((n - 1) - k)))]) (nI (k + 1)) dX9_copy_185 rfl (nI_addc k 1 rfl) rfl ?_
                        refine x_goto dX9_copy_188 ?_
                        refine x_fgt (lv' := [some (.ref aN), some (.int (nI s)), some (.int (nI f)), some (.int (nI t)), some (.int (nI to)), some (.int (nI n)), some (.int (nI ((40 * s) + f))), some (.int (nI ((40 * t) + to))), some (.int (nI (k + 1))), none]) ⟨Or.inr rfl, Or.inr rfl, Or.inr rfl, Or.inr rfl, Or.inr rfl, Or.inr rfl, Or.inr rfl, Or.inr rfl, Or.inr rfl, Or.inl rfl, trivial⟩ ?_
                        exact ih137 (by omega) _ (by exact cpB_s nnu hab (by omega))
                  exact L137_1 0 (Nat.zero_le _) _ (by exact (cpB_0 _ _ _ _).symm)
                · have c107 : ¬ ((nI n) ≤ (nI ((nsz t) - to))) := c107
                  have c107n := mt (nI_leI (a := n) (b := ((nsz t) - to)) (by omega) (by omega)).mpr c107
                  exact absurd c107n (by omega)
      · have c59 : ¬ ((nI b) = (nI b2)) := c59
        have c59n := mt (nI_eq (a := b) (b := b2) (by omega) (by omega)).mpr c59
        exact absurd hk c59n
    · have c36 : ¬ (0 ≤ (nI b2)) := c36
      have c36n := mt (nI_leI (a := 0) (b := b2) (by omega) (by omega)).mpr c36
      exact absurd c36n (by omega)

-- == nread_b ==
theorem dX9_read_0 : xd cX9_read 0 (.iload_n 1) 1 1 := ⟨by decide +kernel, rfl⟩
theorem dX9_read_1 : xd cX9_read 1 (.invokestatic 258) 3 4 := ⟨by decide +kernel, rfl⟩
theorem dX9_read_4 : xj cX9_read 4 (.ifCond .ne) 7 14 := ⟨10, by decide +kernel, rfl, by decide⟩
theorem dX9_read_7 : xd cX9_read 7 (.aload_n 0) 1 8 := ⟨by decide +kernel, rfl⟩
theorem dX9_read_8 : xd cX9_read 8 (.ldc 87) 2 10 := ⟨by decide +kernel, rfl⟩
theorem dX9_read_10 : xd cX9_read 10 (.invokevirtual 88) 3 13 := ⟨by decide +kernel, rfl⟩
theorem dX9_read_13 : xd cX9_read 13 .ireturn 1 14 := ⟨by decide +kernel, rfl⟩
theorem dX9_read_14 : xd cX9_read 14 (.aload_n 0) 1 15 := ⟨by decide +kernel, rfl⟩
theorem dX9_read_15 : xd cX9_read 15 (.getfield 34) 3 18 := ⟨by decide +kernel, rfl⟩
theorem dX9_read_18 : xd cX9_read 18 (.iload_n 1) 1 19 := ⟨by decide +kernel, rfl⟩
theorem dX9_read_19 : xd cX9_read 19 .iaload 1 20 := ⟨by decide +kernel, rfl⟩
theorem dX9_read_20 : xj cX9_read 20 (.ifCond .ge) 23 31 := ⟨11, by decide +kernel, rfl, by decide⟩
theorem dX9_read_23 : xd cX9_read 23 (.aload_n 0) 1 24 := ⟨by decide +kernel, rfl⟩
theorem dX9_read_24 : xd cX9_read 24 (.ldc_w 262) 3 27 := ⟨by decide +kernel, rfl⟩
theorem dX9_read_27 : xd cX9_read 27 (.invokevirtual 88) 3 30 := ⟨by decide +kernel, rfl⟩
theorem dX9_read_30 : xd cX9_read 30 .ireturn 1 31 := ⟨by decide +kernel, rfl⟩
theorem dX9_read_31 : xd cX9_read 31 (.iconst 0) 1 32 := ⟨by decide +kernel, rfl⟩
theorem dX9_read_32 : xd cX9_read 32 (.istore_n 2) 1 33 := ⟨by decide +kernel, rfl⟩
theorem dX9_read_33 : xd cX9_read 33 (.iload_n 2) 1 34 := ⟨by decide +kernel, rfl⟩
theorem dX9_read_34 : xd cX9_read 34 (.aload_n 0) 1 35 := ⟨by decide +kernel, rfl⟩
theorem dX9_read_35 : xd cX9_read 35 (.getfield 37) 3 38 := ⟨by decide +kernel, rfl⟩
theorem dX9_read_38 : xd cX9_read 38 (.iload_n 1) 1 39 := ⟨by decide +kernel, rfl⟩
theorem dX9_read_39 : xd cX9_read 39 .iaload 1 40 := ⟨by decide +kernel, rfl⟩
theorem dX9_read_40 : xj cX9_read 40 (.if_icmp .ge) 43 93 := ⟨53, by decide +kernel, rfl, by decide⟩
theorem dX9_read_43 : xd cX9_read 43 (.iload_n 2) 1 44 := ⟨by decide +kernel, rfl⟩
theorem dX9_read_44 : xd cX9_read 44 (.aload_n 0) 1 45 := ⟨by decide +kernel, rfl⟩
theorem dX9_read_45 : xd cX9_read 45 (.getfield 7) 3 48 := ⟨by decide +kernel, rfl⟩
theorem dX9_read_48 : xd cX9_read 48 (.iconst 1) 1 49 := ⟨by decide +kernel, rfl⟩
theorem dX9_read_49 : xd cX9_read 49 .iaload 1 50 := ⟨by decide +kernel, rfl⟩
theorem dX9_read_50 : xj cX9_read 50 (.if_icmp .ge) 53 83 := ⟨33, by decide +kernel, rfl, by decide⟩
theorem dX9_read_53 : xd cX9_read 53 (.aload_n 0) 1 54 := ⟨by decide +kernel, rfl⟩
theorem dX9_read_54 : xd cX9_read 54 (.getfield 40) 3 57 := ⟨by decide +kernel, rfl⟩
theorem dX9_read_57 : xd cX9_read 57 (.bipush 40) 2 59 := ⟨by decide +kernel, rfl⟩
theorem dX9_read_59 : xd cX9_read 59 (.iload_n 1) 1 60 := ⟨by decide +kernel, rfl⟩
theorem dX9_read_60 : xd cX9_read 60 .imul 1 61 := ⟨by decide +kernel, rfl⟩
theorem dX9_read_61 : xd cX9_read 61 (.iload_n 2) 1 62 := ⟨by decide +kernel, rfl⟩
theorem dX9_read_62 : xd cX9_read 62 .iadd 1 63 := ⟨by decide +kernel, rfl⟩
theorem dX9_read_63 : xd cX9_read 63 .laload 1 64 := ⟨by decide +kernel, rfl⟩
theorem dX9_read_64 : xd cX9_read 64 (.aload_n 0) 1 65 := ⟨by decide +kernel, rfl⟩
theorem dX9_read_65 : xd cX9_read 65 (.getfield 7) 3 68 := ⟨by decide +kernel, rfl⟩
theorem dX9_read_68 : xd cX9_read 68 (.bipush 104) 2 70 := ⟨by decide +kernel, rfl⟩
theorem dX9_read_70 : xd cX9_read 70 (.bipush 8) 2 72 := ⟨by decide +kernel, rfl⟩
theorem dX9_read_72 : xd cX9_read 72 (.iload_n 2) 1 73 := ⟨by decide +kernel, rfl⟩
theorem dX9_read_73 : xd cX9_read 73 .imul 1 74 := ⟨by decide +kernel, rfl⟩
theorem dX9_read_74 : xd cX9_read 74 .iadd 1 75 := ⟨by decide +kernel, rfl⟩
theorem dX9_read_75 : xd cX9_read 75 (.iconst 3) 1 76 := ⟨by decide +kernel, rfl⟩
theorem dX9_read_76 : xd cX9_read 76 .iadd 1 77 := ⟨by decide +kernel, rfl⟩
theorem dX9_read_77 : xd cX9_read 77 .iaload 1 78 := ⟨by decide +kernel, rfl⟩
theorem dX9_read_78 : xd cX9_read 78 .i2l 1 79 := ⟨by decide +kernel, rfl⟩
theorem dX9_read_79 : xd cX9_read 79 .lcmp 1 80 := ⟨by decide +kernel, rfl⟩
theorem dX9_read_80 : xj cX9_read 80 (.ifCond .eq) 83 87 := ⟨7, by decide +kernel, rfl, by decide⟩
theorem dX9_read_83 : xd cX9_read 83 (.iload_n 2) 1 84 := ⟨by decide +kernel, rfl⟩
theorem dX9_read_84 : xd cX9_read 84 (.iconst 1) 1 85 := ⟨by decide +kernel, rfl⟩
theorem dX9_read_85 : xd cX9_read 85 .iadd 1 86 := ⟨by decide +kernel, rfl⟩
theorem dX9_read_86 : xd cX9_read 86 .ireturn 1 87 := ⟨by decide +kernel, rfl⟩
theorem dX9_read_87 : xd cX9_read 87 (.iinc 2 1) 3 90 := ⟨by decide +kernel, rfl⟩
theorem dX9_read_90 : xj cX9_read 90 .goto 93 33 := ⟨(-57), by decide +kernel, rfl, by decide⟩
theorem dX9_read_93 : xd cX9_read 93 (.iconst 0) 1 94 := ⟨by decide +kernel, rfl⟩
theorem dX9_read_94 : xd cX9_read 94 .ireturn 1 95 := ⟨by decide +kernel, rfl⟩

set_option maxRecDepth 100000 in
set_option maxHeartbeats 4000000 in
theorem ct_nread_b (l : Launch) (g : XG) (aN aNs aNk aNf aNr aNp aNb aNa aNt aNbo aNsz aNnu aNl aNal aNlo aNw aNtr aNis aNbg aNow nts nta nop npr nac : Nat) (nkp nbd ntp nnw nsn nwn : Int32) (fi : Nat → Nat) (nbo : Nat → Int32) (nsz : Nat → Nat) (s : Int32) (hb : wI s 0 3 = 0) : Ct l g 34 0 0 yX9_read cX9_read 3 (some .int) [.ref aN, .int s] [(aN, .inr (9, [.ref aNs, .ref aNk, .int nkp, .ref aNf, .ref aNr, .ref aNp, .ref aNb, .ref aNa, .ref aNt, .int (nI nts), .ref aNbo, .ref aNsz, .ref aNnu, .int (nI nta), .int (nI nop), .int nbd, .int ntp, .int (nI npr), .int nnw, .int nsn, .int nwn, .ref aNl, .ref aNal, .ref aNlo, .int (nI nac), .ref aNw, .ref aNtr, .ref aNis, .ref aNbg, .ref aNow])), (aNf, .inl (g.2.1 0, 8, .inl (nIf (fnF fi)))), (aNbo, .inl (g.2.1 0, 4, .inl nbo)), (aNsz, .inl (g.2.1 0, 4, .inl (nIf nsz)))] (xpi (fndI 0) [(aN, .inr (9, [.ref aNs, .ref aNk, .int nkp, .ref aNf, .ref aNr, .ref aNp, .ref aNb, .ref aNa, .ref aNt, .int (nI nts), .ref aNbo, .ref aNsz, .ref aNnu, .int (nI nta), .int (nI nop), .int nbd, .int ntp, .int (nI npr), .int nnw, .int nsn, .int nwn, .ref aNl, .ref aNal, .ref aNlo, .int (nI nac), .ref aNw, .ref aNtr, .ref aNis, .ref aNbg, .ref aNow])), (aNf, .inl (g.2.1 0, 8, .inl (nIf (fnF (updN fi 0 (fi 0 + 1)))))), (aNbo, .inl (g.2.1 0, 4, .inl nbo)), (aNsz, .inl (g.2.1 0, 4, .inl (nIf nsz)))]) := by
  refine Ct.ofX (lv := [some (.ref aN), some (.int s), none]) (by decide) rfl (Nat.le_of_ble_eq_true rfl) (fun κ => ?_)
  generalize hQ : xQ κ g 0 0 _ = Q
  refine x_iload_n dX9_read_0 rfl ?_
  refine x_cSi dX9_read_1 ml_X9_258 mX9_isSheet (ct_X9_isSheet κ.2.1 g s) rfl (Nat.le_of_ble_eq_true rfl) (by decide) (Nat.le_refl _) (Nat.le_refl _) ?_
  refine x_if_ne dX9_read_4 (fun c4 => ?_) (fun c4 => ?_)
  · have c4 : ¬ ((wI s 0 3) = 0) := c4
    exact absurd hb c4
  · have c4 : (wI s 0 3) = 0 := c4
    refine x_aload_n dX9_read_7 rfl ?_
    refine x_ldc dX9_read_8 k_X9_87 ?_
    refine x_cVi (ws' := [(aN, .inr (9, [.ref aNs, .ref aNk, .int nkp, .ref aNf, .ref aNr, .ref aNp, .ref aNb, .ref aNa, .ref aNt, .int (nI nts), .ref aNbo, .ref aNsz, .ref aNnu, .int (nI nta), .int (nI nop), .int nbd, .int ntp, .int (nI npr), .int nnw, .int nsn, .int nwn, .ref aNl, .ref aNal, .ref aNlo, .int (nI nac), .ref aNw, .ref aNtr, .ref aNis, .ref aNbg, .ref aNow])), (aNf, .inl (g.2.1 0, 8, .inl (nIf (fnF (updN fi 0 (fi 0 + 1)))))), (aNbo, .inl (g.2.1 0, 4, .inl nbo)), (aNsz, .inl (g.2.1 0, 4, .inl (nIf nsz)))]) dX9_read_10 ml_X9_88 mX9_finds (ct_finds_0 κ.2.1 g aN aNs aNk aNf aNr aNp aNb aNa aNt aNbo aNsz aNnu aNl aNal aNlo aNw aNtr aNis aNbg aNow nts nta nop npr nac nkp nbd ntp nnw nsn nwn fi) [0, 1] rfl rfl 0 rfl rfl rfl (Nat.le_of_ble_eq_true rfl) (by decide) (Nat.le_refl _) (Nat.le_refl _) (rfl : [aN, aNf] = [aN, aNf]) rfl ?_
    rw [← hQ]
    refine x_iret dX9_read_13 rfl (Nat.le_of_ble_eq_true rfl) (Nat.le_of_ble_eq_true rfl) ?_
    exact ⟨rfl, rfl⟩

-- == nread_m ==
set_option maxRecDepth 100000 in
set_option maxHeartbeats 4000000 in
theorem ct_nread_m (l : Launch) (g : XG) (aN aNs aNk aNf aNr aNp aNb aNa aNt aNbo aNsz aNnu aNl aNal aNlo aNw aNtr aNis aNbg aNow nts nta nop npr nac : Nat) (nkp nbd ntp nnw nsn nwn : Int32) (fi : Nat → Nat) (nbo : Nat → Int32) (nsz : Nat → Nat) (s : Nat) (hs4 : s < 4) (hm : nbo s = -1) : Ct l g 34 0 0 yX9_read cX9_read 3 (some .int) [.ref aN, .int (nI s)] [(aN, .inr (9, [.ref aNs, .ref aNk, .int nkp, .ref aNf, .ref aNr, .ref aNp, .ref aNb, .ref aNa, .ref aNt, .int (nI nts), .ref aNbo, .ref aNsz, .ref aNnu, .int (nI nta), .int (nI nop), .int nbd, .int ntp, .int (nI npr), .int nnw, .int nsn, .int nwn, .ref aNl, .ref aNal, .ref aNlo, .int (nI nac), .ref aNw, .ref aNtr, .ref aNis, .ref aNbg, .ref aNow])), (aNf, .inl (g.2.1 0, 8, .inl (nIf (fnF fi)))), (aNbo, .inl (g.2.1 0, 4, .inl nbo)), (aNsz, .inl (g.2.1 0, 4, .inl (nIf nsz)))] (xpi (fndI 5) [(aN, .inr (9, [.ref aNs, .ref aNk, .int nkp, .ref aNf, .ref aNr, .ref aNp, .ref aNb, .ref aNa, .ref aNt, .int (nI nts), .ref aNbo, .ref aNsz, .ref aNnu, .int (nI nta), .int (nI nop), .int nbd, .int ntp, .int (nI npr), .int nnw, .int nsn, .int nwn, .ref aNl, .ref aNal, .ref aNlo, .int (nI nac), .ref aNw, .ref aNtr, .ref aNis, .ref aNbg, .ref aNow])), (aNf, .inl (g.2.1 0, 8, .inl (nIf (fnF (updN fi 5 (fi 5 + 1)))))), (aNbo, .inl (g.2.1 0, 4, .inl nbo)), (aNsz, .inl (g.2.1 0, 4, .inl (nIf nsz)))]) := by
  refine Ct.ofX (lv := [some (.ref aN), some (.int (nI s)), none]) (by decide) rfl (Nat.le_of_ble_eq_true rfl) (fun κ => ?_)
  generalize hQ : xQ κ g 0 0 _ = Q
  refine x_iload_n dX9_read_0 rfl ?_
  refine x_cSi dX9_read_1 ml_X9_258 mX9_isSheet (ct_nSheet_n κ.2.1 g s (hs4)) rfl (Nat.le_of_ble_eq_true rfl) (by decide) (Nat.le_refl _) (Nat.le_refl _) ?_
  refine x_if_ne dX9_read_4 (fun c4 => ?_) (fun c4 => ?_)
  rotate_left
  · exact absurd c4 (by decide)
  refine x_aload_n dX9_read_14 rfl ?_
  refine x_get dX9_read_15 0 10 inX9 fl_X9_34 rfl rfl (by decide) rfl ?_
  refine x_iload_n dX9_read_18 rfl ?_
  refine x_iald dX9_read_19 2 s rfl (rfl) (by omega) (by decide) ?_
  refine x_rei ((-1)) (hm) ?_
  refine x_if_ge dX9_read_20 (fun c20 => ?_) (fun c20 => ?_)
  · exact absurd c20 (by decide)
  refine x_aload_n dX9_read_23 rfl ?_
  refine x_ldcw dX9_read_24 k_X9_262 ?_
  refine x_cVi (ws' := [(aN, .inr (9, [.ref aNs, .ref aNk, .int nkp, .ref aNf, .ref aNr, .ref aNp, .ref aNb, .ref aNa, .ref aNt, .int (nI nts), .ref aNbo, .ref aNsz, .ref aNnu, .int (nI nta), .int (nI nop), .int nbd, .int ntp, .int (nI npr), .int nnw, .int nsn, .int nwn, .ref aNl, .ref aNal, .ref aNlo, .int (nI nac), .ref aNw, .ref aNtr, .ref aNis, .ref aNbg, .ref aNow])), (aNf, .inl (g.2.1 0, 8, .inl (nIf (fnF (updN fi 5 (fi 5 + 1)))))), (aNbo, .inl (g.2.1 0, 4, .inl nbo)), (aNsz, .inl (g.2.1 0, 4, .inl (nIf nsz)))]) dX9_read_27 ml_X9_88 mX9_finds (ct_finds_5 κ.2.1 g aN aNs aNk aNf aNr aNp aNb aNa aNt aNbo aNsz aNnu aNl aNal aNlo aNw aNtr aNis aNbg aNow nts nta nop npr nac nkp nbd ntp nnw nsn nwn fi) [0, 1] rfl rfl 0 rfl rfl rfl (Nat.le_of_ble_eq_true rfl) (by decide) (Nat.le_refl _) (Nat.le_refl _) (rfl : [aN, aNf] = [aN, aNf]) rfl ?_
  rw [← hQ]
  refine x_iret dX9_read_30 rfl (Nat.le_of_ble_eq_true rfl) (Nat.le_of_ble_eq_true rfl) ?_
  exact ⟨rfl, rfl⟩

-- == nread_o ==
set_option maxRecDepth 100000 in
set_option maxHeartbeats 4000000 in
theorem ct_nread_o (l : Launch) (g : XG) (aN aNs aNk aNf aNr aNp aNb aNa aNt aNbo aNsz aNnu aNl aNal aNlo aNw aNtr aNis aNbg aNow nts nta nop npr nac : Nat) (nkp nbd ntp nnw nsn nwn : Int32) (fi : Nat → Nat) (nbo : Nat → Int32) (nsz : Nat → Nat) (nnu : Nat → Int64) (gr wk lk sz br : Nat) (z : Int32) (ru ki ma bb hd : Nat → Nat) (ce : Nat → Int32) (s b : Nat) (hs4 : s < 4) (hm : nbo s = nI b ∧ b < 2 ^ 31) (hz : nsz s ≤ 40) (hwk : wk ≤ 40) : Ct l g 34 0 0 yX9_read cX9_read 3 (some .int) [.ref aN, .int (nI s)] [(aN, .inr (9, [.ref aNs, .ref aNk, .int nkp, .ref aNf, .ref aNr, .ref aNp, .ref aNb, .ref aNa, .ref aNt, .int (nI nts), .ref aNbo, .ref aNsz, .ref aNnu, .int (nI nta), .int (nI nop), .int nbd, .int ntp, .int (nI npr), .int nnw, .int nsn, .int nwn, .ref aNl, .ref aNal, .ref aNlo, .int (nI nac), .ref aNw, .ref aNtr, .ref aNis, .ref aNbg, .ref aNow])), (aNf, .inl (g.2.1 0, 8, .inl (nIf (fnF fi)))), (aNbo, .inl (g.2.1 0, 4, .inl nbo)), (aNsz, .inl (g.2.1 0, 4, .inl (nIf nsz))), (aNnu, .inl (g.2.1 2, 160, .inr (.inl nnu))), (aNs, .inl (g.2.1 0, 919, .inl (msF gr wk z lk sz br ru ki ma bb ce hd)))] (xpi (nI (rdNn nnu ce wk s (nsz s))) [(aN, .inr (9, [.ref aNs, .ref aNk, .int nkp, .ref aNf, .ref aNr, .ref aNp, .ref aNb, .ref aNa, .ref aNt, .int (nI nts), .ref aNbo, .ref aNsz, .ref aNnu, .int (nI nta), .int (nI nop), .int nbd, .int ntp, .int (nI npr), .int nnw, .int nsn, .int nwn, .ref aNl, .ref aNal, .ref aNlo, .int (nI nac), .ref aNw, .ref aNtr, .ref aNis, .ref aNbg, .ref aNow])), (aNf, .inl (g.2.1 0, 8, .inl (nIf (fnF fi)))), (aNbo, .inl (g.2.1 0, 4, .inl nbo)), (aNsz, .inl (g.2.1 0, 4, .inl (nIf nsz))), (aNnu, .inl (g.2.1 2, 160, .inr (.inl nnu))), (aNs, .inl (g.2.1 0, 919, .inl (msF gr wk z lk sz br ru ki ma bb ce hd)))]) := by
  refine Ct.ofX (lv := [some (.ref aN), some (.int (nI s)), none]) (by decide) rfl (Nat.le_of_ble_eq_true rfl) (fun κ => ?_)
  generalize hQ : xQ κ g 0 0 _ = Q
  refine x_iload_n dX9_read_0 rfl ?_
  refine x_cSi dX9_read_1 ml_X9_258 mX9_isSheet (ct_nSheet_n κ.2.1 g s (hs4)) rfl (Nat.le_of_ble_eq_true rfl) (by decide) (Nat.le_refl _) (Nat.le_refl _) ?_
  refine x_if_ne dX9_read_4 (fun c4 => ?_) (fun c4 => ?_)
  rotate_left
  · exact absurd c4 (by decide)
  refine x_aload_n dX9_read_14 rfl ?_
  refine x_get dX9_read_15 0 10 inX9 fl_X9_34 rfl rfl (by decide) rfl ?_
  refine x_iload_n dX9_read_18 rfl ?_
  refine x_iald dX9_read_19 2 s rfl (rfl) (by omega) (by decide) ?_
  refine x_rei (nI b) (hm.1) ?_
  refine x_if_ge dX9_read_20 (fun c20 => ?_) (fun c20 => ?_)
  · have c20 : 0 ≤ (nI b) := c20
    have c20n := (nI_leI (a := 0) (b := b) (by omega) (by omega)).mp c20
    refine x_iconst 0 dX9_read_31 (by decide) ?_
    refine x_istore_n (lv' := [some (.ref aN), some (.int (nI s)), some (.int 0)]) dX9_read_32 (xlt rfl) rfl ?_
    have L33_1 : ∀ (i : Nat), i ≤ nsz s → (∀ k, k < i → rdBn nnu ce wk s k = false) → Xs κ g 34 0 0 cX9_read yX9_read (some .int) Q 0 0 33 [some (.ref aN), some (.int (nI s)), some (.int (nI i))] [] [(aN, .inr (9, [.ref aNs, .ref aNk, .int nkp, .ref aNf, .ref aNr, .ref aNp, .ref aNb, .ref aNa, .ref aNt, .int (nI nts), .ref aNbo, .ref aNsz, .ref aNnu, .int (nI nta), .int (nI nop), .int nbd, .int ntp, .int (nI npr), .int nnw, .int nsn, .int nwn, .ref aNl, .ref aNal, .ref aNlo, .int (nI nac), .ref aNw, .ref aNtr, .ref aNis, .ref aNbg, .ref aNow])), (aNf, .inl (g.2.1 0, 8, .inl (nIf (fnF fi)))), (aNbo, .inl (g.2.1 0, 4, .inl nbo)), (aNsz, .inl (g.2.1 0, 4, .inl (nIf nsz))), (aNnu, .inl (g.2.1 2, 160, .inr (.inl nnu))), (aNs, .inl (g.2.1 0, 919, .inl (msF gr wk z lk sz br ru ki ma bb ce hd)))] := by
      refine upTo (nsz s) (fun i hi33 ih33 => ?_)
      intro hno
      refine x_iload_n dX9_read_33 rfl ?_
      refine x_aload_n dX9_read_34 rfl ?_
      refine x_get dX9_read_35 0 11 inX9 fl_X9_37 rfl rfl (by decide) rfl ?_
      refine x_iload_n dX9_read_38 rfl ?_
      refine x_iald dX9_read_39 3 s rfl (rfl) (by omega) (by decide) ?_
      refine x_icmp_ge dX9_read_40 (fun c40 => ?_) (fun c40 => ?_)
      · have c40 : (nI (nsz s)) ≤ (nI i) := c40
        have c40n := (nI_leI (a := (nsz s)) (b := i) (by omega) (by omega)).mp c40
        have hxc40 : i = nsz s := by omega
        try rw [hxc40]
        try rw [hxc40] at hno
        refine x_iconst 0 dX9_read_93 (by decide) ?_
        rw [← hQ]
        refine x_iret dX9_read_94 rfl (Nat.le_of_ble_eq_true rfl) (Nat.le_of_ble_eq_true rfl) ?_
        exact ⟨by rw [rdNn_no hno] <;> rfl, rfl⟩
      · have c40 : ¬ ((nI (nsz s)) ≤ (nI i)) := c40
        have c40n := mt (nI_leI (a := (nsz s)) (b := i) (by omega) (by omega)).mpr c40
        refine x_iload_n dX9_read_43 rfl ?_
        refine x_aload_n dX9_read_44 rfl ?_
        refine x_get dX9_read_45 0 0 inX9 fl_X9_7 rfl rfl (by decide) rfl ?_
        refine x_iconst 1 dX9_read_48 (by decide) ?_
        refine x_iald dX9_read_49 5 1 rfl (rfl) (by decide) (by decide) ?_
        refine x_rei (nI wk) (rfl) ?_
        refine x_icmp_ge dX9_read_50 (fun c50 => ?_) (fun c50 => ?_)
        · have c50 : (nI wk) ≤ (nI i) := c50
          have c50n := (nI_leI (a := wk) (b := i) (by omega) (by omega)).mp c50
          refine x_iload_n dX9_read_83 rfl ?_
          refine x_iconst 1 dX9_read_84 (by decide) ?_
          refine x_iadd dX9_read_85 ?_
          refine x_rei (nI (i + 1)) (nI_addc i 1 rfl) ?_
          rw [← hQ]
          refine x_iret dX9_read_86 rfl (Nat.le_of_ble_eq_true rfl) (Nat.le_of_ble_eq_true rfl) ?_
          exact ⟨by rw [rdNn_hit (by omega) hno (by first | (rw [rdBn, decide_eq_true (by omega : wk ≤ i)]; rfl) | (rw [rdBn, decide_eq_false (fun q => c80 ((lgc_eq _ _).mpr q))]; simp))], rfl⟩
        · have c50 : ¬ ((nI wk) ≤ (nI i)) := c50
          have c50n := mt (nI_leI (a := wk) (b := i) (by omega) (by omega)).mpr c50
          refine x_aload_n dX9_read_53 rfl ?_
          refine x_get dX9_read_54 0 12 inX9 fl_X9_40 rfl rfl (by decide) rfl ?_
          refine x_bipush 40 dX9_read_57 (by decide) ?_
          refine x_iload_n dX9_read_59 rfl ?_
          refine x_imul dX9_read_60 ?_
          refine x_rei (nI (40 * s)) (nI_imul 40 s) ?_
          refine x_iload_n dX9_read_61 rfl ?_
          refine x_iadd dX9_read_62 ?_
          refine x_rei (nI ((40 * s) + i)) (nI_iadd (40 * s) i) ?_
          refine x_lald dX9_read_63 4 ((40 * s) + i) rfl (rfl) (by omega) (by decide) ?_
          refine x_aload_n dX9_read_64 rfl ?_
          refine x_get dX9_read_65 0 0 inX9 fl_X9_7 rfl rfl (by decide) rfl ?_
          refine x_bipush 104 dX9_read_68 (by decide) ?_
          refine x_bipush 8 dX9_read_70 (by decide) ?_
          refine x_iload_n dX9_read_72 rfl ?_
          refine x_imul dX9_read_73 ?_
          refine x_rei (nI (8 * i)) (nI_imul 8 i) ?_
          refine x_iadd dX9_read_74 ?_
          refine x_rei (nI (104 + (8 * i))) (nI_iadd 104 (8 * i)) ?_
          refine x_iconst 3 dX9_read_75 (by decide) ?_
          refine x_iadd dX9_read_76 ?_
          refine x_rei (nI ((104 + (8 * i)) + 3)) (nI_addc (104 + (8 * i)) 3 rfl) ?_
          refine x_iald dX9_read_77 5 ((104 + (8 * i)) + 3) rfl (rfl) (by omega) (by decide) ?_
          refine x_rei (ce ((8 * i) + 3)) (msg_ce (x := (8 * i) + 3) (by omega) (by omega)) ?_
          refine x_i2l dX9_read_78 ?_
          refine x_lcmp dX9_read_79 ?_
          refine x_if_eq dX9_read_80 (fun c80 => ?_) (fun c80 => ?_)
          · have c80 : (lg_cmp (nnu ((40 * s) + i)) ((ce ((8 * i) + 3)).toInt64)) = 0 := c80
            refine x_iinc (lv' := [some (.ref aN), some (.int (nI s)), some (.int (nI (i + 1)))]) (nI (i + 1)) dX9_read_87 rfl (nI_addc i 1 rfl) rfl ?_
            refine x_goto dX9_read_90 ?_
            exact ih33 (by omega)  (allS hno (by simp only [rdBn, Bool.or_eq_false_iff, decide_eq_false_iff_not, Bool.not_eq_false', decide_eq_true_eq]; exact ⟨by omega, (lgc_eq _ _).mp c80⟩))
          · have c80 : ¬ ((lg_cmp (nnu ((40 * s) + i)) ((ce ((8 * i) + 3)).toInt64)) = 0) := c80
            refine x_iload_n dX9_read_83 rfl ?_
            refine x_iconst 1 dX9_read_84 (by decide) ?_
            refine x_iadd dX9_read_85 ?_
            refine x_rei (nI (i + 1)) (nI_addc i 1 rfl) ?_
            rw [← hQ]
            refine x_iret dX9_read_86 rfl (Nat.le_of_ble_eq_true rfl) (Nat.le_of_ble_eq_true rfl) ?_
            exact ⟨by rw [rdNn_hit (by omega) hno (by first | (rw [rdBn, decide_eq_true (by omega : wk ≤ i)]; rfl) | (rw [rdBn, decide_eq_false (fun q => c80 ((lgc_eq _ _).mpr q))]; simp))], rfl⟩
    exact L33_1 0 (Nat.zero_le _)  (fun k hk => by omega)
  · have c20 : ¬ (0 ≤ (nI b)) := c20
    have c20n := mt (nI_leI (a := 0) (b := b) (by omega) (by omega)).mpr c20
    exact absurd c20n (by omega)

-- == nimage_o ==
theorem dX9_image_0 : xd cX9_image 0 (.iconst 0) 1 1 := ⟨by decide +kernel, rfl⟩
theorem dX9_image_1 : xd cX9_image 1 (.istore_n 1) 1 2 := ⟨by decide +kernel, rfl⟩
theorem dX9_image_2 : xd cX9_image 2 (.iload_n 1) 1 3 := ⟨by decide +kernel, rfl⟩
theorem dX9_image_3 : xd cX9_image 3 (.sipush 919) 3 6 := ⟨by decide +kernel, rfl⟩
theorem dX9_image_6 : xj cX9_image 6 (.if_icmp .ge) 9 27 := ⟨21, by decide +kernel, rfl, by decide⟩
theorem dX9_image_9 : xd cX9_image 9 (.aload_n 0) 1 10 := ⟨by decide +kernel, rfl⟩
theorem dX9_image_10 : xd cX9_image 10 (.getfield 13) 3 13 := ⟨by decide +kernel, rfl⟩
theorem dX9_image_13 : xd cX9_image 13 (.iload_n 1) 1 14 := ⟨by decide +kernel, rfl⟩
theorem dX9_image_14 : xd cX9_image 14 (.aload_n 0) 1 15 := ⟨by decide +kernel, rfl⟩
theorem dX9_image_15 : xd cX9_image 15 (.getfield 7) 3 18 := ⟨by decide +kernel, rfl⟩
theorem dX9_image_18 : xd cX9_image 18 (.iload_n 1) 1 19 := ⟨by decide +kernel, rfl⟩
theorem dX9_image_19 : xd cX9_image 19 .iaload 1 20 := ⟨by decide +kernel, rfl⟩
theorem dX9_image_20 : xd cX9_image 20 .iastore 1 21 := ⟨by decide +kernel, rfl⟩
theorem dX9_image_21 : xd cX9_image 21 (.iinc 1 1) 3 24 := ⟨by decide +kernel, rfl⟩
theorem dX9_image_24 : xj cX9_image 24 .goto 27 2 := ⟨(-22), by decide +kernel, rfl, by decide⟩
theorem dX9_image_27 : xd cX9_image 27 (.aload_n 0) 1 28 := ⟨by decide +kernel, rfl⟩
theorem dX9_image_28 : xd cX9_image 28 (.iconst 1) 1 29 := ⟨by decide +kernel, rfl⟩
theorem dX9_image_29 : xd cX9_image 29 (.putfield 268) 3 32 := ⟨by decide +kernel, rfl⟩
theorem dX9_image_32 : xd cX9_image 32 (.iconst 1) 1 33 := ⟨by decide +kernel, rfl⟩
theorem dX9_image_33 : xd cX9_image 33 .ireturn 1 34 := ⟨by decide +kernel, rfl⟩

set_option maxRecDepth 100000 in
set_option maxHeartbeats 4000000 in
theorem ct_nimage_o (l : Launch) (g : XG) (aN aNs aNk aNf aNr aNp aNb aNa aNt aNbo aNsz aNnu aNl aNal aNlo aNw aNtr aNis aNbg aNow nts nta nop npr nac : Nat) (nkp nbd ntp nnw nsn nwn : Int32) (gr wk lk sz br : Nat) (z : Int32) (ru ki ma bb hd : Nat → Nat) (ce : Nat → Int32) (kf : Nat → Int32) : Ct l g 34 0 0 yX9_image cX9_image 2 (some .int) [.ref aN] [(aN, .inr (9, [.ref aNs, .ref aNk, .int nkp, .ref aNf, .ref aNr, .ref aNp, .ref aNb, .ref aNa, .ref aNt, .int (nI nts), .ref aNbo, .ref aNsz, .ref aNnu, .int (nI nta), .int (nI nop), .int nbd, .int ntp, .int (nI npr), .int nnw, .int nsn, .int nwn, .ref aNl, .ref aNal, .ref aNlo, .int (nI nac), .ref aNw, .ref aNtr, .ref aNis, .ref aNbg, .ref aNow])), (aNs, .inl (g.2.1 0, 919, .inl (msF gr wk z lk sz br ru ki ma bb ce hd))), (aNk, .inl (g.2.1 0, 919, .inl kf))] (xpi (1) [(aN, .inr (9, [.ref aNs, .ref aNk, .int 1, .ref aNf, .ref aNr, .ref aNp, .ref aNb, .ref aNa, .ref aNt, .int (nI nts), .ref aNbo, .ref aNsz, .ref aNnu, .int (nI nta), .int (nI nop), .int nbd, .int ntp, .int (nI npr), .int nnw, .int nsn, .int nwn, .ref aNl, .ref aNal, .ref aNlo, .int (nI nac), .ref aNw, .ref aNtr, .ref aNis, .ref aNbg, .ref aNow])), (aNs, .inl (g.2.1 0, 919, .inl (msF gr wk z lk sz br ru ki ma bb ce hd))), (aNk, .inl (g.2.1 0, 919, .inl (msF gr wk z lk sz br ru ki ma bb ce hd)))]) := by
  refine Ct.ofX (lv := [some (.ref aN), none]) (by decide) rfl (Nat.le_of_ble_eq_true rfl) (fun κ => ?_)
  generalize hQ : xQ κ g 0 0 _ = Q
  refine x_iconst 0 dX9_image_0 (by decide) ?_
  refine x_istore_n (lv' := [some (.ref aN), some (.int 0)]) dX9_image_1 (xlt rfl) rfl ?_
  have L2_1 : ∀ (i : Nat), i ≤ 919 → ∀ (kg : Nat → Int32), kg = fillT i (msF gr wk z lk sz br ru ki ma bb ce hd) kf → Xs κ g 34 0 0 cX9_image yX9_image (some .int) Q 0 0 2 [some (.ref aN), some (.int (nI i))] [] [(aN, .inr (9, [.ref aNs, .ref aNk, .int nkp, .ref aNf, .ref aNr, .ref aNp, .ref aNb, .ref aNa, .ref aNt, .int (nI nts), .ref aNbo, .ref aNsz, .ref aNnu, .int (nI nta), .int (nI nop), .int nbd, .int ntp, .int (nI npr), .int nnw, .int nsn, .int nwn, .ref aNl, .ref aNal, .ref aNlo, .int (nI nac), .ref aNw, .ref aNtr, .ref aNis, .ref aNbg, .ref aNow])), (aNs, .inl (g.2.1 0, 919, .inl (msF gr wk z lk sz br ru ki ma bb ce hd))), (aNk, .inl (g.2.1 0, 919, .inl kg))] := by
    refine upTo 919 (fun i hi2 ih2 => ?_)
    intro kg ekg
    subst ekg
    refine x_iload_n dX9_image_2 rfl ?_
    refine x_sipush 919 dX9_image_3 (by decide) ?_
    refine x_icmp_ge dX9_image_6 (fun c6 => ?_) (fun c6 => ?_)
    · have c6 : 919 ≤ (nI i) := c6
      have c6n := (nI_leI (a := 919) (b := i) (by omega) (by omega)).mp c6
      have hxc6 : i = 919 := by omega
      try rw [hxc6]
      refine x_funi (ws' := [(aN, .inr (9, [.ref aNs, .ref aNk, .int nkp, .ref aNf, .ref aNr, .ref aNp, .ref aNb, .ref aNa, .ref aNt, .int (nI nts), .ref aNbo, .ref aNsz, .ref aNnu, .int (nI nta), .int (nI nop), .int nbd, .int ntp, .int (nI npr), .int nnw, .int nsn, .int nwn, .ref aNl, .ref aNal, .ref aNlo, .int (nI nac), .ref aNw, .ref aNtr, .ref aNis, .ref aNbg, .ref aNow])), (aNs, .inl (g.2.1 0, 919, .inl (msF gr wk z lk sz br ru ki ma bb ce hd))), (aNk, .inl (g.2.1 0, 919, .inl (msF gr wk z lk sz br ru ki ma bb ce hd)))]) (q0 := 2) rfl (fun j hj => fillT_in _ _ hj) rfl ?_
      refine x_aload_n dX9_image_27 rfl ?_
      refine x_iconst 1 dX9_image_28 (by decide) ?_
      refine x_put (ws' := [(aN, .inr (9, [.ref aNs, .ref aNk, .int 1, .ref aNf, .ref aNr, .ref aNp, .ref aNb, .ref aNa, .ref aNt, .int (nI nts), .ref aNbo, .ref aNsz, .ref aNnu, .int (nI nta), .int (nI nop), .int nbd, .int ntp, .int (nI npr), .int nnw, .int nsn, .int nwn, .ref aNl, .ref aNal, .ref aNlo, .int (nI nac), .ref aNw, .ref aNtr, .ref aNis, .ref aNbg, .ref aNow])), (aNs, .inl (g.2.1 0, 919, .inl (msF gr wk z lk sz br ru ki ma bb ce hd))), (aNk, .inl (g.2.1 0, 919, .inl (msF gr wk z lk sz br ru ki ma bb ce hd)))]) dX9_image_29 0 2 inX9 tyX9_ok nmX9 fl_X9_268 rfl rfl (by decide) rfl (rfl) rfl (xlt rfl) rfl ?_
      refine x_iconst 1 dX9_image_32 (by decide) ?_
      rw [← hQ]
      refine x_iret dX9_image_33 rfl (Nat.le_of_ble_eq_true rfl) (Nat.le_of_ble_eq_true rfl) ?_
      exact ⟨rfl, rfl⟩
    · have c6 : ¬ (919 ≤ (nI i)) := c6
      have c6n := mt (nI_leI (a := 919) (b := i) (by omega) (by omega)).mpr c6
      refine x_aload_n dX9_image_9 rfl ?_
      refine x_get dX9_image_10 0 1 inX9 fl_X9_13 rfl rfl (by decide) rfl ?_
      refine x_iload_n dX9_image_13 rfl ?_
      refine x_aload_n dX9_image_14 rfl ?_
      refine x_get dX9_image_15 0 0 inX9 fl_X9_7 rfl rfl (by decide) rfl ?_
      refine x_iload_n dX9_image_18 rfl ?_
      refine x_iald dX9_image_19 1 i rfl (rfl) (by omega) (by decide) ?_
      refine x_iast (ws' := [(aN, .inr (9, [.ref aNs, .ref aNk, .int nkp, .ref aNf, .ref aNr, .ref aNp, .ref aNb, .ref aNa, .ref aNt, .int (nI nts), .ref aNbo, .ref aNsz, .ref aNnu, .int (nI nta), .int (nI nop), .int nbd, .int ntp, .int (nI npr), .int nnw, .int nsn, .int nwn, .ref aNl, .ref aNal, .ref aNlo, .int (nI nac), .ref aNw, .ref aNtr, .ref aNis, .ref aNbg, .ref aNow])), (aNs, .inl (g.2.1 0, 919, .inl (msF gr wk z lk sz br ru ki ma bb ce hd))), (aNk, .inl (g.2.1 0, 919, .inl (upd (fillT i (msF gr wk z lk sz br ru ki ma bb ce hd) kf) i ((msF gr wk z lk sz br ru ki ma bb ce hd) i))))]) dX9_image_20 2 i rfl (rfl) (by omega) (by decide) rfl ?_
      refine x_iinc (lv' := [some (.ref aN), some (.int (nI (i + 1)))]) (nI (i + 1)) dX9_image_21 rfl (nI_addc i 1 rfl) rfl ?_
      refine x_goto dX9_image_24 ?_
      exact ih2 (by omega) _ (by exact fillT_upd i (msF gr wk z lk sz br ru ki ma bb ce hd) kf)
  exact L2_1 0 (Nat.zero_le _) _ (by exact (fillT_0 _ _).symm)

-- == nundo_n ==
theorem dX9_undo_0 : xd cX9_undo 0 (.aload_n 0) 1 1 := ⟨by decide +kernel, rfl⟩
theorem dX9_undo_1 : xd cX9_undo 1 (.getfield 268) 3 4 := ⟨by decide +kernel, rfl⟩
theorem dX9_undo_4 : xj cX9_undo 4 (.ifCond .ne) 7 14 := ⟨10, by decide +kernel, rfl, by decide⟩
theorem dX9_undo_7 : xd cX9_undo 7 (.aload_n 0) 1 8 := ⟨by decide +kernel, rfl⟩
theorem dX9_undo_8 : xd cX9_undo 8 (.ldc 239) 2 10 := ⟨by decide +kernel, rfl⟩
theorem dX9_undo_10 : xd cX9_undo 10 (.invokevirtual 88) 3 13 := ⟨by decide +kernel, rfl⟩
theorem dX9_undo_13 : xd cX9_undo 13 .ireturn 1 14 := ⟨by decide +kernel, rfl⟩
theorem dX9_undo_14 : xd cX9_undo 14 (.iconst 0) 1 15 := ⟨by decide +kernel, rfl⟩
theorem dX9_undo_15 : xd cX9_undo 15 (.istore_n 1) 1 16 := ⟨by decide +kernel, rfl⟩
theorem dX9_undo_16 : xd cX9_undo 16 (.iload_n 1) 1 17 := ⟨by decide +kernel, rfl⟩
theorem dX9_undo_17 : xd cX9_undo 17 (.sipush 919) 3 20 := ⟨by decide +kernel, rfl⟩
theorem dX9_undo_20 : xj cX9_undo 20 (.if_icmp .ge) 23 41 := ⟨21, by decide +kernel, rfl, by decide⟩
theorem dX9_undo_23 : xd cX9_undo 23 (.aload_n 0) 1 24 := ⟨by decide +kernel, rfl⟩
theorem dX9_undo_24 : xd cX9_undo 24 (.getfield 7) 3 27 := ⟨by decide +kernel, rfl⟩
theorem dX9_undo_27 : xd cX9_undo 27 (.iload_n 1) 1 28 := ⟨by decide +kernel, rfl⟩
theorem dX9_undo_28 : xd cX9_undo 28 (.aload_n 0) 1 29 := ⟨by decide +kernel, rfl⟩
theorem dX9_undo_29 : xd cX9_undo 29 (.getfield 13) 3 32 := ⟨by decide +kernel, rfl⟩
theorem dX9_undo_32 : xd cX9_undo 32 (.iload_n 1) 1 33 := ⟨by decide +kernel, rfl⟩
theorem dX9_undo_33 : xd cX9_undo 33 .iaload 1 34 := ⟨by decide +kernel, rfl⟩
theorem dX9_undo_34 : xd cX9_undo 34 .iastore 1 35 := ⟨by decide +kernel, rfl⟩
theorem dX9_undo_35 : xd cX9_undo 35 (.iinc 1 1) 3 38 := ⟨by decide +kernel, rfl⟩
theorem dX9_undo_38 : xj cX9_undo 38 .goto 41 16 := ⟨(-22), by decide +kernel, rfl, by decide⟩
theorem dX9_undo_41 : xd cX9_undo 41 (.aload_n 0) 1 42 := ⟨by decide +kernel, rfl⟩
theorem dX9_undo_42 : xd cX9_undo 42 (.iconst 1) 1 43 := ⟨by decide +kernel, rfl⟩
theorem dX9_undo_43 : xd cX9_undo 43 (.putfield 44) 3 46 := ⟨by decide +kernel, rfl⟩
theorem dX9_undo_46 : xd cX9_undo 46 (.aload_n 0) 1 47 := ⟨by decide +kernel, rfl⟩
theorem dX9_undo_47 : xd cX9_undo 47 (.iconst 1) 1 48 := ⟨by decide +kernel, rfl⟩
theorem dX9_undo_48 : xd cX9_undo 48 (.putfield 48) 3 51 := ⟨by decide +kernel, rfl⟩
theorem dX9_undo_51 : xd cX9_undo 51 (.aload_n 0) 1 52 := ⟨by decide +kernel, rfl⟩
theorem dX9_undo_52 : xd cX9_undo 52 (.getfield 7) 3 55 := ⟨by decide +kernel, rfl⟩
theorem dX9_undo_55 : xd cX9_undo 55 (.iconst 1) 1 56 := ⟨by decide +kernel, rfl⟩
theorem dX9_undo_56 : xd cX9_undo 56 .iaload 1 57 := ⟨by decide +kernel, rfl⟩
theorem dX9_undo_57 : xd cX9_undo 57 .ireturn 1 58 := ⟨by decide +kernel, rfl⟩

set_option maxRecDepth 100000 in
set_option maxHeartbeats 4000000 in
theorem ct_nundo_n (l : Launch) (g : XG) (aN aNs aNk aNf aNr aNp aNb aNa aNt aNbo aNsz aNnu aNl aNal aNlo aNw aNtr aNis aNbg aNow nts nta nop npr nac : Nat) (nkp nbd ntp nnw nsn nwn : Int32) (fi : Nat → Nat) : Ct l g 34 0 0 yX9_undo cX9_undo 2 (some .int) [.ref aN] [(aN, .inr (9, [.ref aNs, .ref aNk, .int 0, .ref aNf, .ref aNr, .ref aNp, .ref aNb, .ref aNa, .ref aNt, .int (nI nts), .ref aNbo, .ref aNsz, .ref aNnu, .int (nI nta), .int (nI nop), .int nbd, .int ntp, .int (nI npr), .int nnw, .int nsn, .int nwn, .ref aNl, .ref aNal, .ref aNlo, .int (nI nac), .ref aNw, .ref aNtr, .ref aNis, .ref aNbg, .ref aNow])), (aNf, .inl (g.2.1 0, 8, .inl (nIf (fnF fi))))] (xpi (fndI 3) [(aN, .inr (9, [.ref aNs, .ref aNk, .int 0, .ref aNf, .ref aNr, .ref aNp, .ref aNb, .ref aNa, .ref aNt, .int (nI nts), .ref aNbo, .ref aNsz, .ref aNnu, .int (nI nta), .int (nI nop), .int nbd, .int ntp, .int (nI npr), .int nnw, .int nsn, .int nwn, .ref aNl, .ref aNal, .ref aNlo, .int (nI nac), .ref aNw, .ref aNtr, .ref aNis, .ref aNbg, .ref aNow])), (aNf, .inl (g.2.1 0, 8, .inl (nIf (fnF (updN fi 3 (fi 3 + 1))))))]) := by
  refine Ct.ofX (lv := [some (.ref aN), none]) (by decide) rfl (Nat.le_of_ble_eq_true rfl) (fun κ => ?_)
  generalize hQ : xQ κ g 0 0 _ = Q
  refine x_aload_n dX9_undo_0 rfl ?_
  refine x_get dX9_undo_1 0 2 inX9 fl_X9_268 rfl rfl (by decide) rfl ?_
  refine x_if_ne dX9_undo_4 (fun c4 => ?_) (fun c4 => ?_)
  · exact absurd c4 (by decide)
  refine x_aload_n dX9_undo_7 rfl ?_
  refine x_ldc dX9_undo_8 k_X9_239 ?_
  refine x_cVi (ws' := [(aN, .inr (9, [.ref aNs, .ref aNk, .int 0, .ref aNf, .ref aNr, .ref aNp, .ref aNb, .ref aNa, .ref aNt, .int (nI nts), .ref aNbo, .ref aNsz, .ref aNnu, .int (nI nta), .int (nI nop), .int nbd, .int ntp, .int (nI npr), .int nnw, .int nsn, .int nwn, .ref aNl, .ref aNal, .ref aNlo, .int (nI nac), .ref aNw, .ref aNtr, .ref aNis, .ref aNbg, .ref aNow])), (aNf, .inl (g.2.1 0, 8, .inl (nIf (fnF (updN fi 3 (fi 3 + 1))))))]) dX9_undo_10 ml_X9_88 mX9_finds (ct_finds_3 κ.2.1 g aN aNs aNk aNf aNr aNp aNb aNa aNt aNbo aNsz aNnu aNl aNal aNlo aNw aNtr aNis aNbg aNow nts nta nop npr nac 0 nbd ntp nnw nsn nwn fi) [0, 1] rfl rfl 0 rfl rfl rfl (Nat.le_of_ble_eq_true rfl) (by decide) (Nat.le_refl _) (Nat.le_refl _) (rfl : [aN, aNf] = [aN, aNf]) rfl ?_
  rw [← hQ]
  refine x_iret dX9_undo_13 rfl (Nat.le_of_ble_eq_true rfl) (Nat.le_of_ble_eq_true rfl) ?_
  exact ⟨rfl, rfl⟩

-- == nundo_o ==
set_option maxRecDepth 100000 in
set_option maxHeartbeats 4000000 in
theorem ct_nundo_o (l : Launch) (g : XG) (aN aNs aNk aNf aNr aNp aNb aNa aNt aNbo aNsz aNnu aNl aNal aNlo aNw aNtr aNis aNbg aNow nts nta nop npr nac : Nat) (nbd ntp nnw nsn nwn : Int32) (gr wk lk sz br : Nat) (z : Int32) (ru ki ma bb hd : Nat → Nat) (ce : Nat → Int32) (sf : Nat → Int32) : Ct l g 34 0 0 yX9_undo cX9_undo 2 (some .int) [.ref aN] [(aN, .inr (9, [.ref aNs, .ref aNk, .int 1, .ref aNf, .ref aNr, .ref aNp, .ref aNb, .ref aNa, .ref aNt, .int (nI nts), .ref aNbo, .ref aNsz, .ref aNnu, .int (nI nta), .int (nI nop), .int nbd, .int ntp, .int (nI npr), .int nnw, .int nsn, .int nwn, .ref aNl, .ref aNal, .ref aNlo, .int (nI nac), .ref aNw, .ref aNtr, .ref aNis, .ref aNbg, .ref aNow])), (aNs, .inl (g.2.1 0, 919, .inl sf)), (aNk, .inl (g.2.1 0, 919, .inl (msF gr wk z lk sz br ru ki ma bb ce hd)))] (xpi (nI (wk)) [(aN, .inr (9, [.ref aNs, .ref aNk, .int 1, .ref aNf, .ref aNr, .ref aNp, .ref aNb, .ref aNa, .ref aNt, .int (nI nts), .ref aNbo, .ref aNsz, .ref aNnu, .int (nI nta), .int (nI nop), .int nbd, .int ntp, .int (nI npr), .int 1, .int 1, .int nwn, .ref aNl, .ref aNal, .ref aNlo, .int (nI nac), .ref aNw, .ref aNtr, .ref aNis, .ref aNbg, .ref aNow])), (aNs, .inl (g.2.1 0, 919, .inl (msF gr wk z lk sz br ru ki ma bb ce hd))), (aNk, .inl (g.2.1 0, 919, .inl (msF gr wk z lk sz br ru ki ma bb ce hd)))]) := by
  refine Ct.ofX (lv := [some (.ref aN), none]) (by decide) rfl (Nat.le_of_ble_eq_true rfl) (fun κ => ?_)
  generalize hQ : xQ κ g 0 0 _ = Q
  refine x_aload_n dX9_undo_0 rfl ?_
  refine x_get dX9_undo_1 0 2 inX9 fl_X9_268 rfl rfl (by decide) rfl ?_
  refine x_if_ne dX9_undo_4 (fun c4 => ?_) (fun c4 => ?_)
  rotate_left
  · exact absurd c4 (by decide)
  refine x_iconst 0 dX9_undo_14 (by decide) ?_
  refine x_istore_n (lv' := [some (.ref aN), some (.int 0)]) dX9_undo_15 (xlt rfl) rfl ?_
  have L16_1 : ∀ (i : Nat), i ≤ 919 → ∀ (sg : Nat → Int32), sg = fillT i (msF gr wk z lk sz br ru ki ma bb ce hd) sf → Xs κ g 34 0 0 cX9_undo yX9_undo (some .int) Q 0 0 16 [some (.ref aN), some (.int (nI i))] [] [(aN, .inr (9, [.ref aNs, .ref aNk, .int 1, .ref aNf, .ref aNr, .ref aNp, .ref aNb, .ref aNa, .ref aNt, .int (nI nts), .ref aNbo, .ref aNsz, .ref aNnu, .int (nI nta), .int (nI nop), .int nbd, .int ntp, .int (nI npr), .int nnw, .int nsn, .int nwn, .ref aNl, .ref aNal, .ref aNlo, .int (nI nac), .ref aNw, .ref aNtr, .ref aNis, .ref aNbg, .ref aNow])), (aNs, .inl (g.2.1 0, 919, .inl sg)), (aNk, .inl (g.2.1 0, 919, .inl (msF gr wk z lk sz br ru ki ma bb ce hd)))] := by
    refine upTo 919 (fun i hi16 ih16 => ?_)
    intro sg esg
    subst esg
    refine x_iload_n dX9_undo_16 rfl ?_
    refine x_sipush 919 dX9_undo_17 (by decide) ?_
    refine x_icmp_ge dX9_undo_20 (fun c20 => ?_) (fun c20 => ?_)
    · have c20 : 919 ≤ (nI i) := c20
      have c20n := (nI_leI (a := 919) (b := i) (by omega) (by omega)).mp c20
      have hxc20 : i = 919 := by omega
      try rw [hxc20]
      refine x_funi (ws' := [(aN, .inr (9, [.ref aNs, .ref aNk, .int 1, .ref aNf, .ref aNr, .ref aNp, .ref aNb, .ref aNa, .ref aNt, .int (nI nts), .ref aNbo, .ref aNsz, .ref aNnu, .int (nI nta), .int (nI nop), .int nbd, .int ntp, .int (nI npr), .int nnw, .int nsn, .int nwn, .ref aNl, .ref aNal, .ref aNlo, .int (nI nac), .ref aNw, .ref aNtr, .ref aNis, .ref aNbg, .ref aNow])), (aNs, .inl (g.2.1 0, 919, .inl (msF gr wk z lk sz br ru ki ma bb ce hd))), (aNk, .inl (g.2.1 0, 919, .inl (msF gr wk z lk sz br ru ki ma bb ce hd)))]) (q0 := 1) rfl (fun j hj => fillT_in _ _ hj) rfl ?_
      refine x_aload_n dX9_undo_41 rfl ?_
      refine x_iconst 1 dX9_undo_42 (by decide) ?_
      refine x_put (ws' := [(aN, .inr (9, [.ref aNs, .ref aNk, .int 1, .ref aNf, .ref aNr, .ref aNp, .ref aNb, .ref aNa, .ref aNt, .int (nI nts), .ref aNbo, .ref aNsz, .ref aNnu, .int (nI nta), .int (nI nop), .int nbd, .int ntp, .int (nI npr), .int 1, .int nsn, .int nwn, .ref aNl, .ref aNal, .ref aNlo, .int (nI nac), .ref aNw, .ref aNtr, .ref aNis, .ref aNbg, .ref aNow])), (aNs, .inl (g.2.1 0, 919, .inl (msF gr wk z lk sz br ru ki ma bb ce hd))), (aNk, .inl (g.2.1 0, 919, .inl (msF gr wk z lk sz br ru ki ma bb ce hd)))]) dX9_undo_43 0 18 inX9 tyX9_ok nmX9 fl_X9_44 rfl rfl (by decide) rfl (rfl) rfl (xlt rfl) rfl ?_
      refine x_aload_n dX9_undo_46 rfl ?_
      refine x_iconst 1 dX9_undo_47 (by decide) ?_
      refine x_put (ws' := [(aN, .inr (9, [.ref aNs, .ref aNk, .int 1, .ref aNf, .ref aNr, .ref aNp, .ref aNb, .ref aNa, .ref aNt, .int (nI nts), .ref aNbo, .ref aNsz, .ref aNnu, .int (nI nta), .int (nI nop), .int nbd, .int ntp, .int (nI npr), .int 1, .int 1, .int nwn, .ref aNl, .ref aNal, .ref aNlo, .int (nI nac), .ref aNw, .ref aNtr, .ref aNis, .ref aNbg, .ref aNow])), (aNs, .inl (g.2.1 0, 919, .inl (msF gr wk z lk sz br ru ki ma bb ce hd))), (aNk, .inl (g.2.1 0, 919, .inl (msF gr wk z lk sz br ru ki ma bb ce hd)))]) dX9_undo_48 0 19 inX9 tyX9_ok nmX9 fl_X9_48 rfl rfl (by decide) rfl (rfl) rfl (xlt rfl) rfl ?_
      refine x_aload_n dX9_undo_51 rfl ?_
      refine x_get dX9_undo_52 0 0 inX9 fl_X9_7 rfl rfl (by decide) rfl ?_
      refine x_iconst 1 dX9_undo_55 (by decide) ?_
      refine x_iald dX9_undo_56 1 1 rfl (rfl) (by decide) (by decide) ?_
      refine x_rei (nI wk) (rfl) ?_
      rw [← hQ]
      refine x_iret dX9_undo_57 rfl (Nat.le_of_ble_eq_true rfl) (Nat.le_of_ble_eq_true rfl) ?_
      exact ⟨rfl, rfl⟩
    · have c20 : ¬ (919 ≤ (nI i)) := c20
      have c20n := mt (nI_leI (a := 919) (b := i) (by omega) (by omega)).mpr c20
      refine x_aload_n dX9_undo_23 rfl ?_
      refine x_get dX9_undo_24 0 0 inX9 fl_X9_7 rfl rfl (by decide) rfl ?_
      refine x_iload_n dX9_undo_27 rfl ?_
      refine x_aload_n dX9_undo_28 rfl ?_
      refine x_get dX9_undo_29 0 1 inX9 fl_X9_13 rfl rfl (by decide) rfl ?_
      refine x_iload_n dX9_undo_32 rfl ?_
      refine x_iald dX9_undo_33 2 i rfl (rfl) (by omega) (by decide) ?_
      refine x_iast (ws' := [(aN, .inr (9, [.ref aNs, .ref aNk, .int 1, .ref aNf, .ref aNr, .ref aNp, .ref aNb, .ref aNa, .ref aNt, .int (nI nts), .ref aNbo, .ref aNsz, .ref aNnu, .int (nI nta), .int (nI nop), .int nbd, .int ntp, .int (nI npr), .int nnw, .int nsn, .int nwn, .ref aNl, .ref aNal, .ref aNlo, .int (nI nac), .ref aNw, .ref aNtr, .ref aNis, .ref aNbg, .ref aNow])), (aNs, .inl (g.2.1 0, 919, .inl (upd (fillT i (msF gr wk z lk sz br ru ki ma bb ce hd) sf) i ((msF gr wk z lk sz br ru ki ma bb ce hd) i)))), (aNk, .inl (g.2.1 0, 919, .inl (msF gr wk z lk sz br ru ki ma bb ce hd)))]) dX9_undo_34 1 i rfl (rfl) (by omega) (by decide) rfl ?_
      refine x_iinc (lv' := [some (.ref aN), some (.int (nI (i + 1)))]) (nI (i + 1)) dX9_undo_35 rfl (nI_addc i 1 rfl) rfl ?_
      refine x_goto dX9_undo_38 ?_
      exact ih16 (by omega) _ (by exact fillT_upd i (msF gr wk z lk sz br ru ki ma bb ce hd) sf)
  exact L16_1 0 (Nat.zero_le _) _ (by exact (fillT_0 _ _).symm)

