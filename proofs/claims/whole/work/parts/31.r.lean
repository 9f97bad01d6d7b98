
-- == end_t ==
theorem dX9_end_0 : xd cX9_end 0 (.aload_n 0) 1 1 := ⟨by decide +kernel, rfl⟩
theorem dX9_end_1 : xd cX9_end 1 (.getfield 112) 3 4 := ⟨by decide +kernel, rfl⟩
theorem dX9_end_4 : xj cX9_end 4 (.ifCond .eq) 7 14 := ⟨10, by decide +kernel, rfl, by decide⟩
theorem dX9_end_7 : xd cX9_end 7 (.aload_n 0) 1 8 := ⟨by decide +kernel, rfl⟩
theorem dX9_end_8 : xd cX9_end 8 (.getfield 115) 3 11 := ⟨by decide +kernel, rfl⟩
theorem dX9_end_11 : xj cX9_end 11 .goto 14 20 := ⟨9, by decide +kernel, rfl, by decide⟩
theorem dX9_end_14 : xd cX9_end 14 (.aload_n 0) 1 15 := ⟨by decide +kernel, rfl⟩
theorem dX9_end_15 : xd cX9_end 15 (.getfield 7) 3 18 := ⟨by decide +kernel, rfl⟩
theorem dX9_end_18 : xd cX9_end 18 (.iconst 4) 1 19 := ⟨by decide +kernel, rfl⟩
theorem dX9_end_19 : xd cX9_end 19 .iaload 1 20 := ⟨by decide +kernel, rfl⟩
theorem dX9_end_20 : xd cX9_end 20 .ireturn 1 21 := ⟨by decide +kernel, rfl⟩

set_option maxRecDepth 100000 in
set_option maxHeartbeats 4000000 in
theorem ct_end_t (l : Launch) (g : XG) (aN aNs aNk aNf aNr aNp aNb aNa aNt aNbo aNsz aNnu aNl aNal aNlo aNw aNtr aNis aNbg aNow nts nta nop npr nac : Nat) (nkp nbd nnw nsn nwn : Int32) (gr wk lk sz br : Nat) (z : Int32) (ru ki ma bb hd : Nat → Nat) (ce : Nat → Int32) (tb : Nat → Nat) : Ct l g 1 0 0 yX9_end cX9_end 1 (some .int) [.ref aN] [(aN, .inr (9, [.ref aNs, .ref aNk, .int nkp, .ref aNf, .ref aNr, .ref aNp, .ref aNb, .ref aNa, .ref aNt, .int (nI nts), .ref aNbo, .ref aNsz, .ref aNnu, .int (nI nta), .int (nI nop), .int nbd, .int 1, .int (nI npr), .int nnw, .int nsn, .int nwn, .ref aNl, .ref aNal, .ref aNlo, .int (nI nac), .ref aNw, .ref aNtr, .ref aNis, .ref aNbg, .ref aNow])), (aNs, .inl (g.2.1 0, 919, .inl (msF gr wk z lk sz br ru ki ma bb ce hd))), (aNt, .inl (g.2.1 0, 60, .inl (nIf tb)))] (xpi (nI (nts)) [(aN, .inr (9, [.ref aNs, .ref aNk, .int nkp, .ref aNf, .ref aNr, .ref aNp, .ref aNb, .ref aNa, .ref aNt, .int (nI nts), .ref aNbo, .ref aNsz, .ref aNnu, .int (nI nta), .int (nI nop), .int nbd, .int 1, .int (nI npr), .int nnw, .int nsn, .int nwn, .ref aNl, .ref aNal, .ref aNlo, .int (nI nac), .ref aNw, .ref aNtr, .ref aNis, .ref aNbg, .ref aNow])), (aNs, .inl (g.2.1 0, 919, .inl (msF gr wk z lk sz br ru ki ma bb ce hd))), (aNt, .inl (g.2.1 0, 60, .inl (nIf tb)))]) := by
  refine Ct.ofX (lv := [some (.ref aN)]) (by decide) rfl (Nat.le_of_ble_eq_true rfl) (fun κ => ?_)
  generalize hQ : xQ κ g 0 0 _ = Q
  refine x_aload_n dX9_end_0 rfl ?_
  refine x_get dX9_end_1 0 16 inX9 fl_X9_112 rfl rfl (by decide) rfl ?_
  refine x_if_eq dX9_end_4 (fun c4 => ?_) (fun c4 => ?_)
  · exact absurd c4 (by decide)
  refine x_aload_n dX9_end_7 rfl ?_
  refine x_get dX9_end_8 0 9 inX9 fl_X9_115 rfl rfl (by decide) rfl ?_
  refine x_goto dX9_end_11 ?_
  rw [← hQ]
  refine x_iret dX9_end_20 rfl (Nat.le_of_ble_eq_true rfl) (Nat.le_of_ble_eq_true rfl) ?_
  exact ⟨rfl, rfl⟩

-- == end_s ==
set_option maxRecDepth 100000 in
set_option maxHeartbeats 4000000 in
theorem ct_end_s (l : Launch) (g : XG) (aN aNs aNk aNf aNr aNp aNb aNa aNt aNbo aNsz aNnu aNl aNal aNlo aNw aNtr aNis aNbg aNow nts nta nop npr nac : Nat) (nkp nbd nnw nsn nwn : Int32) (gr wk lk sz br : Nat) (z : Int32) (ru ki ma bb hd : Nat → Nat) (ce : Nat → Int32) (tb : Nat → Nat) : Ct l g 1 0 0 yX9_end cX9_end 1 (some .int) [.ref aN] [(aN, .inr (9, [.ref aNs, .ref aNk, .int nkp, .ref aNf, .ref aNr, .ref aNp, .ref aNb, .ref aNa, .ref aNt, .int (nI nts), .ref aNbo, .ref aNsz, .ref aNnu, .int (nI nta), .int (nI nop), .int nbd, .int 0, .int (nI npr), .int nnw, .int nsn, .int nwn, .ref aNl, .ref aNal, .ref aNlo, .int (nI nac), .ref aNw, .ref aNtr, .ref aNis, .ref aNbg, .ref aNow])), (aNs, .inl (g.2.1 0, 919, .inl (msF gr wk z lk sz br ru ki ma bb ce hd))), (aNt, .inl (g.2.1 0, 60, .inl (nIf tb)))] (xpi (nI (sz)) [(aN, .inr (9, [.ref aNs, .ref aNk, .int nkp, .ref aNf, .ref aNr, .ref aNp, .ref aNb, .ref aNa, .ref aNt, .int (nI nts), .ref aNbo, .ref aNsz, .ref aNnu, .int (nI nta), .int (nI nop), .int nbd, .int 0, .int (nI npr), .int nnw, .int nsn, .int nwn, .ref aNl, .ref aNal, .ref aNlo, .int (nI nac), .ref aNw, .ref aNtr, .ref aNis, .ref aNbg, .ref aNow])), (aNs, .inl (g.2.1 0, 919, .inl (msF gr wk z lk sz br ru ki ma bb ce hd))), (aNt, .inl (g.2.1 0, 60, .inl (nIf tb)))]) := by
  refine Ct.ofX (lv := [some (.ref aN)]) (by decide) rfl (Nat.le_of_ble_eq_true rfl) (fun κ => ?_)
  generalize hQ : xQ κ g 0 0 _ = Q
  refine x_aload_n dX9_end_0 rfl ?_
  refine x_get dX9_end_1 0 16 inX9 fl_X9_112 rfl rfl (by decide) rfl ?_
  refine x_if_eq dX9_end_4 (fun c4 => ?_) (fun c4 => ?_)
  rotate_left
  · exact absurd c4 (by decide)
  refine x_aload_n dX9_end_14 rfl ?_
  refine x_get dX9_end_15 0 0 inX9 fl_X9_7 rfl rfl (by decide) rfl ?_
  refine x_iconst 4 dX9_end_18 (by decide) ?_
  refine x_iald dX9_end_19 1 4 rfl (rfl) (by decide) (by decide) ?_
  refine x_rei (nI sz) (rfl) ?_
  rw [← hQ]
  refine x_iret dX9_end_20 rfl (Nat.le_of_ble_eq_true rfl) (Nat.le_of_ble_eq_true rfl) ?_
  exact ⟨rfl, rfl⟩

-- == bh_t ==
theorem dX9_byteHere_0 : xd cX9_byteHere 0 (.aload_n 0) 1 1 := ⟨by decide +kernel, rfl⟩
theorem dX9_byteHere_1 : xd cX9_byteHere 1 (.getfield 119) 3 4 := ⟨by decide +kernel, rfl⟩
theorem dX9_byteHere_4 : xd cX9_byteHere 4 (.aload_n 0) 1 5 := ⟨by decide +kernel, rfl⟩
theorem dX9_byteHere_5 : xd cX9_byteHere 5 (.invokevirtual 122) 3 8 := ⟨by decide +kernel, rfl⟩
theorem dX9_byteHere_8 : xj cX9_byteHere 8 (.if_icmp .lt) 11 15 := ⟨7, by decide +kernel, rfl, by decide⟩
theorem dX9_byteHere_11 : xd cX9_byteHere 11 (.iconst (-1)) 1 12 := ⟨by decide +kernel, rfl⟩
theorem dX9_byteHere_12 : xj cX9_byteHere 12 .goto 15 46 := ⟨34, by decide +kernel, rfl, by decide⟩
theorem dX9_byteHere_15 : xd cX9_byteHere 15 (.aload_n 0) 1 16 := ⟨by decide +kernel, rfl⟩
theorem dX9_byteHere_16 : xd cX9_byteHere 16 (.getfield 112) 3 19 := ⟨by decide +kernel, rfl⟩
theorem dX9_byteHere_19 : xj cX9_byteHere 19 (.ifCond .eq) 22 34 := ⟨15, by decide +kernel, rfl, by decide⟩
theorem dX9_byteHere_22 : xd cX9_byteHere 22 (.aload_n 0) 1 23 := ⟨by decide +kernel, rfl⟩
theorem dX9_byteHere_23 : xd cX9_byteHere 23 (.getfield 31) 3 26 := ⟨by decide +kernel, rfl⟩
theorem dX9_byteHere_26 : xd cX9_byteHere 26 (.aload_n 0) 1 27 := ⟨by decide +kernel, rfl⟩
theorem dX9_byteHere_27 : xd cX9_byteHere 27 (.getfield 119) 3 30 := ⟨by decide +kernel, rfl⟩
theorem dX9_byteHere_30 : xd cX9_byteHere 30 .iaload 1 31 := ⟨by decide +kernel, rfl⟩
theorem dX9_byteHere_31 : xj cX9_byteHere 31 .goto 34 46 := ⟨15, by decide +kernel, rfl, by decide⟩
theorem dX9_byteHere_34 : xd cX9_byteHere 34 (.aload_n 0) 1 35 := ⟨by decide +kernel, rfl⟩
theorem dX9_byteHere_35 : xd cX9_byteHere 35 (.getfield 7) 3 38 := ⟨by decide +kernel, rfl⟩
theorem dX9_byteHere_38 : xd cX9_byteHere 38 (.bipush 44) 2 40 := ⟨by decide +kernel, rfl⟩
theorem dX9_byteHere_40 : xd cX9_byteHere 40 (.aload_n 0) 1 41 := ⟨by decide +kernel, rfl⟩
theorem dX9_byteHere_41 : xd cX9_byteHere 41 (.getfield 119) 3 44 := ⟨by decide +kernel, rfl⟩
theorem dX9_byteHere_44 : xd cX9_byteHere 44 .iadd 1 45 := ⟨by decide +kernel, rfl⟩
theorem dX9_byteHere_45 : xd cX9_byteHere 45 .iaload 1 46 := ⟨by decide +kernel, rfl⟩
theorem dX9_byteHere_46 : xd cX9_byteHere 46 .ireturn 1 47 := ⟨by decide +kernel, rfl⟩

set_option maxRecDepth 100000 in
set_option maxHeartbeats 4000000 in
theorem ct_bh_t (l : Launch) (g : XG) (aN aNs aNk aNf aNr aNp aNb aNa aNt aNbo aNsz aNnu aNl aNal aNlo aNw aNtr aNis aNbg aNow nts nta nop npr nac : Nat) (nkp nbd nnw nsn nwn : Int32) (gr wk lk sz br : Nat) (z : Int32) (ru ki ma bb hd : Nat → Nat) (ce : Nat → Int32) (tb : Nat → Nat) (ha : nta ≤ nts) (hn : nts ≤ 60) (hb : ∀ j, tb j < 256) : Ct l g 2 0 0 yX9_byteHere cX9_byteHere 1 (some .int) [.ref aN] [(aN, .inr (9, [.ref aNs, .ref aNk, .int nkp, .ref aNf, .ref aNr, .ref aNp, .ref aNb, .ref aNa, .ref aNt, .int (nI nts), .ref aNbo, .ref aNsz, .ref aNnu, .int (nI nta), .int (nI nop), .int nbd, .int 1, .int (nI npr), .int nnw, .int nsn, .int nwn, .ref aNl, .ref aNal, .ref aNlo, .int (nI nac), .ref aNw, .ref aNtr, .ref aNis, .ref aNbg, .ref aNow])), (aNs, .inl (g.2.1 0, 919, .inl (msF gr wk z lk sz br ru ki ma bb ce hd))), (aNt, .inl (g.2.1 0, 60, .inl (nIf tb)))] (xpi (hI (hB tb nts) nta) [(aN, .inr (9, [.ref aNs, .ref aNk, .int nkp, .ref aNf, .ref aNr, .ref aNp, .ref aNb, .ref aNa, .ref aNt, .int (nI nts), .ref aNbo, .ref aNsz, .ref aNnu, .int (nI nta), .int (nI nop), .int nbd, .int 1, .int (nI npr), .int nnw, .int nsn, .int nwn, .ref aNl, .ref aNal, .ref aNlo, .int (nI nac), .ref aNw, .ref aNtr, .ref aNis, .ref aNbg, .ref aNow])), (aNs, .inl (g.2.1 0, 919, .inl (msF gr wk z lk sz br ru ki ma bb ce hd))), (aNt, .inl (g.2.1 0, 60, .inl (nIf tb)))]) := by
  refine Ct.ofX (lv := [some (.ref aN)]) (by decide) rfl (Nat.le_of_ble_eq_true rfl) (fun κ => ?_)
  generalize hQ : xQ κ g 0 0 _ = Q
  refine x_aload_n dX9_byteHere_0 rfl ?_
  refine x_get dX9_byteHere_1 0 13 inX9 fl_X9_119 rfl rfl (by decide) rfl ?_
  refine x_aload_n dX9_byteHere_4 rfl ?_
  refine x_cVi0 dX9_byteHere_5 ml_X9_122 mX9_end (ct_end_t κ.2.1 g aN aNs aNk aNf aNr aNp aNb aNa aNt aNbo aNsz aNnu aNl aNal aNlo aNw aNtr aNis aNbg aNow nts nta nop npr nac nkp nbd nnw nsn nwn gr wk lk sz br z ru ki ma bb hd ce tb) [0, 1, 2] rfl rfl 0 rfl rfl rfl (Nat.le_of_ble_eq_true rfl) (by decide) (Nat.le_refl _) (Nat.le_refl _) ?_
  refine x_icmp_lt dX9_byteHere_8 (fun c8 => ?_) (fun c8 => ?_)
  · have c8 : (nI nta) < (nI nts) := c8
    have c8n := (nI_ltI (a := nta) (b := nts) (by omega) (by omega)).mp c8
    refine x_aload_n dX9_byteHere_15 rfl ?_
    refine x_get dX9_byteHere_16 0 16 inX9 fl_X9_112 rfl rfl (by decide) rfl ?_
    refine x_if_eq dX9_byteHere_19 (fun c19 => ?_) (fun c19 => ?_)
    · exact absurd c19 (by decide)
    refine x_aload_n dX9_byteHere_22 rfl ?_
    refine x_get dX9_byteHere_23 0 8 inX9 fl_X9_31 rfl rfl (by decide) rfl ?_
    refine x_aload_n dX9_byteHere_26 rfl ?_
    refine x_get dX9_byteHere_27 0 13 inX9 fl_X9_119 rfl rfl (by decide) rfl ?_
    refine x_iald dX9_byteHere_30 2 nta rfl (rfl) (by omega) (by decide) ?_
    refine x_goto dX9_byteHere_31 ?_
    rw [← hQ]
    refine x_iret dX9_byteHere_46 rfl (Nat.le_of_ble_eq_true rfl) (Nat.le_of_ble_eq_true rfl) ?_
    exact ⟨by rw [hI_eq hb]; first | (rw [if_neg (by omega)] <;> rfl) | (rw [if_pos (by omega)] <;> rfl), rfl⟩
  · have c8 : ¬ ((nI nta) < (nI nts)) := c8
    have c8n := mt (nI_ltI (a := nta) (b := nts) (by omega) (by omega)).mpr c8
    refine x_iconst (-1) dX9_byteHere_11 (by decide) ?_
    refine x_goto dX9_byteHere_12 ?_
    rw [← hQ]
    refine x_iret dX9_byteHere_46 rfl (Nat.le_of_ble_eq_true rfl) (Nat.le_of_ble_eq_true rfl) ?_
    exact ⟨by rw [hI_eq hb]; first | (rw [if_neg (by omega)] <;> rfl) | (rw [if_pos (by omega)] <;> rfl), rfl⟩

-- == bh_s ==
set_option maxRecDepth 100000 in
set_option maxHeartbeats 4000000 in
theorem ct_bh_s (l : Launch) (g : XG) (aN aNs aNk aNf aNr aNp aNb aNa aNt aNbo aNsz aNnu aNl aNal aNlo aNw aNtr aNis aNbg aNow nts nta nop npr nac : Nat) (nkp nbd nnw nsn nwn : Int32) (gr wk lk sz br : Nat) (z : Int32) (ru ki ma bb hd : Nat → Nat) (ce : Nat → Int32) (tb : Nat → Nat) (ha : nta ≤ sz) (hn : sz ≤ 60) (hb : ∀ j, bb j < 256) : Ct l g 2 0 0 yX9_byteHere cX9_byteHere 1 (some .int) [.ref aN] [(aN, .inr (9, [.ref aNs, .ref aNk, .int nkp, .ref aNf, .ref aNr, .ref aNp, .ref aNb, .ref aNa, .ref aNt, .int (nI nts), .ref aNbo, .ref aNsz, .ref aNnu, .int (nI nta), .int (nI nop), .int nbd, .int 0, .int (nI npr), .int nnw, .int nsn, .int nwn, .ref aNl, .ref aNal, .ref aNlo, .int (nI nac), .ref aNw, .ref aNtr, .ref aNis, .ref aNbg, .ref aNow])), (aNs, .inl (g.2.1 0, 919, .inl (msF gr wk z lk sz br ru ki ma bb ce hd))), (aNt, .inl (g.2.1 0, 60, .inl (nIf tb)))] (xpi (hI (hB bb sz) nta) [(aN, .inr (9, [.ref aNs, .ref aNk, .int nkp, .ref aNf, .ref aNr, .ref aNp, .ref aNb, .ref aNa, .ref aNt, .int (nI nts), .ref aNbo, .ref aNsz, .ref aNnu, .int (nI nta), .int (nI nop), .int nbd, .int 0, .int (nI npr), .int nnw, .int nsn, .int nwn, .ref aNl, .ref aNal, .ref aNlo, .int (nI nac), .ref aNw, .ref aNtr, .ref aNis, .ref aNbg, .ref aNow])), (aNs, .inl (g.2.1 0, 919, .inl (msF gr wk z lk sz br ru ki ma bb ce hd))), (aNt, .inl (g.2.1 0, 60, .inl (nIf tb)))]) := by
  refine Ct.ofX (lv := [some (.ref aN)]) (by decide) rfl (Nat.le_of_ble_eq_true rfl) (fun κ => ?_)
  generalize hQ : xQ κ g 0 0 _ = Q
  refine x_aload_n dX9_byteHere_0 rfl ?_
  refine x_get dX9_byteHere_1 0 13 inX9 fl_X9_119 rfl rfl (by decide) rfl ?_
  refine x_aload_n dX9_byteHere_4 rfl ?_
  refine x_cVi0 dX9_byteHere_5 ml_X9_122 mX9_end (ct_end_s κ.2.1 g aN aNs aNk aNf aNr aNp aNb aNa aNt aNbo aNsz aNnu aNl aNal aNlo aNw aNtr aNis aNbg aNow nts nta nop npr nac nkp nbd nnw nsn nwn gr wk lk sz br z ru ki ma bb hd ce tb) [0, 1, 2] rfl rfl 0 rfl rfl rfl (Nat.le_of_ble_eq_true rfl) (by decide) (Nat.le_refl _) (Nat.le_refl _) ?_
  refine x_icmp_lt dX9_byteHere_8 (fun c8 => ?_) (fun c8 => ?_)
  · have c8 : (nI nta) < (nI sz) := c8
    have c8n := (nI_ltI (a := nta) (b := sz) (by omega) (by omega)).mp c8
    refine x_aload_n dX9_byteHere_15 rfl ?_
    refine x_get dX9_byteHere_16 0 16 inX9 fl_X9_112 rfl rfl (by decide) rfl ?_
    refine x_if_eq dX9_byteHere_19 (fun c19 => ?_) (fun c19 => ?_)
    rotate_left
    · exact absurd c19 (by decide)
    refine x_aload_n dX9_byteHere_34 rfl ?_
    refine x_get dX9_byteHere_35 0 0 inX9 fl_X9_7 rfl rfl (by decide) rfl ?_
    refine x_bipush 44 dX9_byteHere_38 (by decide) ?_
    refine x_aload_n dX9_byteHere_40 rfl ?_
    refine x_get dX9_byteHere_41 0 13 inX9 fl_X9_119 rfl rfl (by decide) rfl ?_
    refine x_iadd dX9_byteHere_44 ?_
    refine x_rei (nI (44 + nta)) (nI_iadd 44 nta) ?_
    refine x_iald dX9_byteHere_45 1 (44 + nta) rfl (rfl) (by omega) (by decide) ?_
    refine x_rei (nI (bb nta)) (msg_bb (x := nta) (by omega) (by omega)) ?_
    rw [← hQ]
    refine x_iret dX9_byteHere_46 rfl (Nat.le_of_ble_eq_true rfl) (Nat.le_of_ble_eq_true rfl) ?_
    exact ⟨by rw [hI_eq hb]; first | (rw [if_neg (by omega)] <;> rfl) | (rw [if_pos (by omega)] <;> rfl), rfl⟩
  · have c8 : ¬ ((nI nta) < (nI sz)) := c8
    have c8n := mt (nI_ltI (a := nta) (b := sz) (by omega) (by omega)).mpr c8
    refine x_iconst (-1) dX9_byteHere_11 (by decide) ?_
    refine x_goto dX9_byteHere_12 ?_
    rw [← hQ]
    refine x_iret dX9_byteHere_46 rfl (Nat.le_of_ble_eq_true rfl) (Nat.le_of_ble_eq_true rfl) ?_
    exact ⟨by rw [hI_eq hb]; first | (rw [if_neg (by omega)] <;> rfl) | (rw [if_pos (by omega)] <;> rfl), rfl⟩

-- == X9_byteHere ==
theorem ct_X9_byteHere (l : Launch) (g : XG) (aN aNs aNk aNf aNr aNp aNb aNa aNt aNbo aNsz aNnu aNl aNal aNlo aNw aNtr aNis aNbg aNow nts nta nop npr nac : Nat) (nkp nbd ntp nnw nsn nwn : Int32) (gr wk lk sz br : Nat) (z : Int32) (ru ki ma bb hd : Nat → Nat) (ce : Nat → Int32) (tb b : Nat → Nat) (n : Nat) (ht : (ntp = 1 ∧ n = nts ∧ b = tb) ∨ (ntp = 0 ∧ n = sz ∧ b = bb)) (ha : nta ≤ n) (hn : n ≤ 60) (hb : ∀ j, b j < 256) : Ct l g 2 0 0 yX9_byteHere cX9_byteHere 1 (some .int) [.ref aN] [(aN, .inr (9, [.ref aNs, .ref aNk, .int nkp, .ref aNf, .ref aNr, .ref aNp, .ref aNb, .ref aNa, .ref aNt, .int (nI nts), .ref aNbo, .ref aNsz, .ref aNnu, .int (nI nta), .int (nI nop), .int nbd, .int ntp, .int (nI npr), .int nnw, .int nsn, .int nwn, .ref aNl, .ref aNal, .ref aNlo, .int (nI nac), .ref aNw, .ref aNtr, .ref aNis, .ref aNbg, .ref aNow])), (aNs, .inl (g.2.1 0, 919, .inl (msF gr wk z lk sz br ru ki ma bb ce hd))), (aNt, .inl (g.2.1 0, 60, .inl (nIf tb)))] (xpi (hI (hB b n) nta) [(aN, .inr (9, [.ref aNs, .ref aNk, .int nkp, .ref aNf, .ref aNr, .ref aNp, .ref aNb, .ref aNa, .ref aNt, .int (nI nts), .ref aNbo, .ref aNsz, .ref aNnu, .int (nI nta), .int (nI nop), .int nbd, .int ntp, .int (nI npr), .int nnw, .int nsn, .int nwn, .ref aNl, .ref aNal, .ref aNlo, .int (nI nac), .ref aNw, .ref aNtr, .ref aNis, .ref aNbg, .ref aNow])), (aNs, .inl (g.2.1 0, 919, .inl (msF gr wk z lk sz br ru ki ma bb ce hd))), (aNt, .inl (g.2.1 0, 60, .inl (nIf tb)))]) := by
  rcases ht with ⟨rfl, rfl, rfl⟩ | ⟨rfl, rfl, rfl⟩
  · exact ct_bh_t l g _ _ _ _ _ _ _ _ _ _ _ _ _ _ _ _ _ _ _ _ _ _ _ _ _ _ _ _ _ _ _ _ _ _ _ _ _ _ _ _ _ _ _ ha hn hb
  · exact ct_bh_s l g _ _ _ _ _ _ _ _ _ _ _ _ _ _ _ _ _ _ _ _ _ _ _ _ _ _ _ _ _ _ _ _ _ _ _ _ _ _ _ _ _ _ _ ha hn hb

-- == takes_y ==
theorem dX9_takes_0 : xd cX9_takes 0 (.aload_n 0) 1 1 := ⟨by decide +kernel, rfl⟩
theorem dX9_takes_1 : xd cX9_takes 1 (.getfield 135) 3 4 := ⟨by decide +kernel, rfl⟩
theorem dX9_takes_4 : xj cX9_takes 4 (.ifCond .ne) 7 15 := ⟨11, by decide +kernel, rfl, by decide⟩
theorem dX9_takes_7 : xd cX9_takes 7 (.aload_n 0) 1 8 := ⟨by decide +kernel, rfl⟩
theorem dX9_takes_8 : xd cX9_takes 8 (.invokevirtual 138) 3 11 := ⟨by decide +kernel, rfl⟩
theorem dX9_takes_11 : xd cX9_takes 11 (.iload_n 1) 1 12 := ⟨by decide +kernel, rfl⟩
theorem dX9_takes_12 : xj cX9_takes 12 (.if_icmp .eq) 15 17 := ⟨5, by decide +kernel, rfl, by decide⟩
theorem dX9_takes_15 : xd cX9_takes 15 (.iconst 0) 1 16 := ⟨by decide +kernel, rfl⟩
theorem dX9_takes_16 : xd cX9_takes 16 .ireturn 1 17 := ⟨by decide +kernel, rfl⟩
theorem dX9_takes_17 : xd cX9_takes 17 (.aload_n 0) 1 18 := ⟨by decide +kernel, rfl⟩
theorem dX9_takes_18 : xd cX9_takes 18 .dup 1 19 := ⟨by decide +kernel, rfl⟩
theorem dX9_takes_19 : xd cX9_takes 19 (.getfield 119) 3 22 := ⟨by decide +kernel, rfl⟩
theorem dX9_takes_22 : xd cX9_takes 22 (.iconst 1) 1 23 := ⟨by decide +kernel, rfl⟩
theorem dX9_takes_23 : xd cX9_takes 23 .iadd 1 24 := ⟨by decide +kernel, rfl⟩
theorem dX9_takes_24 : xd cX9_takes 24 (.putfield 119) 3 27 := ⟨by decide +kernel, rfl⟩
theorem dX9_takes_27 : xd cX9_takes 27 (.iconst 1) 1 28 := ⟨by decide +kernel, rfl⟩
theorem dX9_takes_28 : xd cX9_takes 28 .ireturn 1 29 := ⟨by decide +kernel, rfl⟩

set_option maxRecDepth 100000 in
set_option maxHeartbeats 4000000 in
theorem ct_takes_y (l : Launch) (g : XG) (aN aNs aNk aNf aNr aNp aNb aNa aNt aNbo aNsz aNnu aNl aNal aNlo aNw aNtr aNis aNbg aNow nts nta nop npr nac : Nat) (nkp ntp nnw nsn nwn : Int32) (gr wk lk sz br : Nat) (z : Int32) (ru ki ma bb hd : Nat → Nat) (ce : Nat → Int32) (tb b : Nat → Nat) (n : Nat) (c : Nat) (ht : (ntp = 1 ∧ n = nts ∧ b = tb) ∨ (ntp = 0 ∧ n = sz ∧ b = bb)) (ha : nta ≤ n) (hn : n ≤ 60) (hb : ∀ j, b j < 256) (hc : c < 256) (hq : hB b n nta = c) : Ct l g 3 0 0 yX9_takes cX9_takes 2 (some .boolean) [.ref aN, .int (nI c)] [(aN, .inr (9, [.ref aNs, .ref aNk, .int nkp, .ref aNf, .ref aNr, .ref aNp, .ref aNb, .ref aNa, .ref aNt, .int (nI nts), .ref aNbo, .ref aNsz, .ref aNnu, .int (nI nta), .int (nI nop), .int 0, .int ntp, .int (nI npr), .int nnw, .int nsn, .int nwn, .ref aNl, .ref aNal, .ref aNlo, .int (nI nac), .ref aNw, .ref aNtr, .ref aNis, .ref aNbg, .ref aNow])), (aNs, .inl (g.2.1 0, 919, .inl (msF gr wk z lk sz br ru ki ma bb ce hd))), (aNt, .inl (g.2.1 0, 60, .inl (nIf tb)))] (xpi (1) [(aN, .inr (9, [.ref aNs, .ref aNk, .int nkp, .ref aNf, .ref aNr, .ref aNp, .ref aNb, .ref aNa, .ref aNt, .int (nI nts), .ref aNbo, .ref aNsz, .ref aNnu, .int (nI (nta + 1)), .int (nI nop), .int 0, .int ntp, .int (nI npr), .int nnw, .int nsn, .int nwn, .ref aNl, .ref aNal, .ref aNlo, .int (nI nac), .ref aNw, .ref aNtr, .ref aNis, .ref aNbg, .ref aNow])), (aNs, .inl (g.2.1 0, 919, .inl (msF gr wk z lk sz br ru ki ma bb ce hd))), (aNt, .inl (g.2.1 0, 60, .inl (nIf tb)))]) := by
  refine Ct.ofX (lv := [some (.ref aN), some (.int (nI c))]) (by decide) rfl (Nat.le_of_ble_eq_true rfl) (fun κ => ?_)
  generalize hQ : xQ κ g 0 0 _ = Q
  refine x_aload_n dX9_takes_0 rfl ?_
  refine x_get dX9_takes_1 0 15 inX9 fl_X9_135 rfl rfl (by decide) rfl ?_
  refine x_if_ne dX9_takes_4 (fun c4 => ?_) (fun c4 => ?_)
  · exact absurd c4 (by decide)
  refine x_aload_n dX9_takes_7 rfl ?_
  refine x_cVi0 dX9_takes_8 ml_X9_138 mX9_byteHere (ct_X9_byteHere κ.2.1 g aN aNs aNk aNf aNr aNp aNb aNa aNt aNbo aNsz aNnu aNl aNal aNlo aNw aNtr aNis aNbg aNow nts nta nop npr nac nkp 0 ntp nnw nsn nwn gr wk lk sz br z ru ki ma bb hd ce tb b n (ht) (by omega) (hn) (hb)) [0, 1, 2] rfl rfl 0 rfl rfl rfl (Nat.le_of_ble_eq_true rfl) (by decide) (Nat.le_refl _) (Nat.le_refl _) ?_
  refine x_rei (nI c) (by rw [hI, hq, if_pos hc]) ?_
  refine x_iload_n dX9_takes_11 rfl ?_
  refine x_icmp_eq dX9_takes_12 (fun c12 => ?_) (fun c12 => ?_)
  · have c12 : (nI c) = (nI c) := c12
    have c12n := (nI_eq (a := c) (b := c) (by omega) (by omega)).mp c12
    refine x_aload_n dX9_takes_17 rfl ?_
    have hav := hB_lt hq hc
    refine x_dup dX9_takes_18 rfl ?_
    refine x_get dX9_takes_19 0 13 inX9 fl_X9_119 rfl rfl (by decide) rfl ?_
    refine x_iconst 1 dX9_takes_22 (by decide) ?_
    refine x_iadd dX9_takes_23 ?_
    refine x_rei (nI (nta + 1)) (nI_addc nta 1 rfl) ?_
    refine x_put (ws' := [(aN, .inr (9, [.ref aNs, .ref aNk, .int nkp, .ref aNf, .ref aNr, .ref aNp, .ref aNb, .ref aNa, .ref aNt, .int (nI nts), .ref aNbo, .ref aNsz, .ref aNnu, .int (nI (nta + 1)), .int (nI nop), .int 0, .int ntp, .int (nI npr), .int nnw, .int nsn, .int nwn, .ref aNl, .ref aNal, .ref aNlo, .int (nI nac), .ref aNw, .ref aNtr, .ref aNis, .ref aNbg, .ref aNow])), (aNs, .inl (g.2.1 0, 919, .inl (msF gr wk z lk sz br ru ki ma bb ce hd))), (aNt, .inl (g.2.1 0, 60, .inl (nIf tb)))]) dX9_takes_24 0 13 inX9 tyX9_ok nmX9 fl_X9_119 rfl rfl (by decide) rfl (rfl) rfl (xlt rfl) rfl ?_
    refine x_iconst 1 dX9_takes_27 (by decide) ?_
    rw [← hQ]
    refine x_zret dX9_takes_28 rfl (rfl) (Nat.le_of_ble_eq_true rfl) (Nat.le_of_ble_eq_true rfl) ?_
    exact ⟨rfl, rfl⟩
  · have c12 : ¬ ((nI c) = (nI c)) := c12
    have c12n := mt (nI_eq (a := c) (b := c) (by omega) (by omega)).mpr c12
    exact absurd rfl c12

-- == takes_n ==
set_option maxRecDepth 100000 in
set_option maxHeartbeats 4000000 in
theorem ct_takes_n (l : Launch) (g : XG) (aN aNs aNk aNf aNr aNp aNb aNa aNt aNbo aNsz aNnu aNl aNal aNlo aNw aNtr aNis aNbg aNow nts nta nop npr nac : Nat) (nkp ntp nnw nsn nwn : Int32) (gr wk lk sz br : Nat) (z : Int32) (ru ki ma bb hd : Nat → Nat) (ce : Nat → Int32) (tb b : Nat → Nat) (n : Nat) (c : Nat) (ht : (ntp = 1 ∧ n = nts ∧ b = tb) ∨ (ntp = 0 ∧ n = sz ∧ b = bb)) (ha : nta ≤ n) (hn : n ≤ 60) (hb : ∀ j, b j < 256) (hc : c < 256) (hq : ¬ hB b n nta = c) : Ct l g 3 0 0 yX9_takes cX9_takes 2 (some .boolean) [.ref aN, .int (nI c)] [(aN, .inr (9, [.ref aNs, .ref aNk, .int nkp, .ref aNf, .ref aNr, .ref aNp, .ref aNb, .ref aNa, .ref aNt, .int (nI nts), .ref aNbo, .ref aNsz, .ref aNnu, .int (nI nta), .int (nI nop), .int 0, .int ntp, .int (nI npr), .int nnw, .int nsn, .int nwn, .ref aNl, .ref aNal, .ref aNlo, .int (nI nac), .ref aNw, .ref aNtr, .ref aNis, .ref aNbg, .ref aNow])), (aNs, .inl (g.2.1 0, 919, .inl (msF gr wk z lk sz br ru ki ma bb ce hd))), (aNt, .inl (g.2.1 0, 60, .inl (nIf tb)))] (xpi (0) [(aN, .inr (9, [.ref aNs, .ref aNk, .int nkp, .ref aNf, .ref aNr, .ref aNp, .ref aNb, .ref aNa, .ref aNt, .int (nI nts), .ref aNbo, .ref aNsz, .ref aNnu, .int (nI nta), .int (nI nop), .int 0, .int ntp, .int (nI npr), .int nnw, .int nsn, .int nwn, .ref aNl, .ref aNal, .ref aNlo, .int (nI nac), .ref aNw, .ref aNtr, .ref aNis, .ref aNbg, .ref aNow])), (aNs, .inl (g.2.1 0, 919, .inl (msF gr wk z lk sz br ru ki ma bb ce hd))), (aNt, .inl (g.2.1 0, 60, .inl (nIf tb)))]) := by
  refine Ct.ofX (lv := [some (.ref aN), some (.int (nI c))]) (by decide) rfl (Nat.le_of_ble_eq_true rfl) (fun κ => ?_)
  generalize hQ : xQ κ g 0 0 _ = Q
  refine x_aload_n dX9_takes_0 rfl ?_
  refine x_get dX9_takes_1 0 15 inX9 fl_X9_135 rfl rfl (by decide) rfl ?_
  refine x_if_ne dX9_takes_4 (fun c4 => ?_) (fun c4 => ?_)
  · exact absurd c4 (by decide)
  refine x_aload_n dX9_takes_7 rfl ?_
  refine x_cVi0 dX9_takes_8 ml_X9_138 mX9_byteHere (ct_X9_byteHere κ.2.1 g aN aNs aNk aNf aNr aNp aNb aNa aNt aNbo aNsz aNnu aNl aNal aNlo aNw aNtr aNis aNbg aNow nts nta nop npr nac nkp 0 ntp nnw nsn nwn gr wk lk sz br z ru ki ma bb hd ce tb b n (ht) (by omega) (hn) (hb)) [0, 1, 2] rfl rfl 0 rfl rfl rfl (Nat.le_of_ble_eq_true rfl) (by decide) (Nat.le_refl _) (Nat.le_refl _) ?_
  rcases hI_cases (hB b n) nta with ⟨hlt, hh⟩ | ⟨hlt, hh⟩ <;> rw [hh]
  · skip
    refine x_iload_n dX9_takes_11 rfl ?_
    refine x_icmp_eq dX9_takes_12 (fun c12 => ?_) (fun c12 => ?_)
    · have c12 : (nI (hB b n nta)) = (nI c) := c12
      have c12n := (nI_eq (a := (hB b n nta)) (b := c) (by omega) (by omega)).mp c12
      first | exact absurd c12n hq | exact absurd c12 (nI_m1 (by omega))
    · have c12 : ¬ ((nI (hB b n nta)) = (nI c)) := c12
      have c12n := mt (nI_eq (a := (hB b n nta)) (b := c) (by omega) (by omega)).mpr c12
      refine x_iconst 0 dX9_takes_15 (by decide) ?_
      rw [← hQ]
      refine x_zret dX9_takes_16 rfl (rfl) (Nat.le_of_ble_eq_true rfl) (Nat.le_of_ble_eq_true rfl) ?_
      exact ⟨rfl, rfl⟩
  · skip
    refine x_iload_n dX9_takes_11 rfl ?_
    refine x_icmp_eq dX9_takes_12 (fun c12 => ?_) (fun c12 => ?_)
    · have c12 : (-1) = (nI c) := c12
      first | exact absurd c12n hq | exact absurd c12 (nI_m1 (by omega))
    · have c12 : ¬ ((-1) = (nI c)) := c12
      refine x_iconst 0 dX9_takes_15 (by decide) ?_
      rw [← hQ]
      refine x_zret dX9_takes_16 rfl (rfl) (Nat.le_of_ble_eq_true rfl) (Nat.le_of_ble_eq_true rfl) ?_
      exact ⟨rfl, rfl⟩

-- == takes_b ==
set_option maxRecDepth 100000 in
set_option maxHeartbeats 4000000 in
theorem ct_takes_b (l : Launch) (g : XG) (aN aNs aNk aNf aNr aNp aNb aNa aNt aNbo aNsz aNnu aNl aNal aNlo aNw aNtr aNis aNbg aNow nts nta nop npr nac : Nat) (nkp ntp nnw nsn nwn : Int32) (gr wk lk sz br : Nat) (z : Int32) (ru ki ma bb hd : Nat → Nat) (ce : Nat → Int32) (tb : Nat → Nat) (c : Nat) : Ct l g 3 0 0 yX9_takes cX9_takes 2 (some .boolean) [.ref aN, .int (nI c)] [(aN, .inr (9, [.ref aNs, .ref aNk, .int nkp, .ref aNf, .ref aNr, .ref aNp, .ref aNb, .ref aNa, .ref aNt, .int (nI nts), .ref aNbo, .ref aNsz, .ref aNnu, .int (nI nta), .int (nI nop), .int 1, .int ntp, .int (nI npr), .int nnw, .int nsn, .int nwn, .ref aNl, .ref aNal, .ref aNlo, .int (nI nac), .ref aNw, .ref aNtr, .ref aNis, .ref aNbg, .ref aNow])), (aNs, .inl (g.2.1 0, 919, .inl (msF gr wk z lk sz br ru ki ma bb ce hd))), (aNt, .inl (g.2.1 0, 60, .inl (nIf tb)))] (xpi (0) [(aN, .inr (9, [.ref aNs, .ref aNk, .int nkp, .ref aNf, .ref aNr, .ref aNp, .ref aNb, .ref aNa, .ref aNt, .int (nI nts), .ref aNbo, .ref aNsz, .ref aNnu, .int (nI nta), .int (nI nop), .int 1, .int ntp, .int (nI npr), .int nnw, .int nsn, .int nwn, .ref aNl, .ref aNal, .ref aNlo, .int (nI nac), .ref aNw, .ref aNtr, .ref aNis, .ref aNbg, .ref aNow])), (aNs, .inl (g.2.1 0, 919, .inl (msF gr wk z lk sz br ru ki ma bb ce hd))), (aNt, .inl (g.2.1 0, 60, .inl (nIf tb)))]) := by
  refine Ct.ofX (lv := [some (.ref aN), some (.int (nI c))]) (by decide) rfl (Nat.le_of_ble_eq_true rfl) (fun κ => ?_)
  generalize hQ : xQ κ g 0 0 _ = Q
  refine x_aload_n dX9_takes_0 rfl ?_
  refine x_get dX9_takes_1 0 15 inX9 fl_X9_135 rfl rfl (by decide) rfl ?_
  refine x_if_ne dX9_takes_4 (fun c4 => ?_) (fun c4 => ?_)
  rotate_left
  · exact absurd c4 (by decide)
  refine x_iconst 0 dX9_takes_15 (by decide) ?_
  rw [← hQ]
  refine x_zret dX9_takes_16 rfl (rfl) (Nat.le_of_ble_eq_true rfl) (Nat.le_of_ble_eq_true rfl) ?_
  exact ⟨rfl, rfl⟩

-- == must_y ==
theorem dX9_must_0 : xd cX9_must 0 (.aload_n 0) 1 1 := ⟨by decide +kernel, rfl⟩
theorem dX9_must_1 : xd cX9_must 1 (.aload_n 0) 1 2 := ⟨by decide +kernel, rfl⟩
theorem dX9_must_2 : xd cX9_must 2 (.iload_n 1) 1 3 := ⟨by decide +kernel, rfl⟩
theorem dX9_must_3 : xd cX9_must 3 (.invokevirtual 141) 3 6 := ⟨by decide +kernel, rfl⟩
theorem dX9_must_6 : xj cX9_must 6 (.ifCond .ne) 9 13 := ⟨7, by decide +kernel, rfl, by decide⟩
theorem dX9_must_9 : xd cX9_must 9 (.iconst 1) 1 10 := ⟨by decide +kernel, rfl⟩
theorem dX9_must_10 : xj cX9_must 10 .goto 13 14 := ⟨4, by decide +kernel, rfl, by decide⟩
theorem dX9_must_13 : xd cX9_must 13 (.iconst 0) 1 14 := ⟨by decide +kernel, rfl⟩
theorem dX9_must_14 : xd cX9_must 14 (.putfield 135) 3 17 := ⟨by decide +kernel, rfl⟩
theorem dX9_must_17 : xd cX9_must 17 .return_ 1 18 := ⟨by decide +kernel, rfl⟩

set_option maxRecDepth 100000 in
set_option maxHeartbeats 4000000 in
theorem ct_must_y (l : Launch) (g : XG) (aN aNs aNk aNf aNr aNp aNb aNa aNt aNbo aNsz aNnu aNl aNal aNlo aNw aNtr aNis aNbg aNow nts nta nop npr nac : Nat) (nkp ntp nnw nsn nwn : Int32) (gr wk lk sz br : Nat) (z : Int32) (ru ki ma bb hd : Nat → Nat) (ce : Nat → Int32) (tb b : Nat → Nat) (n : Nat) (c : Nat) (ht : (ntp = 1 ∧ n = nts ∧ b = tb) ∨ (ntp = 0 ∧ n = sz ∧ b = bb)) (ha : nta ≤ n) (hn : n ≤ 60) (hb : ∀ j, b j < 256) (hc : c < 256) (hq : hB b n nta = c) : Ct l g 4 0 0 yX9_must cX9_must 2 none [.ref aN, .int (nI c)] [(aN, .inr (9, [.ref aNs, .ref aNk, .int nkp, .ref aNf, .ref aNr, .ref aNp, .ref aNb, .ref aNa, .ref aNt, .int (nI nts), .ref aNbo, .ref aNsz, .ref aNnu, .int (nI nta), .int (nI nop), .int 0, .int ntp, .int (nI npr), .int nnw, .int nsn, .int nwn, .ref aNl, .ref aNal, .ref aNlo, .int (nI nac), .ref aNw, .ref aNtr, .ref aNis, .ref aNbg, .ref aNow])), (aNs, .inl (g.2.1 0, 919, .inl (msF gr wk z lk sz br ru ki ma bb ce hd))), (aNt, .inl (g.2.1 0, 60, .inl (nIf tb)))] (xpv [(aN, .inr (9, [.ref aNs, .ref aNk, .int nkp, .ref aNf, .ref aNr, .ref aNp, .ref aNb, .ref aNa, .ref aNt, .int (nI nts), .ref aNbo, .ref aNsz, .ref aNnu, .int (nI (nta + 1)), .int (nI nop), .int 0, .int ntp, .int (nI npr), .int nnw, .int nsn, .int nwn, .ref aNl, .ref aNal, .ref aNlo, .int (nI nac), .ref aNw, .ref aNtr, .ref aNis, .ref aNbg, .ref aNow])), (aNs, .inl (g.2.1 0, 919, .inl (msF gr wk z lk sz br ru ki ma bb ce hd))), (aNt, .inl (g.2.1 0, 60, .inl (nIf tb)))]) := by
  refine Ct.ofX (lv := [some (.ref aN), some (.int (nI c))]) (by decide) rfl (Nat.le_of_ble_eq_true rfl) (fun κ => ?_)
  generalize hQ : xQ κ g 0 0 _ = Q
  refine x_aload_n dX9_must_0 rfl ?_
  refine x_aload_n dX9_must_1 rfl ?_
  refine x_iload_n dX9_must_2 rfl ?_
  refine x_cVi (ws' := [(aN, .inr (9, [.ref aNs, .ref aNk, .int nkp, .ref aNf, .ref aNr, .ref aNp, .ref aNb, .ref aNa, .ref aNt, .int (nI nts), .ref aNbo, .ref aNsz, .ref aNnu, .int (nI (nta + 1)), .int (nI nop), .int 0, .int ntp, .int (nI npr), .int nnw, .int nsn, .int nwn, .ref aNl, .ref aNal, .ref aNlo, .int (nI nac), .ref aNw, .ref aNtr, .ref aNis, .ref aNbg, .ref aNow])), (aNs, .inl (g.2.1 0, 919, .inl (msF gr wk z lk sz br ru ki ma bb ce hd))), (aNt, .inl (g.2.1 0, 60, .inl (nIf tb)))]) dX9_must_3 ml_X9_141 mX9_takes (ct_takes_y κ.2.1 g aN aNs aNk aNf aNr aNp aNb aNa aNt aNbo aNsz aNnu aNl aNal aNlo aNw aNtr aNis aNbg aNow nts nta nop npr nac nkp ntp nnw nsn nwn gr wk lk sz br z ru ki ma bb hd ce tb b n c (ht) (by omega) (hn) (hb) (hc) (hq)) [0, 1, 2] rfl rfl 0 rfl rfl rfl (Nat.le_of_ble_eq_true rfl) (by decide) (Nat.le_refl _) (Nat.le_refl _) (rfl : [aN, aNs, aNt] = [aN, aNs, aNt]) rfl ?_
  refine x_if_ne dX9_must_6 (fun c6 => ?_) (fun c6 => ?_)
  rotate_left
  · exact absurd c6 (by decide)
  refine x_iconst 0 dX9_must_13 (by decide) ?_
  refine x_put (ws' := [(aN, .inr (9, [.ref aNs, .ref aNk, .int nkp, .ref aNf, .ref aNr, .ref aNp, .ref aNb, .ref aNa, .ref aNt, .int (nI nts), .ref aNbo, .ref aNsz, .ref aNnu, .int (nI (nta + 1)), .int (nI nop), .int 0, .int ntp, .int (nI npr), .int nnw, .int nsn, .int nwn, .ref aNl, .ref aNal, .ref aNlo, .int (nI nac), .ref aNw, .ref aNtr, .ref aNis, .ref aNbg, .ref aNow])), (aNs, .inl (g.2.1 0, 919, .inl (msF gr wk z lk sz br ru ki ma bb ce hd))), (aNt, .inl (g.2.1 0, 60, .inl (nIf tb)))]) dX9_must_14 0 15 inX9 tyX9_ok nmX9 fl_X9_135 rfl rfl (by decide) rfl (rfl) rfl (xlt rfl) rfl ?_
  rw [← hQ]
  refine x_vret dX9_must_17 rfl (Nat.le_of_ble_eq_true rfl) (Nat.le_of_ble_eq_true rfl) ?_
  exact ⟨rfl, rfl⟩

-- == must_n ==
set_option maxRecDepth 100000 in
set_option maxHeartbeats 4000000 in
theorem ct_must_n (l : Launch) (g : XG) (aN aNs aNk aNf aNr aNp aNb aNa aNt aNbo aNsz aNnu aNl aNal aNlo aNw aNtr aNis aNbg aNow nts nta nop npr nac : Nat) (nkp ntp nnw nsn nwn : Int32) (gr wk lk sz br : Nat) (z : Int32) (ru ki ma bb hd : Nat → Nat) (ce : Nat → Int32) (tb b : Nat → Nat) (n : Nat) (c : Nat) (ht : (ntp = 1 ∧ n = nts ∧ b = tb) ∨ (ntp = 0 ∧ n = sz ∧ b = bb)) (ha : nta ≤ n) (hn : n ≤ 60) (hb : ∀ j, b j < 256) (hc : c < 256) (hq : ¬ hB b n nta = c) : Ct l g 4 0 0 yX9_must cX9_must 2 none [.ref aN, .int (nI c)] [(aN, .inr (9, [.ref aNs, .ref aNk, .int nkp, .ref aNf, .ref aNr, .ref aNp, .ref aNb, .ref aNa, .ref aNt, .int (nI nts), .ref aNbo, .ref aNsz, .ref aNnu, .int (nI nta), .int (nI nop), .int 0, .int ntp, .int (nI npr), .int nnw, .int nsn, .int nwn, .ref aNl, .ref aNal, .ref aNlo, .int (nI nac), .ref aNw, .ref aNtr, .ref aNis, .ref aNbg, .ref aNow])), (aNs, .inl (g.2.1 0, 919, .inl (msF gr wk z lk sz br ru ki ma bb ce hd))), (aNt, .inl (g.2.1 0, 60, .inl (nIf tb)))] (xpv [(aN, .inr (9, [.ref aNs, .ref aNk, .int nkp, .ref aNf, .ref aNr, .ref aNp, .ref aNb, .ref aNa, .ref aNt, .int (nI nts), .ref aNbo, .ref aNsz, .ref aNnu, .int (nI nta), .int (nI nop), .int 1, .int ntp, .int (nI npr), .int nnw, .int nsn, .int nwn, .ref aNl, .ref aNal, .ref aNlo, .int (nI nac), .ref aNw, .ref aNtr, .ref aNis, .ref aNbg, .ref aNow])), (aNs, .inl (g.2.1 0, 919, .inl (msF gr wk z lk sz br ru ki ma bb ce hd))), (aNt, .inl (g.2.1 0, 60, .inl (nIf tb)))]) := by
  refine Ct.ofX (lv := [some (.ref aN), some (.int (nI c))]) (by decide) rfl (Nat.le_of_ble_eq_true rfl) (fun κ => ?_)
  generalize hQ : xQ κ g 0 0 _ = Q
  refine x_aload_n dX9_must_0 rfl ?_
  refine x_aload_n dX9_must_1 rfl ?_
  refine x_iload_n dX9_must_2 rfl ?_
  refine x_cVi0 dX9_must_3 ml_X9_141 mX9_takes (ct_takes_n κ.2.1 g aN aNs aNk aNf aNr aNp aNb aNa aNt aNbo aNsz aNnu aNl aNal aNlo aNw aNtr aNis aNbg aNow nts nta nop npr nac nkp ntp nnw nsn nwn gr wk lk sz br z ru ki ma bb hd ce tb b n c (ht) (by omega) (hn) (hb) (hc) (hq)) [0, 1, 2] rfl rfl 0 rfl rfl rfl (Nat.le_of_ble_eq_true rfl) (by decide) (Nat.le_refl _) (Nat.le_refl _) ?_
  refine x_if_ne dX9_must_6 (fun c6 => ?_) (fun c6 => ?_)
  · exact absurd c6 (by decide)
  refine x_iconst 1 dX9_must_9 (by decide) ?_
  refine x_goto dX9_must_10 ?_
  refine x_put (ws' := [(aN, .inr (9, [.ref aNs, .ref aNk, .int nkp, .ref aNf, .ref aNr, .ref aNp, .ref aNb, .ref aNa, .ref aNt, .int (nI nts), .ref aNbo, .ref aNsz, .ref aNnu, .int (nI nta), .int (nI nop), .int 1, .int ntp, .int (nI npr), .int nnw, .int nsn, .int nwn, .ref aNl, .ref aNal, .ref aNlo, .int (nI nac), .ref aNw, .ref aNtr, .ref aNis, .ref aNbg, .ref aNow])), (aNs, .inl (g.2.1 0, 919, .inl (msF gr wk z lk sz br ru ki ma bb ce hd))), (aNt, .inl (g.2.1 0, 60, .inl (nIf tb)))]) dX9_must_14 0 15 inX9 tyX9_ok nmX9 fl_X9_135 rfl rfl (by decide) rfl (rfl) rfl (xlt rfl) rfl ?_
  rw [← hQ]
  refine x_vret dX9_must_17 rfl (Nat.le_of_ble_eq_true rfl) (Nat.le_of_ble_eq_true rfl) ?_
  exact ⟨rfl, rfl⟩

-- == must_b ==
set_option maxRecDepth 100000 in
set_option maxHeartbeats 4000000 in
theorem ct_must_b (l : Launch) (g : XG) (aN aNs aNk aNf aNr aNp aNb aNa aNt aNbo aNsz aNnu aNl aNal aNlo aNw aNtr aNis aNbg aNow nts nta nop npr nac : Nat) (nkp ntp nnw nsn nwn : Int32) (gr wk lk sz br : Nat) (z : Int32) (ru ki ma bb hd : Nat → Nat) (ce : Nat → Int32) (tb b : Nat → Nat) (n : Nat) (c : Nat) (ht : (ntp = 1 ∧ n = nts ∧ b = tb) ∨ (ntp = 0 ∧ n = sz ∧ b = bb)) (ha : nta ≤ n) (hn : n ≤ 60) (hb : ∀ j, b j < 256) (hc : c < 256) : Ct l g 4 0 0 yX9_must cX9_must 2 none [.ref aN, .int (nI c)] [(aN, .inr (9, [.ref aNs, .ref aNk, .int nkp, .ref aNf, .ref aNr, .ref aNp, .ref aNb, .ref aNa, .ref aNt, .int (nI nts), .ref aNbo, .ref aNsz, .ref aNnu, .int (nI nta), .int (nI nop), .int 1, .int ntp, .int (nI npr), .int nnw, .int nsn, .int nwn, .ref aNl, .ref aNal, .ref aNlo, .int (nI nac), .ref aNw, .ref aNtr, .ref aNis, .ref aNbg, .ref aNow])), (aNs, .inl (g.2.1 0, 919, .inl (msF gr wk z lk sz br ru ki ma bb ce hd))), (aNt, .inl (g.2.1 0, 60, .inl (nIf tb)))] (xpv [(aN, .inr (9, [.ref aNs, .ref aNk, .int nkp, .ref aNf, .ref aNr, .ref aNp, .ref aNb, .ref aNa, .ref aNt, .int (nI nts), .ref aNbo, .ref aNsz, .ref aNnu, .int (nI nta), .int (nI nop), .int 1, .int ntp, .int (nI npr), .int nnw, .int nsn, .int nwn, .ref aNl, .ref aNal, .ref aNlo, .int (nI nac), .ref aNw, .ref aNtr, .ref aNis, .ref aNbg, .ref aNow])), (aNs, .inl (g.2.1 0, 919, .inl (msF gr wk z lk sz br ru ki ma bb ce hd))), (aNt, .inl (g.2.1 0, 60, .inl (nIf tb)))]) := by
  refine Ct.ofX (lv := [some (.ref aN), some (.int (nI c))]) (by decide) rfl (Nat.le_of_ble_eq_true rfl) (fun κ => ?_)
  generalize hQ : xQ κ g 0 0 _ = Q
  refine x_aload_n dX9_must_0 rfl ?_
  refine x_aload_n dX9_must_1 rfl ?_
  refine x_iload_n dX9_must_2 rfl ?_
  refine x_cVi0 dX9_must_3 ml_X9_141 mX9_takes (ct_takes_b κ.2.1 g aN aNs aNk aNf aNr aNp aNb aNa aNt aNbo aNsz aNnu aNl aNal aNlo aNw aNtr aNis aNbg aNow nts nta nop npr nac nkp ntp nnw nsn nwn gr wk lk sz br z ru ki ma bb hd ce tb c) [0, 1, 2] rfl rfl 0 rfl rfl rfl (Nat.le_of_ble_eq_true rfl) (by decide) (Nat.le_refl _) (Nat.le_refl _) ?_
  refine x_if_ne dX9_must_6 (fun c6 => ?_) (fun c6 => ?_)
  · exact absurd c6 (by decide)
  refine x_iconst 1 dX9_must_9 (by decide) ?_
  refine x_goto dX9_must_10 ?_
  refine x_put (ws' := [(aN, .inr (9, [.ref aNs, .ref aNk, .int nkp, .ref aNf, .ref aNr, .ref aNp, .ref aNb, .ref aNa, .ref aNt, .int (nI nts), .ref aNbo, .ref aNsz, .ref aNnu, .int (nI nta), .int (nI nop), .int 1, .int ntp, .int (nI npr), .int nnw, .int nsn, .int nwn, .ref aNl, .ref aNal, .ref aNlo, .int (nI nac), .ref aNw, .ref aNtr, .ref aNis, .ref aNbg, .ref aNow])), (aNs, .inl (g.2.1 0, 919, .inl (msF gr wk z lk sz br ru ki ma bb ce hd))), (aNt, .inl (g.2.1 0, 60, .inl (nIf tb)))]) dX9_must_14 0 15 inX9 tyX9_ok nmX9 fl_X9_135 rfl rfl (by decide) rfl (rfl) rfl (xlt rfl) rfl ?_
  rw [← hQ]
  refine x_vret dX9_must_17 rfl (Nat.le_of_ble_eq_true rfl) (Nat.le_of_ble_eq_true rfl) ?_
  exact ⟨rfl, rfl⟩

-- == X9_must ==
theorem ct_X9_must (l : Launch) (g : XG) (aN aNs aNk aNf aNr aNp aNb aNa aNt aNbo aNsz aNnu aNl aNal aNlo aNw aNtr aNis aNbg aNow nts nta nop npr nac : Nat) (nkp ntp nnw nsn nwn : Int32) (gr wk lk sz br : Nat) (z : Int32) (ru ki ma bb hd : Nat → Nat) (ce : Nat → Int32) (tb b : Nat → Nat) (n : Nat) (c : Nat) (bd : Bool) (ht : (ntp = 1 ∧ n = nts ∧ b = tb) ∨ (ntp = 0 ∧ n = sz ∧ b = bb)) (ha : nta ≤ n) (hn : n ≤ 60) (hb : ∀ j, b j < 256) (hc : c < 256) : Ct l g 4 0 0 yX9_must cX9_must 2 none [.ref aN, .int (nI c)] [(aN, .inr (9, [.ref aNs, .ref aNk, .int nkp, .ref aNf, .ref aNr, .ref aNp, .ref aNb, .ref aNa, .ref aNt, .int (nI nts), .ref aNbo, .ref aNsz, .ref aNnu, .int (nI nta), .int (nI nop), .int (bI bd), .int ntp, .int (nI npr), .int nnw, .int nsn, .int nwn, .ref aNl, .ref aNal, .ref aNlo, .int (nI nac), .ref aNw, .ref aNtr, .ref aNis, .ref aNbg, .ref aNow])), (aNs, .inl (g.2.1 0, 919, .inl (msF gr wk z lk sz br ru ki ma bb ce hd))), (aNt, .inl (g.2.1 0, 60, .inl (nIf tb)))] (xpv [(aN, .inr (9, [.ref aNs, .ref aNk, .int nkp, .ref aNf, .ref aNr, .ref aNp, .ref aNb, .ref aNa, .ref aNt, .int (nI nts), .ref aNbo, .ref aNsz, .ref aNnu, .int (nI ((pasA (hB b n) c bd nta).1)), .int (nI nop), .int (bI (pasA (hB b n) c bd nta).2), .int ntp, .int (nI npr), .int nnw, .int nsn, .int nwn, .ref aNl, .ref aNal, .ref aNlo, .int (nI nac), .ref aNw, .ref aNtr, .ref aNis, .ref aNbg, .ref aNow])), (aNs, .inl (g.2.1 0, 919, .inl (msF gr wk z lk sz br ru ki ma bb ce hd))), (aNt, .inl (g.2.1 0, 60, .inl (nIf tb)))]) := by
  rcases tk_cases bd (hB b n) nta c with ⟨rfl, q⟩ | ⟨rfl, q⟩ | rfl
  · rw [pasA_1 q]; exact ct_must_y l g _ _ _ _ _ _ _ _ _ _ _ _ _ _ _ _ _ _ _ _ _ _ _ _ _ _ _ _ _ _ _ _ _ _ _ _ _ _ _ _ _ _ _ _ _ _ ht ha hn hb hc q
  · rw [pasA_0 q]; exact ct_must_n l g _ _ _ _ _ _ _ _ _ _ _ _ _ _ _ _ _ _ _ _ _ _ _ _ _ _ _ _ _ _ _ _ _ _ _ _ _ _ _ _ _ _ _ _ _ _ ht ha hn hb hc q
  · rw [pasA_t]; exact ct_must_b l g _ _ _ _ _ _ _ _ _ _ _ _ _ _ _ _ _ _ _ _ _ _ _ _ _ _ _ _ _ _ _ _ _ _ _ _ _ _ _ _ _ _ _ _ _ _ ht ha hn hb hc

-- == X9_number ==
theorem dX9_number_0 : xd cX9_number 0 (.iconst 0) 1 1 := ⟨by decide +kernel, rfl⟩
theorem dX9_number_1 : xd cX9_number 1 (.istore_n 1) 1 2 := ⟨by decide +kernel, rfl⟩
theorem dX9_number_2 : xd cX9_number 2 (.iconst 0) 1 3 := ⟨by decide +kernel, rfl⟩
theorem dX9_number_3 : xd cX9_number 3 (.istore_n 2) 1 4 := ⟨by decide +kernel, rfl⟩
theorem dX9_number_4 : xd cX9_number 4 (.iload_n 2) 1 5 := ⟨by decide +kernel, rfl⟩
theorem dX9_number_5 : xd cX9_number 5 (.iconst 3) 1 6 := ⟨by decide +kernel, rfl⟩
theorem dX9_number_6 : xj cX9_number 6 (.if_icmp .ge) 9 55 := ⟨49, by decide +kernel, rfl, by decide⟩
theorem dX9_number_9 : xd cX9_number 9 (.aload_n 0) 1 10 := ⟨by decide +kernel, rfl⟩
theorem dX9_number_10 : xd cX9_number 10 (.invokevirtual 138) 3 13 := ⟨by decide +kernel, rfl⟩
theorem dX9_number_13 : xd cX9_number 13 .i2l 1 14 := ⟨by decide +kernel, rfl⟩
theorem dX9_number_14 : xd cX9_number 14 (.ldc2_w 144) 3 17 := ⟨by decide +kernel, rfl⟩
theorem dX9_number_17 : xd cX9_number 17 (.ldc2_w 146) 3 20 := ⟨by decide +kernel, rfl⟩
theorem dX9_number_20 : xd cX9_number 20 (.invokestatic 98) 3 23 := ⟨by decide +kernel, rfl⟩
theorem dX9_number_23 : xj cX9_number 23 (.ifCond .eq) 26 55 := ⟨32, by decide +kernel, rfl, by decide⟩
theorem dX9_number_26 : xd cX9_number 26 (.bipush 10) 2 28 := ⟨by decide +kernel, rfl⟩
theorem dX9_number_28 : xd cX9_number 28 (.iload_n 1) 1 29 := ⟨by decide +kernel, rfl⟩
theorem dX9_number_29 : xd cX9_number 29 .imul 1 30 := ⟨by decide +kernel, rfl⟩
theorem dX9_number_30 : xd cX9_number 30 (.aload_n 0) 1 31 := ⟨by decide +kernel, rfl⟩
theorem dX9_number_31 : xd cX9_number 31 (.invokevirtual 138) 3 34 := ⟨by decide +kernel, rfl⟩
theorem dX9_number_34 : xd cX9_number 34 .iadd 1 35 := ⟨by decide +kernel, rfl⟩
theorem dX9_number_35 : xd cX9_number 35 (.bipush 48) 2 37 := ⟨by decide +kernel, rfl⟩
theorem dX9_number_37 : xd cX9_number 37 .isub 1 38 := ⟨by decide +kernel, rfl⟩
theorem dX9_number_38 : xd cX9_number 38 (.istore_n 1) 1 39 := ⟨by decide +kernel, rfl⟩
theorem dX9_number_39 : xd cX9_number 39 (.aload_n 0) 1 40 := ⟨by decide +kernel, rfl⟩
theorem dX9_number_40 : xd cX9_number 40 .dup 1 41 := ⟨by decide +kernel, rfl⟩
theorem dX9_number_41 : xd cX9_number 41 (.getfield 119) 3 44 := ⟨by decide +kernel, rfl⟩
theorem dX9_number_44 : xd cX9_number 44 (.iconst 1) 1 45 := ⟨by decide +kernel, rfl⟩
theorem dX9_number_45 : xd cX9_number 45 .iadd 1 46 := ⟨by decide +kernel, rfl⟩
theorem dX9_number_46 : xd cX9_number 46 (.putfield 119) 3 49 := ⟨by decide +kernel, rfl⟩
theorem dX9_number_49 : xd cX9_number 49 (.iinc 2 1) 3 52 := ⟨by decide +kernel, rfl⟩
theorem dX9_number_52 : xj cX9_number 52 .goto 55 4 := ⟨(-48), by decide +kernel, rfl, by decide⟩
theorem dX9_number_55 : xd cX9_number 55 (.iload_n 1) 1 56 := ⟨by decide +kernel, rfl⟩
theorem dX9_number_56 : xd cX9_number 56 .ireturn 1 57 := ⟨by decide +kernel, rfl⟩

set_option maxRecDepth 100000 in
set_option maxHeartbeats 4000000 in
theorem ct_X9_number (l : Launch) (g : XG) (aN aNs aNk aNf aNr aNp aNb aNa aNt aNbo aNsz aNnu aNl aNal aNlo aNw aNtr aNis aNbg aNow nts nta nop npr nac : Nat) (nkp ntp nnw nsn nwn : Int32) (gr wk lk sz br : Nat) (z : Int32) (ru ki ma bb hd : Nat → Nat) (ce : Nat → Int32) (tb b : Nat → Nat) (n : Nat) (ht : (ntp = 1 ∧ n = nts ∧ b = tb) ∨ (ntp = 0 ∧ n = sz ∧ b = bb)) (ha : nta ≤ n) (hn : n ≤ 60) (hb : ∀ j, b j < 256) : Ct l g 3 0 0 yX9_number cX9_number 3 (some .int) [.ref aN] [(aN, .inr (9, [.ref aNs, .ref aNk, .int nkp, .ref aNf, .ref aNr, .ref aNp, .ref aNb, .ref aNa, .ref aNt, .int (nI nts), .ref aNbo, .ref aNsz, .ref aNnu, .int (nI nta), .int (nI nop), .int 0, .int ntp, .int (nI npr), .int nnw, .int nsn, .int nwn, .ref aNl, .ref aNal, .ref aNlo, .int (nI nac), .ref aNw, .ref aNtr, .ref aNis, .ref aNbg, .ref aNow])), (aNs, .inl (g.2.1 0, 919, .inl (msF gr wk z lk sz br ru ki ma bb ce hd))), (aNt, .inl (g.2.1 0, 60, .inl (nIf tb)))] (xpi (nI ((numI (hB b n) nta).2)) [(aN, .inr (9, [.ref aNs, .ref aNk, .int nkp, .ref aNf, .ref aNr, .ref aNp, .ref aNb, .ref aNa, .ref aNt, .int (nI nts), .ref aNbo, .ref aNsz, .ref aNnu, .int (nI ((numI (hB b n) nta).1)), .int (nI nop), .int 0, .int ntp, .int (nI npr), .int nnw, .int nsn, .int nwn, .ref aNl, .ref aNal, .ref aNlo, .int (nI nac), .ref aNw, .ref aNtr, .ref aNis, .ref aNbg, .ref aNow])), (aNs, .inl (g.2.1 0, 919, .inl (msF gr wk z lk sz br ru ki ma bb ce hd))), (aNt, .inl (g.2.1 0, 60, .inl (nIf tb)))]) := by
  refine Ct.ofX (lv := [some (.ref aN), none, none]) (by decide) rfl (Nat.le_of_ble_eq_true rfl) (fun κ => ?_)
  generalize hQ : xQ κ g 0 0 _ = Q
  refine x_iconst 0 dX9_number_0 (by decide) ?_
  refine x_istore_n (lv' := [some (.ref aN), some (.int 0), none]) dX9_number_1 (xlt rfl) rfl ?_
  refine x_iconst 0 dX9_number_2 (by decide) ?_
  refine x_istore_n (lv' := [some (.ref aN), some (.int 0), some (.int 0)]) dX9_number_3 (xlt rfl) rfl ?_
  have L4_1 : ∀ (i : Nat), i ≤ 3 → ∀ (qa : Nat), qa = (itr (nmS (hB b n)) i (nta, 0)).1 → ∀ (qv : Nat), qv = (itr (nmS (hB b n)) i (nta, 0)).2 → Xs κ g 3 0 0 cX9_number yX9_number (some .int) Q 0 0 4 [some (.ref aN), some (.int (nI qv)), some (.int (nI i))] [] [(aN, .inr (9, [.ref aNs, .ref aNk, .int nkp, .ref aNf, .ref aNr, .ref aNp, .ref aNb, .ref aNa, .ref aNt, .int (nI nts), .ref aNbo, .ref aNsz, .ref aNnu, .int (nI qa), .int (nI nop), .int 0, .int ntp, .int (nI npr), .int nnw, .int nsn, .int nwn, .ref aNl, .ref aNal, .ref aNlo, .int (nI nac), .ref aNw, .ref aNtr, .ref aNis, .ref aNbg, .ref aNow])), (aNs, .inl (g.2.1 0, 919, .inl (msF gr wk z lk sz br ru ki ma bb ce hd))), (aNt, .inl (g.2.1 0, 60, .inl (nIf tb)))] := by
    refine upTo 3 (fun i hi4 ih4 => ?_)
    intro qa eqa
    subst eqa
    intro qv eqv
    subst eqv
    have hqa : (itr (nmS (hB b n)) i (nta, 0)).1 ≤ n := nmSi_le (okH_hB b n) ha i
    refine x_iload_n dX9_number_4 rfl ?_
    refine x_iconst 3 dX9_number_5 (by decide) ?_
    refine x_icmp_ge dX9_number_6 (fun c6 => ?_) (fun c6 => ?_)
    · have c6 : 3 ≤ (nI i) := c6
      have c6n := (nI_leI (a := 3) (b := i) (by omega) (by omega)).mp c6
      have hxc6 : i = 3 := by omega
      try rw [hxc6]
      refine x_iload_n dX9_number_55 rfl ?_
      rw [← hQ]
      refine x_iret dX9_number_56 rfl (Nat.le_of_ble_eq_true rfl) (Nat.le_of_ble_eq_true rfl) ?_
      exact ⟨by first | rfl | (rw [show numI (hB b n) nta = (itr (nmS (hB b n)) i (nta, 0)) from itr_fix rfl (by rw [nmS, if_neg (by first | exact dgW0 hlt c23 | exact dg_no hlt)]) (by omega)]), by first | rfl | (rw [show numI (hB b n) nta = (itr (nmS (hB b n)) i (nta, 0)) from itr_fix rfl (by rw [nmS, if_neg (by first | exact dgW0 hlt c23 | exact dg_no hlt)]) (by omega)])⟩
    · have c6 : ¬ (3 ≤ (nI i)) := c6
      have c6n := mt (nI_leI (a := 3) (b := i) (by omega) (by omega)).mpr c6
      refine x_aload_n dX9_number_9 rfl ?_
      refine x_cVi0 dX9_number_10 ml_X9_138 mX9_byteHere (ct_X9_byteHere κ.2.1 g aN aNs aNk aNf aNr aNp aNb aNa aNt aNbo aNsz aNnu aNl aNal aNlo aNw aNtr aNis aNbg aNow nts ((itr (nmS (hB b n)) i (nta, 0)).1) nop npr nac nkp 0 ntp nnw nsn nwn gr wk lk sz br z ru ki ma bb hd ce tb b n (ht) (hqa) (hn) (hb)) [0, 1, 2] rfl rfl 0 rfl rfl rfl (Nat.le_of_ble_eq_true rfl) (by decide) (Nat.le_refl _) (Nat.le_refl _) ?_
      rcases hI_cases (hB b n) (itr (nmS (hB b n)) i (nta, 0)).1 with ⟨hlt, hh⟩ | ⟨hlt, hh⟩ <;> rw [hh]
      · skip
        refine x_i2l dX9_number_13 ?_
        refine x_ldc2 dX9_number_14 kl_X9_144 ?_
        refine x_ldc2 dX9_number_17 kl_X9_146 ?_
        refine x_cSi dX9_number_20 ml_X9_98 mX9_isIn (ct_X9_isIn κ.2.1 g ((nI (hB b n (itr (nmS (hB b n)) i (nta, 0)).1)).toInt64) 48 57) rfl (Nat.le_of_ble_eq_true rfl) (by decide) (Nat.le_refl _) (Nat.le_refl _) ?_
        refine x_rei (wI (nI (hB b n (itr (nmS (hB b n)) i (nta, 0)).1)) 48 57) (inL_w (nI (hB b n (itr (nmS (hB b n)) i (nta, 0)).1)) 48 57 (by first | rfl | decide) (by first | rfl | decide)) ?_
        skip
        refine x_if_eq dX9_number_23 (fun c23 => ?_) (fun c23 => ?_)
        · have c23 : (wI (nI (hB b n (itr (nmS (hB b n)) i (nta, 0)).1)) 48 57) = 0 := c23
          refine x_iload_n dX9_number_55 rfl ?_
          rw [← hQ]
          refine x_iret dX9_number_56 rfl (Nat.le_of_ble_eq_true rfl) (Nat.le_of_ble_eq_true rfl) ?_
          exact ⟨by first | rfl | (rw [show numI (hB b n) nta = (itr (nmS (hB b n)) i (nta, 0)) from itr_fix rfl (by rw [nmS, if_neg (by first | exact dgW0 hlt c23 | exact dg_no hlt)]) (by omega)]), by first | rfl | (rw [show numI (hB b n) nta = (itr (nmS (hB b n)) i (nta, 0)) from itr_fix rfl (by rw [nmS, if_neg (by first | exact dgW0 hlt c23 | exact dg_no hlt)]) (by omega)])⟩
        · have c23 : ¬ ((wI (nI (hB b n (itr (nmS (hB b n)) i (nta, 0)).1)) 48 57) = 0) := c23
          refine x_bipush 10 dX9_number_26 (by decide) ?_
          refine x_iload_n dX9_number_28 rfl ?_
          refine x_imul dX9_number_29 ?_
          refine x_rei (nI (10 * ((itr (nmS (hB b n)) i (nta, 0)).2))) (nI_imul 10 ((itr (nmS (hB b n)) i (nta, 0)).2)) ?_
          refine x_aload_n dX9_number_30 rfl ?_
          refine x_cVi0 dX9_number_31 ml_X9_138 mX9_byteHere (ct_X9_byteHere κ.2.1 g aN aNs aNk aNf aNr aNp aNb aNa aNt aNbo aNsz aNnu aNl aNal aNlo aNw aNtr aNis aNbg aNow nts ((itr (nmS (hB b n)) i (nta, 0)).1) nop npr nac nkp 0 ntp nnw nsn nwn gr wk lk sz br z ru ki ma bb hd ce tb b n (ht) (hqa) (hn) (hb)) [0, 1, 2] rfl rfl 0 rfl rfl rfl (Nat.le_of_ble_eq_true rfl) (by decide) (Nat.le_refl _) (Nat.le_refl _) ?_
          refine x_rei (nI (hB b n (itr (nmS (hB b n)) i (nta, 0)).1)) (if_pos hlt) ?_
          refine x_iadd dX9_number_34 ?_
          refine x_rei (nI ((10 * ((itr (nmS (hB b n)) i (nta, 0)).2)) + (hB b n (itr (nmS (hB b n)) i (nta, 0)).1))) (nI_iadd (10 * ((itr (nmS (hB b n)) i (nta, 0)).2)) (hB b n (itr (nmS (hB b n)) i (nta, 0)).1)) ?_
          refine x_bipush 48 dX9_number_35 (by decide) ?_
          have hdr := dg_rng (dgW1 hlt c23)
          refine x_isub dX9_number_37 ?_
          refine x_rei (nI (((10 * ((itr (nmS (hB b n)) i (nta, 0)).2)) + (hB b n (itr (nmS (hB b n)) i (nta, 0)).1)) - 48)) (nI_isub ((10 * ((itr (nmS (hB b n)) i (nta, 0)).2)) + (hB b n (itr (nmS (hB b n)) i (nta, 0)).1)) 48 (by omega)) ?_
          refine x_istore_n (lv' := [some (.ref aN), some (.int (nI (((10 * ((itr (nmS (hB b n)) i (nta, 0)).2)) + (hB b n (itr (nmS (hB b n)) i (nta, 0)).1)) - 48))), some (.int (nI i))]) dX9_number_38 (xlt rfl) rfl ?_
          refine x_aload_n dX9_number_39 rfl ?_
          refine x_dup dX9_number_40 rfl ?_
          refine x_get dX9_number_41 0 13 inX9 fl_X9_119 rfl rfl (by decide) rfl ?_
          refine x_iconst 1 dX9_number_44 (by decide) ?_
          refine x_iadd dX9_number_45 ?_
          refine x_rei (nI (((itr (nmS (hB b n)) i (nta, 0)).1) + 1)) (nI_addc ((itr (nmS (hB b n)) i (nta, 0)).1) 1 rfl) ?_
          refine x_put (ws' := [(aN, .inr (9, [.ref aNs, .ref aNk, .int nkp, .ref aNf, .ref aNr, .ref aNp, .ref aNb, .ref aNa, .ref aNt, .int (nI nts), .ref aNbo, .ref aNsz, .ref aNnu, .int (nI (((itr (nmS (hB b n)) i (nta, 0)).1) + 1)), .int (nI nop), .int 0, .int ntp, .int (nI npr), .int nnw, .int nsn, .int nwn, .ref aNl, .ref aNal, .ref aNlo, .int (nI nac), .ref aNw, .ref aNtr, .ref aNis, .ref aNbg, .ref aNow])), (aNs, .inl (g.2.1 0, 919, .inl (msF gr wk z lk sz br ru ki ma bb ce hd))), (aNt, .inl (g.2.1 0, 60, .inl (nIf tb)))]) dX9_number_46 0 13 inX9 tyX9_ok nmX9 fl_X9_119 rfl rfl (by decide) rfl (rfl) rfl (xlt rfl) rfl ?_
          refine x_iinc (lv' := [some (.ref aN), some (.int (nI (((10 * ((itr (nmS (hB b n)) i (nta, 0)).2)) + (hB b n (itr (nmS (hB b n)) i (nta, 0)).1)) - 48))), some (.int (nI (i + 1)))]) (nI (i + 1)) dX9_number_49 rfl (nI_addc i 1 rfl) rfl ?_
          refine x_goto dX9_number_52 ?_
          exact ih4 (by omega) (((itr (nmS (hB b n)) i (nta, 0)).1) + 1) (by show _ = (nmS (hB b n) (itr (nmS (hB b n)) i (nta, 0))).1; rw [nmS, if_pos (dgW1 hlt c23)]) (((10 * ((itr (nmS (hB b n)) i (nta, 0)).2)) + (hB b n (itr (nmS (hB b n)) i (nta, 0)).1)) - 48) (by show _ = (nmS (hB b n) (itr (nmS (hB b n)) i (nta, 0))).2; rw [nmS, if_pos (dgW1 hlt c23)]; have := dg_rng (dgW1 hlt c23); show _ = _ * 10 + _; omega)
      · skip
        refine x_i2l dX9_number_13 ?_
        refine x_ldc2 dX9_number_14 kl_X9_144 ?_
        refine x_ldc2 dX9_number_17 kl_X9_146 ?_
        refine x_cSi dX9_number_20 ml_X9_98 mX9_isIn (ct_X9_isIn κ.2.1 g ((-1).toInt64) 48 57) rfl (Nat.le_of_ble_eq_true rfl) (by decide) (Nat.le_refl _) (Nat.le_refl _) ?_
        refine x_rei (wI (-1) 48 57) (inL_w (-1) 48 57 (by first | rfl | decide) (by first | rfl | decide)) ?_
        refine x_rei (0) (by decide) ?_
        refine x_if_eq dX9_number_23 (fun c23 => ?_) (fun c23 => ?_)
        rotate_left
        · exact absurd c23 (by decide)
        refine x_iload_n dX9_number_55 rfl ?_
        rw [← hQ]
        refine x_iret dX9_number_56 rfl (Nat.le_of_ble_eq_true rfl) (Nat.le_of_ble_eq_true rfl) ?_
        exact ⟨by first | rfl | (rw [show numI (hB b n) nta = (itr (nmS (hB b n)) i (nta, 0)) from itr_fix rfl (by rw [nmS, if_neg (by first | exact dgW0 hlt c23 | exact dg_no hlt)]) (by omega)]), by first | rfl | (rw [show numI (hB b n) nta = (itr (nmS (hB b n)) i (nta, 0)) from itr_fix rfl (by rw [nmS, if_neg (by first | exact dgW0 hlt c23 | exact dg_no hlt)]) (by omega)])⟩
  exact L4_1 0 (Nat.zero_le _) nta (by rfl) 0 (by rfl)

-- == lat_0 ==
theorem dX9_latest_0 : xd cX9_latest 0 (.aload_n 0) 1 1 := ⟨by decide +kernel, rfl⟩
theorem dX9_latest_1 : xd cX9_latest 1 (.getfield 7) 3 4 := ⟨by decide +kernel, rfl⟩
theorem dX9_latest_4 : xd cX9_latest 4 (.iconst 1) 1 5 := ⟨by decide +kernel, rfl⟩
theorem dX9_latest_5 : xd cX9_latest 5 .iaload 1 6 := ⟨by decide +kernel, rfl⟩
theorem dX9_latest_6 : xj cX9_latest 6 (.ifCond .ne) 9 13 := ⟨7, by decide +kernel, rfl, by decide⟩
theorem dX9_latest_9 : xd cX9_latest 9 (.iconst 0) 1 10 := ⟨by decide +kernel, rfl⟩
theorem dX9_latest_10 : xj cX9_latest 10 .goto 13 32 := ⟨22, by decide +kernel, rfl, by decide⟩
theorem dX9_latest_13 : xd cX9_latest 13 (.aload_n 0) 1 14 := ⟨by decide +kernel, rfl⟩
theorem dX9_latest_14 : xd cX9_latest 14 (.getfield 7) 3 17 := ⟨by decide +kernel, rfl⟩
theorem dX9_latest_17 : xd cX9_latest 17 (.bipush 104) 2 19 := ⟨by decide +kernel, rfl⟩
theorem dX9_latest_19 : xd cX9_latest 19 (.bipush 8) 2 21 := ⟨by decide +kernel, rfl⟩
theorem dX9_latest_21 : xd cX9_latest 21 (.aload_n 0) 1 22 := ⟨by decide +kernel, rfl⟩
theorem dX9_latest_22 : xd cX9_latest 22 (.getfield 7) 3 25 := ⟨by decide +kernel, rfl⟩
theorem dX9_latest_25 : xd cX9_latest 25 (.iconst 1) 1 26 := ⟨by decide +kernel, rfl⟩
theorem dX9_latest_26 : xd cX9_latest 26 .iaload 1 27 := ⟨by decide +kernel, rfl⟩
theorem dX9_latest_27 : xd cX9_latest 27 (.iconst 1) 1 28 := ⟨by decide +kernel, rfl⟩
theorem dX9_latest_28 : xd cX9_latest 28 .isub 1 29 := ⟨by decide +kernel, rfl⟩
theorem dX9_latest_29 : xd cX9_latest 29 .imul 1 30 := ⟨by decide +kernel, rfl⟩
theorem dX9_latest_30 : xd cX9_latest 30 .iadd 1 31 := ⟨by decide +kernel, rfl⟩
theorem dX9_latest_31 : xd cX9_latest 31 .iaload 1 32 := ⟨by decide +kernel, rfl⟩
theorem dX9_latest_32 : xd cX9_latest 32 .ireturn 1 33 := ⟨by decide +kernel, rfl⟩

set_option maxRecDepth 100000 in
set_option maxHeartbeats 4000000 in
theorem ct_lat_0 (l : Launch) (g : XG) (aN aNs aNk aNf aNr aNp aNb aNa aNt aNbo aNsz aNnu aNl aNal aNlo aNw aNtr aNis aNbg aNow nts nta nop npr nac : Nat) (nkp nbd ntp nnw nsn nwn : Int32) (gr lk sz br : Nat) (z : Int32) (ru ki ma bb hd : Nat → Nat) (ce : Nat → Int32) : Ct l g 1 0 0 yX9_latest cX9_latest 1 (some .int) [.ref aN] [(aN, .inr (9, [.ref aNs, .ref aNk, .int nkp, .ref aNf, .ref aNr, .ref aNp, .ref aNb, .ref aNa, .ref aNt, .int (nI nts), .ref aNbo, .ref aNsz, .ref aNnu, .int (nI nta), .int (nI nop), .int nbd, .int ntp, .int (nI npr), .int nnw, .int nsn, .int nwn, .ref aNl, .ref aNal, .ref aNlo, .int (nI nac), .ref aNw, .ref aNtr, .ref aNis, .ref aNbg, .ref aNow])), (aNs, .inl (g.2.1 0, 919, .inl (msF gr 0 z lk sz br ru ki ma bb ce hd)))] (xpi (0) [(aN, .inr (9, [.ref aNs, .ref aNk, .int nkp, .ref aNf, .ref aNr, .ref aNp, .ref aNb, .ref aNa, .ref aNt, .int (nI nts), .ref aNbo, .ref aNsz, .ref aNnu, .int (nI nta), .int (nI nop), .int nbd, .int ntp, .int (nI npr), .int nnw, .int nsn, .int nwn, .ref aNl, .ref aNal, .ref aNlo, .int (nI nac), .ref aNw, .ref aNtr, .ref aNis, .ref aNbg, .ref aNow])), (aNs, .inl (g.2.1 0, 919, .inl (msF gr 0 z lk sz br ru ki ma bb ce hd)))]) := by
  refine Ct.ofX (lv := [some (.ref aN)]) (by decide) rfl (Nat.le_of_ble_eq_true rfl) (fun κ => ?_)
  generalize hQ : xQ κ g 0 0 _ = Q
  refine x_aload_n dX9_latest_0 rfl ?_
  refine x_get dX9_latest_1 0 0 inX9 fl_X9_7 rfl rfl (by decide) rfl ?_
  refine x_iconst 1 dX9_latest_4 (by decide) ?_
  refine x_iald dX9_latest_5 1 1 rfl (rfl) (by decide) (by decide) ?_
  refine x_rei (0) (rfl) ?_
  refine x_if_ne dX9_latest_6 (fun c6 => ?_) (fun c6 => ?_)
  · exact absurd c6 (by decide)
  refine x_iconst 0 dX9_latest_9 (by decide) ?_
  refine x_goto dX9_latest_10 ?_
  rw [← hQ]
  refine x_iret dX9_latest_32 rfl (Nat.le_of_ble_eq_true rfl) (Nat.le_of_ble_eq_true rfl) ?_
  exact ⟨rfl, rfl⟩

-- == lat_1 ==
set_option maxRecDepth 100000 in
set_option maxHeartbeats 4000000 in
theorem ct_lat_1 (l : Launch) (g : XG) (aN aNs aNk aNf aNr aNp aNb aNa aNt aNbo aNsz aNnu aNl aNal aNlo aNw aNtr aNis aNbg aNow nts nta nop npr nac : Nat) (nkp nbd ntp nnw nsn nwn : Int32) (gr wk lk sz br : Nat) (z : Int32) (ru ki ma bb hd : Nat → Nat) (ce : Nat → Int32) (L : Nat) (hwk : wk ≤ 40) (hw0 : 0 < wk) (hlat : latI ce wk = nI L) : Ct l g 1 0 0 yX9_latest cX9_latest 1 (some .int) [.ref aN] [(aN, .inr (9, [.ref aNs, .ref aNk, .int nkp, .ref aNf, .ref aNr, .ref aNp, .ref aNb, .ref aNa, .ref aNt, .int (nI nts), .ref aNbo, .ref aNsz, .ref aNnu, .int (nI nta), .int (nI nop), .int nbd, .int ntp, .int (nI npr), .int nnw, .int nsn, .int nwn, .ref aNl, .ref aNal, .ref aNlo, .int (nI nac), .ref aNw, .ref aNtr, .ref aNis, .ref aNbg, .ref aNow])), (aNs, .inl (g.2.1 0, 919, .inl (msF gr wk z lk sz br ru ki ma bb ce hd)))] (xpi (nI (L)) [(aN, .inr (9, [.ref aNs, .ref aNk, .int nkp, .ref aNf, .ref aNr, .ref aNp, .ref aNb, .ref aNa, .ref aNt, .int (nI nts), .ref aNbo, .ref aNsz, .ref aNnu, .int (nI nta), .int (nI nop), .int nbd, .int ntp, .int (nI npr), .int nnw, .int nsn, .int nwn, .ref aNl, .ref aNal, .ref aNlo, .int (nI nac), .ref aNw, .ref aNtr, .ref aNis, .ref aNbg, .ref aNow])), (aNs, .inl (g.2.1 0, 919, .inl (msF gr wk z lk sz br ru ki ma bb ce hd)))]) := by
  refine Ct.ofX (lv := [some (.ref aN)]) (by decide) rfl (Nat.le_of_ble_eq_true rfl) (fun κ => ?_)
  generalize hQ : xQ κ g 0 0 _ = Q
  refine x_aload_n dX9_latest_0 rfl ?_
  refine x_get dX9_latest_1 0 0 inX9 fl_X9_7 rfl rfl (by decide) rfl ?_
  refine x_iconst 1 dX9_latest_4 (by decide) ?_
  refine x_iald dX9_latest_5 1 1 rfl (rfl) (by decide) (by decide) ?_
  refine x_rei (nI wk) (rfl) ?_
  refine x_if_ne dX9_latest_6 (fun c6 => ?_) (fun c6 => ?_)
  · have c6 : ¬ ((nI wk) = 0) := c6
    have c6n := mt (nI_eq (a := wk) (b := 0) (by omega) (by omega)).mpr c6
    refine x_aload_n dX9_latest_13 rfl ?_
    refine x_get dX9_latest_14 0 0 inX9 fl_X9_7 rfl rfl (by decide) rfl ?_
    refine x_bipush 104 dX9_latest_17 (by decide) ?_
    refine x_bipush 8 dX9_latest_19 (by decide) ?_
    refine x_aload_n dX9_latest_21 rfl ?_
    refine x_get dX9_latest_22 0 0 inX9 fl_X9_7 rfl rfl (by decide) rfl ?_
    refine x_iconst 1 dX9_latest_25 (by decide) ?_
    refine x_iald dX9_latest_26 1 1 rfl (rfl) (by decide) (by decide) ?_
    refine x_rei (nI wk) (rfl) ?_
    refine x_iconst 1 dX9_latest_27 (by decide) ?_
    refine x_isub dX9_latest_28 ?_
    refine x_rei (nI (wk - 1)) (nI_isub wk 1 (by omega)) ?_
    refine x_imul dX9_latest_29 ?_
    refine x_rei (nI (8 * (wk - 1))) (nI_imul 8 (wk - 1)) ?_
    refine x_iadd dX9_latest_30 ?_
    refine x_rei (nI (104 + (8 * (wk - 1)))) (nI_iadd 104 (8 * (wk - 1))) ?_
    refine x_iald dX9_latest_31 1 (104 + (8 * (wk - 1))) rfl (rfl) (by omega) (by decide) ?_
    refine x_rei (ce (8 * (wk - 1))) (msg_ce (x := (8 * (wk - 1))) (by omega) (by omega)) ?_
    refine x_rei (nI L) (by rw [← hlat, latI, if_neg (by omega)]; congr 1; omega) ?_
    rw [← hQ]
    refine x_iret dX9_latest_32 rfl (Nat.le_of_ble_eq_true rfl) (Nat.le_of_ble_eq_true rfl) ?_
    exact ⟨rfl, rfl⟩
  · have c6 : (nI wk) = 0 := c6
    have c6n := (nI_eq (a := wk) (b := 0) (by omega) (by omega)).mp c6
    exact absurd c6n (by omega)

-- == X9_latest ==
theorem ct_X9_latest (l : Launch) (g : XG) (aN aNs aNk aNf aNr aNp aNb aNa aNt aNbo aNsz aNnu aNl aNal aNlo aNw aNtr aNis aNbg aNow nts nta nop npr nac : Nat) (nkp nbd ntp nnw nsn nwn : Int32) (gr wk lk sz br : Nat) (z : Int32) (ru ki ma bb hd : Nat → Nat) (ce : Nat → Int32) (L : Nat) (hwk : wk ≤ 40) (hlat : latI ce wk = nI L) : Ct l g 1 0 0 yX9_latest cX9_latest 1 (some .int) [.ref aN] [(aN, .inr (9, [.ref aNs, .ref aNk, .int nkp, .ref aNf, .ref aNr, .ref aNp, .ref aNb, .ref aNa, .ref aNt, .int (nI nts), .ref aNbo, .ref aNsz, .ref aNnu, .int (nI nta), .int (nI nop), .int nbd, .int ntp, .int (nI npr), .int nnw, .int nsn, .int nwn, .ref aNl, .ref aNal, .ref aNlo, .int (nI nac), .ref aNw, .ref aNtr, .ref aNis, .ref aNbg, .ref aNow])), (aNs, .inl (g.2.1 0, 919, .inl (msF gr wk z lk sz br ru ki ma bb ce hd)))] (xpi (nI (L)) [(aN, .inr (9, [.ref aNs, .ref aNk, .int nkp, .ref aNf, .ref aNr, .ref aNp, .ref aNb, .ref aNa, .ref aNt, .int (nI nts), .ref aNbo, .ref aNsz, .ref aNnu, .int (nI nta), .int (nI nop), .int nbd, .int ntp, .int (nI npr), .int nnw, .int nsn, .int nwn, .ref aNl, .ref aNal, .ref aNlo, .int (nI nac), .ref aNw, .ref aNtr, .ref aNis, .ref aNbg, .ref aNow])), (aNs, .inl (g.2.1 0, 919, .inl (msF gr wk z lk sz br ru ki ma bb ce hd)))]) := by
  rcases Nat.eq_zero_or_pos wk with rfl | h
  · have e : nI L = 0 := hlat.symm
    rw [e]
    exact ct_lat_0 l g _ _ _ _ _ _ _ _ _ _ _ _ _ _ _ _ _ _ _ _ _ _ _ _ _ _ _ _ _ _ _ _ _ _ _ _ _ _ _ _ _ _ 
  · exact ct_lat_1 l g _ _ _ _ _ _ _ _ _ _ _ _ _ _ _ _ _ _ _ _ _ _ _ _ _ _ _ _ _ _ _ _ _ _ _ _ _ _ _ _ _ _ _ _ hwk h hlat

-- == named_n ==
theorem dX9_named_0 : xd cX9_named 0 (.iload_n 1) 1 1 := ⟨by decide +kernel, rfl⟩
theorem dX9_named_1 : decode cX9_named 1 = .ok (.tableswitch 193 99 119 #[153, 167, 139, 193, 125, 193, 193, 193, 193, 111, 193, 193, 193, 193, 193, 193, 99, 193, 193, 193, 186], 99) := by decide +kernel
theorem dX9_named_100 : xd cX9_named 100 (.aload_n 0) 1 101 := ⟨by decide +kernel, rfl⟩
theorem dX9_named_101 : xd cX9_named 101 (.getfield 28) 3 104 := ⟨by decide +kernel, rfl⟩
theorem dX9_named_104 : xd cX9_named 104 (.iconst 5) 1 105 := ⟨by decide +kernel, rfl⟩
theorem dX9_named_105 : xd cX9_named 105 (.aload_n 0) 1 106 := ⟨by decide +kernel, rfl⟩
theorem dX9_named_106 : xd cX9_named 106 (.getfield 126) 3 109 := ⟨by decide +kernel, rfl⟩
theorem dX9_named_109 : xd cX9_named 109 .imul 1 110 := ⟨by decide +kernel, rfl⟩
theorem dX9_named_110 : xd cX9_named 110 .iaload 1 111 := ⟨by decide +kernel, rfl⟩
theorem dX9_named_111 : xd cX9_named 111 .ireturn 1 112 := ⟨by decide +kernel, rfl⟩
theorem dX9_named_112 : xd cX9_named 112 (.aload_n 0) 1 113 := ⟨by decide +kernel, rfl⟩
theorem dX9_named_113 : xd cX9_named 113 (.getfield 28) 3 116 := ⟨by decide +kernel, rfl⟩
theorem dX9_named_116 : xd cX9_named 116 (.iconst 5) 1 117 := ⟨by decide +kernel, rfl⟩
theorem dX9_named_117 : xd cX9_named 117 (.aload_n 0) 1 118 := ⟨by decide +kernel, rfl⟩
theorem dX9_named_118 : xd cX9_named 118 (.getfield 126) 3 121 := ⟨by decide +kernel, rfl⟩
theorem dX9_named_121 : xd cX9_named 121 .imul 1 122 := ⟨by decide +kernel, rfl⟩
theorem dX9_named_122 : xd cX9_named 122 (.iconst 1) 1 123 := ⟨by decide +kernel, rfl⟩
theorem dX9_named_123 : xd cX9_named 123 .iadd 1 124 := ⟨by decide +kernel, rfl⟩
theorem dX9_named_124 : xd cX9_named 124 .iaload 1 125 := ⟨by decide +kernel, rfl⟩
theorem dX9_named_125 : xd cX9_named 125 .ireturn 1 126 := ⟨by decide +kernel, rfl⟩
theorem dX9_named_126 : xd cX9_named 126 (.aload_n 0) 1 127 := ⟨by decide +kernel, rfl⟩
theorem dX9_named_127 : xd cX9_named 127 (.getfield 28) 3 130 := ⟨by decide +kernel, rfl⟩
theorem dX9_named_130 : xd cX9_named 130 (.iconst 5) 1 131 := ⟨by decide +kernel, rfl⟩
theorem dX9_named_131 : xd cX9_named 131 (.aload_n 0) 1 132 := ⟨by decide +kernel, rfl⟩
theorem dX9_named_132 : xd cX9_named 132 (.getfield 126) 3 135 := ⟨by decide +kernel, rfl⟩
theorem dX9_named_135 : xd cX9_named 135 .imul 1 136 := ⟨by decide +kernel, rfl⟩
theorem dX9_named_136 : xd cX9_named 136 (.iconst 2) 1 137 := ⟨by decide +kernel, rfl⟩
theorem dX9_named_137 : xd cX9_named 137 .iadd 1 138 := ⟨by decide +kernel, rfl⟩
theorem dX9_named_138 : xd cX9_named 138 .iaload 1 139 := ⟨by decide +kernel, rfl⟩
theorem dX9_named_139 : xd cX9_named 139 .ireturn 1 140 := ⟨by decide +kernel, rfl⟩
theorem dX9_named_140 : xd cX9_named 140 (.aload_n 0) 1 141 := ⟨by decide +kernel, rfl⟩
theorem dX9_named_141 : xd cX9_named 141 (.getfield 28) 3 144 := ⟨by decide +kernel, rfl⟩
theorem dX9_named_144 : xd cX9_named 144 (.iconst 5) 1 145 := ⟨by decide +kernel, rfl⟩
theorem dX9_named_145 : xd cX9_named 145 (.aload_n 0) 1 146 := ⟨by decide +kernel, rfl⟩
theorem dX9_named_146 : xd cX9_named 146 (.getfield 126) 3 149 := ⟨by decide +kernel, rfl⟩
theorem dX9_named_149 : xd cX9_named 149 .imul 1 150 := ⟨by decide +kernel, rfl⟩
theorem dX9_named_150 : xd cX9_named 150 (.iconst 3) 1 151 := ⟨by decide +kernel, rfl⟩
theorem dX9_named_151 : xd cX9_named 151 .iadd 1 152 := ⟨by decide +kernel, rfl⟩
theorem dX9_named_152 : xd cX9_named 152 .iaload 1 153 := ⟨by decide +kernel, rfl⟩
theorem dX9_named_153 : xd cX9_named 153 .ireturn 1 154 := ⟨by decide +kernel, rfl⟩
theorem dX9_named_154 : xd cX9_named 154 (.aload_n 0) 1 155 := ⟨by decide +kernel, rfl⟩
theorem dX9_named_155 : xd cX9_named 155 (.getfield 28) 3 158 := ⟨by decide +kernel, rfl⟩
theorem dX9_named_158 : xd cX9_named 158 (.iconst 5) 1 159 := ⟨by decide +kernel, rfl⟩
theorem dX9_named_159 : xd cX9_named 159 (.aload_n 0) 1 160 := ⟨by decide +kernel, rfl⟩
theorem dX9_named_160 : xd cX9_named 160 (.getfield 126) 3 163 := ⟨by decide +kernel, rfl⟩
theorem dX9_named_163 : xd cX9_named 163 .imul 1 164 := ⟨by decide +kernel, rfl⟩
theorem dX9_named_164 : xd cX9_named 164 (.iconst 4) 1 165 := ⟨by decide +kernel, rfl⟩
theorem dX9_named_165 : xd cX9_named 165 .iadd 1 166 := ⟨by decide +kernel, rfl⟩
theorem dX9_named_166 : xd cX9_named 166 .iaload 1 167 := ⟨by decide +kernel, rfl⟩
theorem dX9_named_167 : xd cX9_named 167 .ireturn 1 168 := ⟨by decide +kernel, rfl⟩
theorem dX9_named_168 : xd cX9_named 168 (.aload_n 0) 1 169 := ⟨by decide +kernel, rfl⟩
theorem dX9_named_169 : xd cX9_named 169 (.aload_n 0) 1 170 := ⟨by decide +kernel, rfl⟩
theorem dX9_named_170 : xd cX9_named 170 (.getfield 19) 3 173 := ⟨by decide +kernel, rfl⟩
theorem dX9_named_173 : xd cX9_named 173 (.aload_n 0) 1 174 := ⟨by decide +kernel, rfl⟩
theorem dX9_named_174 : xd cX9_named 174 (.getfield 126) 3 177 := ⟨by decide +kernel, rfl⟩
theorem dX9_named_177 : xd cX9_named 177 .iaload 1 178 := ⟨by decide +kernel, rfl⟩
theorem dX9_named_178 : xd cX9_named 178 (.aload_n 0) 1 179 := ⟨by decide +kernel, rfl⟩
theorem dX9_named_179 : xd cX9_named 179 (.invokevirtual 129) 3 182 := ⟨by decide +kernel, rfl⟩
theorem dX9_named_182 : xd cX9_named 182 .iand 1 183 := ⟨by decide +kernel, rfl⟩
theorem dX9_named_183 : xd cX9_named 183 (.invokevirtual 132) 3 186 := ⟨by decide +kernel, rfl⟩
theorem dX9_named_186 : xd cX9_named 186 .ireturn 1 187 := ⟨by decide +kernel, rfl⟩
theorem dX9_named_187 : xd cX9_named 187 (.aload_n 0) 1 188 := ⟨by decide +kernel, rfl⟩
theorem dX9_named_188 : xd cX9_named 188 (.getfield 7) 3 191 := ⟨by decide +kernel, rfl⟩
theorem dX9_named_191 : xd cX9_named 191 (.iconst 1) 1 192 := ⟨by decide +kernel, rfl⟩
theorem dX9_named_192 : xd cX9_named 192 .iaload 1 193 := ⟨by decide +kernel, rfl⟩
theorem dX9_named_193 : xd cX9_named 193 .ireturn 1 194 := ⟨by decide +kernel, rfl⟩
theorem dX9_named_194 : xd cX9_named 194 (.iconst (-1)) 1 195 := ⟨by decide +kernel, rfl⟩
theorem dX9_named_195 : xd cX9_named 195 .ireturn 1 196 := ⟨by decide +kernel, rfl⟩

set_option maxRecDepth 100000 in
set_option maxHeartbeats 4000000 in
theorem ct_named_n (l : Launch) (g : XG) (aN aNs aNk aNf aNr aNp aNb aNa aNt aNbo aNsz aNnu aNl aNal aNlo aNw aNtr aNis aNbg aNow nts nta nop nac : Nat) (nkp nbd ntp nnw nsn nwn : Int32) (gr wk lk sz br : Nat) (z : Int32) (ru ki ma bb hd : Nat → Nat) (ce : Nat → Int32) (L p c : Nat) (hp : p < 495) (hwk : wk ≤ 40) (hlat : latI ce wk = nI L) (hc : c < 256) : Ct l g 3 0 0 yX9_named cX9_named 2 (some .int) [.ref aN, .int (nI c)] [(aN, .inr (9, [.ref aNs, .ref aNk, .int nkp, .ref aNf, .ref aNr, .ref aNp, .ref aNb, .ref aNa, .ref aNt, .int (nI nts), .ref aNbo, .ref aNsz, .ref aNnu, .int (nI nta), .int (nI nop), .int nbd, .int ntp, .int (nI p), .int nnw, .int nsn, .int nwn, .ref aNl, .ref aNal, .ref aNlo, .int (nI nac), .ref aNw, .ref aNtr, .ref aNis, .ref aNbg, .ref aNow])), (aNs, .inl (g.2.1 0, 919, .inl (msF gr wk z lk sz br ru ki ma bb ce hd))), (aNa, .inl (g.2.1 0, 2475, .inl (nIf fcN))), (aNr, .inl (g.2.1 0, 495, .inl (nIf rowB))), (aNb, .inl (g.2.1 0, 4096, .inl (nIf popN)))] (xpi (if nmIx c < 7 then nI (nmN wk L (rowB p) (nmIx c)) else -1) [(aN, .inr (9, [.ref aNs, .ref aNk, .int nkp, .ref aNf, .ref aNr, .ref aNp, .ref aNb, .ref aNa, .ref aNt, .int (nI nts), .ref aNbo, .ref aNsz, .ref aNnu, .int (nI nta), .int (nI nop), .int nbd, .int ntp, .int (nI p), .int nnw, .int nsn, .int nwn, .ref aNl, .ref aNal, .ref aNlo, .int (nI nac), .ref aNw, .ref aNtr, .ref aNis, .ref aNbg, .ref aNow])), (aNs, .inl (g.2.1 0, 919, .inl (msF gr wk z lk sz br ru ki ma bb ce hd))), (aNa, .inl (g.2.1 0, 2475, .inl (nIf fcN))), (aNr, .inl (g.2.1 0, 495, .inl (nIf rowB))), (aNb, .inl (g.2.1 0, 4096, .inl (nIf popN)))]) := by
  refine Ct.ofX (lv := [some (.ref aN), some (.int (nI c))]) (by decide) rfl (Nat.le_of_ble_eq_true rfl) (fun κ => ?_)
  generalize hQ : xQ κ g 0 0 _ = Q
  refine x_iload_n dX9_named_0 rfl ?_
  by_cases c1_99 : nI c = 99
  · refine x_reS c1_99 ?_
    have c1_99n := (nI_eq (a := c) (b := 99) (by omega) (by decide)).mp c1_99
    refine x_tabIn (off := 153) 154 dX9_named_1 (by decide) (by decide) rfl (by decide) ?_
    refine x_aload_n dX9_named_154 rfl ?_
    refine x_get dX9_named_155 0 7 inX9 fl_X9_28 rfl rfl (by decide) rfl ?_
    refine x_iconst 5 dX9_named_158 (by decide) ?_
    refine x_aload_n dX9_named_159 rfl ?_
    refine x_get dX9_named_160 0 17 inX9 fl_X9_126 rfl rfl (by decide) rfl ?_
    refine x_imul dX9_named_163 ?_
    refine x_rei (nI (5 * p)) (nI_imul 5 p) ?_
    refine x_iconst 4 dX9_named_164 (by decide) ?_
    refine x_iadd dX9_named_165 ?_
    refine x_rei (nI ((5 * p) + 4)) (nI_addc (5 * p) 4 rfl) ?_
    refine x_iald dX9_named_166 2 ((5 * p) + 4) rfl (rfl) (by omega) (by decide) ?_
    rw [← hQ]
    refine x_iret dX9_named_167 rfl (Nat.le_of_ble_eq_true rfl) (Nat.le_of_ble_eq_true rfl) ?_
    exact ⟨by have e : c = 99 := c1_99n; subst e; rw [if_pos (by decide)]; first | rfl | (show some (Value.int (nI (fcN (5 * p + 4)))) = some (Value.int (nI (nmN wk L (rowB p) 4))); rw [fcN_at p (k := 4) (by decide)]; rfl), rfl⟩
  have c1_99n := mt (nI_eq (a := c) (b := 99) (by omega) (by decide)).mpr c1_99
  by_cases c1_100 : nI c = 100
  · refine x_reS c1_100 ?_
    have c1_100n := (nI_eq (a := c) (b := 100) (by omega) (by decide)).mp c1_100
    refine x_tabIn (off := 167) 168 dX9_named_1 (by decide) (by decide) rfl (by decide) ?_
    refine x_aload_n dX9_named_168 rfl ?_
    refine x_aload_n dX9_named_169 rfl ?_
    refine x_get dX9_named_170 0 4 inX9 fl_X9_19 rfl rfl (by decide) rfl ?_
    refine x_aload_n dX9_named_173 rfl ?_
    refine x_get dX9_named_174 0 17 inX9 fl_X9_126 rfl rfl (by decide) rfl ?_
    refine x_iald dX9_named_177 3 p rfl (rfl) (by omega) (by decide) ?_
    refine x_aload_n dX9_named_178 rfl ?_
    refine x_cVi0 dX9_named_179 ml_X9_129 mX9_latest (ct_X9_latest κ.2.1 g aN aNs aNk aNf aNr aNp aNb aNa aNt aNbo aNsz aNnu aNl aNal aNlo aNw aNtr aNis aNbg aNow nts nta nop p nac nkp nbd ntp nnw nsn nwn gr wk lk sz br z ru ki ma bb hd ce L (hwk) (hlat)) [0, 1] rfl rfl 0 rfl rfl rfl (Nat.le_of_ble_eq_true rfl) (by decide) (Nat.le_refl _) (Nat.le_refl _) ?_
    refine x_iand dX9_named_182 ?_
    refine x_rei (nI ((rowB p) &&& L)) (nI_iand (rowB p) L) ?_
    refine x_cVi0 dX9_named_183 ml_X9_132 mX9_ones (ct_X9_ones κ.2.1 g aN aNs aNk aNf aNr aNp aNb aNa aNt aNbo aNsz aNnu aNl aNal aNlo aNw aNtr aNis aNbg aNow nts nta nop p nac nkp nbd ntp nnw nsn nwn ((rowB p) &&& L) (by first | exact and_lt (by decide) | exact and_ltl (rowB_lt _) | exact rowB_lt _ | omega)) [0, 4] rfl rfl 0 rfl rfl rfl (Nat.le_of_ble_eq_true rfl) (by decide) (Nat.le_refl _) (Nat.le_refl _) ?_
    rw [← hQ]
    refine x_iret dX9_named_186 rfl (Nat.le_of_ble_eq_true rfl) (Nat.le_of_ble_eq_true rfl) ?_
    exact ⟨by have e : c = 100 := c1_100n; subst e; rw [if_pos (by decide)]; first | rfl | (show some (Value.int (nI (fcN (5 * p + 5)))) = some (Value.int (nI (nmN wk L (rowB p) 5))); rw [rfl]; rfl), rfl⟩
  have c1_100n := mt (nI_eq (a := c) (b := 100) (by omega) (by decide)).mpr c1_100
  by_cases c1_101 : nI c = 101
  · refine x_reS c1_101 ?_
    have c1_101n := (nI_eq (a := c) (b := 101) (by omega) (by decide)).mp c1_101
    refine x_tabIn (off := 139) 140 dX9_named_1 (by decide) (by decide) rfl (by decide) ?_
    refine x_aload_n dX9_named_140 rfl ?_
    refine x_get dX9_named_141 0 7 inX9 fl_X9_28 rfl rfl (by decide) rfl ?_
    refine x_iconst 5 dX9_named_144 (by decide) ?_
    refine x_aload_n dX9_named_145 rfl ?_
    refine x_get dX9_named_146 0 17 inX9 fl_X9_126 rfl rfl (by decide) rfl ?_
    refine x_imul dX9_named_149 ?_
    refine x_rei (nI (5 * p)) (nI_imul 5 p) ?_
    refine x_iconst 3 dX9_named_150 (by decide) ?_
    refine x_iadd dX9_named_151 ?_
    refine x_rei (nI ((5 * p) + 3)) (nI_addc (5 * p) 3 rfl) ?_
    refine x_iald dX9_named_152 2 ((5 * p) + 3) rfl (rfl) (by omega) (by decide) ?_
    rw [← hQ]
    refine x_iret dX9_named_153 rfl (Nat.le_of_ble_eq_true rfl) (Nat.le_of_ble_eq_true rfl) ?_
    exact ⟨by have e : c = 101 := c1_101n; subst e; rw [if_pos (by decide)]; first | rfl | (show some (Value.int (nI (fcN (5 * p + 3)))) = some (Value.int (nI (nmN wk L (rowB p) 3))); rw [fcN_at p (k := 3) (by decide)]; rfl), rfl⟩
  have c1_101n := mt (nI_eq (a := c) (b := 101) (by omega) (by decide)).mpr c1_101
  by_cases c1_103 : nI c = 103
  · refine x_reS c1_103 ?_
    have c1_103n := (nI_eq (a := c) (b := 103) (by omega) (by decide)).mp c1_103
    refine x_tabIn (off := 125) 126 dX9_named_1 (by decide) (by decide) rfl (by decide) ?_
    refine x_aload_n dX9_named_126 rfl ?_
    refine x_get dX9_named_127 0 7 inX9 fl_X9_28 rfl rfl (by decide) rfl ?_
    refine x_iconst 5 dX9_named_130 (by decide) ?_
    refine x_aload_n dX9_named_131 rfl ?_
    refine x_get dX9_named_132 0 17 inX9 fl_X9_126 rfl rfl (by decide) rfl ?_
    refine x_imul dX9_named_135 ?_
    refine x_rei (nI (5 * p)) (nI_imul 5 p) ?_
    refine x_iconst 2 dX9_named_136 (by decide) ?_
    refine x_iadd dX9_named_137 ?_
    refine x_rei (nI ((5 * p) + 2)) (nI_addc (5 * p) 2 rfl) ?_
    refine x_iald dX9_named_138 2 ((5 * p) + 2) rfl (rfl) (by omega) (by decide) ?_
    rw [← hQ]
    refine x_iret dX9_named_139 rfl (Nat.le_of_ble_eq_true rfl) (Nat.le_of_ble_eq_true rfl) ?_
    exact ⟨by have e : c = 103 := c1_103n; subst e; rw [if_pos (by decide)]; first | rfl | (show some (Value.int (nI (fcN (5 * p + 2)))) = some (Value.int (nI (nmN wk L (rowB p) 2))); rw [fcN_at p (k := 2) (by decide)]; rfl), rfl⟩
  have c1_103n := mt (nI_eq (a := c) (b := 103) (by omega) (by decide)).mpr c1_103
  by_cases c1_108 : nI c = 108
  · refine x_reS c1_108 ?_
    have c1_108n := (nI_eq (a := c) (b := 108) (by omega) (by decide)).mp c1_108
    refine x_tabIn (off := 111) 112 dX9_named_1 (by decide) (by decide) rfl (by decide) ?_
    refine x_aload_n dX9_named_112 rfl ?_
    refine x_get dX9_named_113 0 7 inX9 fl_X9_28 rfl rfl (by decide) rfl ?_
    refine x_iconst 5 dX9_named_116 (by decide) ?_
    refine x_aload_n dX9_named_117 rfl ?_
    refine x_get dX9_named_118 0 17 inX9 fl_X9_126 rfl rfl (by decide) rfl ?_
    refine x_imul dX9_named_121 ?_
    refine x_rei (nI (5 * p)) (nI_imul 5 p) ?_
    refine x_iconst 1 dX9_named_122 (by decide) ?_
    refine x_iadd dX9_named_123 ?_
    refine x_rei (nI ((5 * p) + 1)) (nI_addc (5 * p) 1 rfl) ?_
    refine x_iald dX9_named_124 2 ((5 * p) + 1) rfl (rfl) (by omega) (by decide) ?_
    rw [← hQ]
    refine x_iret dX9_named_125 rfl (Nat.le_of_ble_eq_true rfl) (Nat.le_of_ble_eq_true rfl) ?_
    exact ⟨by have e : c = 108 := c1_108n; subst e; rw [if_pos (by decide)]; first | rfl | (show some (Value.int (nI (fcN (5 * p + 1)))) = some (Value.int (nI (nmN wk L (rowB p) 1))); rw [fcN_at p (k := 1) (by decide)]; rfl), rfl⟩
  have c1_108n := mt (nI_eq (a := c) (b := 108) (by omega) (by decide)).mpr c1_108
  by_cases c1_115 : nI c = 115
  · refine x_reS c1_115 ?_
    have c1_115n := (nI_eq (a := c) (b := 115) (by omega) (by decide)).mp c1_115
    refine x_tabIn (off := 99) 100 dX9_named_1 (by decide) (by decide) rfl (by decide) ?_
    refine x_aload_n dX9_named_100 rfl ?_
    refine x_get dX9_named_101 0 7 inX9 fl_X9_28 rfl rfl (by decide) rfl ?_
    refine x_iconst 5 dX9_named_104 (by decide) ?_
    refine x_aload_n dX9_named_105 rfl ?_
    refine x_get dX9_named_106 0 17 inX9 fl_X9_126 rfl rfl (by decide) rfl ?_
    refine x_imul dX9_named_109 ?_
    refine x_rei (nI (5 * p)) (nI_imul 5 p) ?_
    refine x_iald dX9_named_110 2 (5 * p) rfl (rfl) (by omega) (by decide) ?_
    rw [← hQ]
    refine x_iret dX9_named_111 rfl (Nat.le_of_ble_eq_true rfl) (Nat.le_of_ble_eq_true rfl) ?_
    exact ⟨by have e : c = 115 := c1_115n; subst e; rw [if_pos (by decide)]; first | rfl | (show some (Value.int (nI (fcN (5 * p)))) = some (Value.int (nI (nmN wk L (rowB p) 0))); rw [fcN_0]; rfl), rfl⟩
  have c1_115n := mt (nI_eq (a := c) (b := 115) (by omega) (by decide)).mpr c1_115
  by_cases c1_119 : nI c = 119
  · refine x_reS c1_119 ?_
    have c1_119n := (nI_eq (a := c) (b := 119) (by omega) (by decide)).mp c1_119
    refine x_tabIn (off := 186) 187 dX9_named_1 (by decide) (by decide) rfl (by decide) ?_
    refine x_aload_n dX9_named_187 rfl ?_
    refine x_get dX9_named_188 0 0 inX9 fl_X9_7 rfl rfl (by decide) rfl ?_
    refine x_iconst 1 dX9_named_191 (by decide) ?_
    refine x_iald dX9_named_192 1 1 rfl (rfl) (by decide) (by decide) ?_
    refine x_rei (nI wk) (rfl) ?_
    rw [← hQ]
    refine x_iret dX9_named_193 rfl (Nat.le_of_ble_eq_true rfl) (Nat.le_of_ble_eq_true rfl) ?_
    exact ⟨by have e : c = 119 := c1_119n; subst e; rw [if_pos (by decide)]; first | rfl | (show some (Value.int (nI (fcN (5 * p + 6)))) = some (Value.int (nI (nmN wk L (rowB p) 6))); rw [rfl]; rfl), rfl⟩
  have c1_119n := mt (nI_eq (a := c) (b := 119) (by omega) (by decide)).mpr c1_119
  refine x_tabD 194 dX9_named_1 (by decide) (fun t ht => match t, ht with | 0, _ => Or.inr (xtne c1_99 (by decide)) | 1, _ => Or.inr (xtne c1_100 (by decide)) | 2, _ => Or.inr (xtne c1_101 (by decide)) | 3, _ => Or.inl rfl | 4, _ => Or.inr (xtne c1_103 (by decide)) | 5, _ => Or.inl rfl | 6, _ => Or.inl rfl | 7, _ => Or.inl rfl | 8, _ => Or.inl rfl | 9, _ => Or.inr (xtne c1_108 (by decide)) | 10, _ => Or.inl rfl | 11, _ => Or.inl rfl | 12, _ => Or.inl rfl | 13, _ => Or.inl rfl | 14, _ => Or.inl rfl | 15, _ => Or.inl rfl | 16, _ => Or.inr (xtne c1_115 (by decide)) | 17, _ => Or.inl rfl | 18, _ => Or.inl rfl | 19, _ => Or.inl rfl | 20, _ => Or.inr (xtne c1_119 (by decide)) | t + 21, ht => absurd ht (by simp)) (by decide) ?_
  refine x_iconst (-1) dX9_named_194 (by decide) ?_
  rw [← hQ]
  refine x_iret dX9_named_195 rfl (Nat.le_of_ble_eq_true rfl) (Nat.le_of_ble_eq_true rfl) ?_
  exact ⟨by rw [if_neg (by unfold nmIx; simp [c1_99n, c1_100n, c1_101n, c1_103n, c1_108n, c1_115n, c1_119n])], rfl⟩

-- == named_e ==
set_option maxRecDepth 100000 in
set_option maxHeartbeats 4000000 in
theorem ct_named_e (l : Launch) (g : XG) (aN aNs aNk aNf aNr aNp aNb aNa aNt aNbo aNsz aNnu aNl aNal aNlo aNw aNtr aNis aNbg aNow nts nta nop nac : Nat) (nkp nbd ntp nnw nsn nwn : Int32) (gr wk lk sz br : Nat) (z : Int32) (ru ki ma bb hd : Nat → Nat) (ce : Nat → Int32) (p : Nat) : Ct l g 3 0 0 yX9_named cX9_named 2 (some .int) [.ref aN, .int ((-1))] [(aN, .inr (9, [.ref aNs, .ref aNk, .int nkp, .ref aNf, .ref aNr, .ref aNp, .ref aNb, .ref aNa, .ref aNt, .int (nI nts), .ref aNbo, .ref aNsz, .ref aNnu, .int (nI nta), .int (nI nop), .int nbd, .int ntp, .int (nI p), .int nnw, .int nsn, .int nwn, .ref aNl, .ref aNal, .ref aNlo, .int (nI nac), .ref aNw, .ref aNtr, .ref aNis, .ref aNbg, .ref aNow])), (aNs, .inl (g.2.1 0, 919, .inl (msF gr wk z lk sz br ru ki ma bb ce hd))), (aNa, .inl (g.2.1 0, 2475, .inl (nIf fcN))), (aNr, .inl (g.2.1 0, 495, .inl (nIf rowB))), (aNb, .inl (g.2.1 0, 4096, .inl (nIf popN)))] (xpi ((-1)) [(aN, .inr (9, [.ref aNs, .ref aNk, .int nkp, .ref aNf, .ref aNr, .ref aNp, .ref aNb, .ref aNa, .ref aNt, .int (nI nts), .ref aNbo, .ref aNsz, .ref aNnu, .int (nI nta), .int (nI nop), .int nbd, .int ntp, .int (nI p), .int nnw, .int nsn, .int nwn, .ref aNl, .ref aNal, .ref aNlo, .int (nI nac), .ref aNw, .ref aNtr, .ref aNis, .ref aNbg, .ref aNow])), (aNs, .inl (g.2.1 0, 919, .inl (msF gr wk z lk sz br ru ki ma bb ce hd))), (aNa, .inl (g.2.1 0, 2475, .inl (nIf fcN))), (aNr, .inl (g.2.1 0, 495, .inl (nIf rowB))), (aNb, .inl (g.2.1 0, 4096, .inl (nIf popN)))]) := by
  refine Ct.ofX (lv := [some (.ref aN), some (.int ((-1)))]) (by decide) rfl (Nat.le_of_ble_eq_true rfl) (fun κ => ?_)
  generalize hQ : xQ κ g 0 0 _ = Q
  refine x_iload_n dX9_named_0 rfl ?_
  refine x_tabOut 194 dX9_named_1 (by decide) (by decide) ?_
  refine x_iconst (-1) dX9_named_194 (by decide) ?_
  rw [← hQ]
  refine x_iret dX9_named_195 rfl (Nat.le_of_ble_eq_true rfl) (Nat.le_of_ble_eq_true rfl) ?_
  exact ⟨rfl, rfl⟩

-- == fac_b ==
theorem dX9_factor_0 : xd cX9_factor 0 (.aload_n 0) 1 1 := ⟨by decide +kernel, rfl⟩
theorem dX9_factor_1 : xd cX9_factor 1 (.getfield 135) 3 4 := ⟨by decide +kernel, rfl⟩
theorem dX9_factor_4 : xj cX9_factor 4 (.ifCond .eq) 7 9 := ⟨5, by decide +kernel, rfl, by decide⟩
theorem dX9_factor_7 : xd cX9_factor 7 (.iconst 0) 1 8 := ⟨by decide +kernel, rfl⟩
theorem dX9_factor_8 : xd cX9_factor 8 .ireturn 1 9 := ⟨by decide +kernel, rfl⟩
theorem dX9_factor_9 : xd cX9_factor 9 (.aload_n 0) 1 10 := ⟨by decide +kernel, rfl⟩
theorem dX9_factor_10 : xd cX9_factor 10 (.invokevirtual 138) 3 13 := ⟨by decide +kernel, rfl⟩
theorem dX9_factor_13 : xd cX9_factor 13 (.istore_n 1) 1 14 := ⟨by decide +kernel, rfl⟩
theorem dX9_factor_14 : xd cX9_factor 14 (.iload_n 1) 1 15 := ⟨by decide +kernel, rfl⟩
theorem dX9_factor_15 : xd cX9_factor 15 .i2l 1 16 := ⟨by decide +kernel, rfl⟩
theorem dX9_factor_16 : xd cX9_factor 16 (.ldc2_w 144) 3 19 := ⟨by decide +kernel, rfl⟩
theorem dX9_factor_19 : xd cX9_factor 19 (.ldc2_w 146) 3 22 := ⟨by decide +kernel, rfl⟩
theorem dX9_factor_22 : xd cX9_factor 22 (.invokestatic 98) 3 25 := ⟨by decide +kernel, rfl⟩
theorem dX9_factor_25 : xj cX9_factor 25 (.ifCond .eq) 28 33 := ⟨8, by decide +kernel, rfl, by decide⟩
theorem dX9_factor_28 : xd cX9_factor 28 (.aload_n 0) 1 29 := ⟨by decide +kernel, rfl⟩
theorem dX9_factor_29 : xd cX9_factor 29 (.invokevirtual 158) 3 32 := ⟨by decide +kernel, rfl⟩
theorem dX9_factor_32 : xd cX9_factor 32 .ireturn 1 33 := ⟨by decide +kernel, rfl⟩
theorem dX9_factor_33 : xd cX9_factor 33 (.iload_n 1) 1 34 := ⟨by decide +kernel, rfl⟩
theorem dX9_factor_34 : xd cX9_factor 34 (.bipush 40) 2 36 := ⟨by decide +kernel, rfl⟩
theorem dX9_factor_36 : xj cX9_factor 36 (.if_icmp .ne) 39 44 := ⟨8, by decide +kernel, rfl, by decide⟩
theorem dX9_factor_39 : xd cX9_factor 39 (.aload_n 0) 1 40 := ⟨by decide +kernel, rfl⟩
theorem dX9_factor_40 : xd cX9_factor 40 (.invokevirtual 161) 3 43 := ⟨by decide +kernel, rfl⟩
theorem dX9_factor_43 : xd cX9_factor 43 .ireturn 1 44 := ⟨by decide +kernel, rfl⟩
theorem dX9_factor_44 : xd cX9_factor 44 (.aload_n 0) 1 45 := ⟨by decide +kernel, rfl⟩
theorem dX9_factor_45 : xd cX9_factor 45 (.iload_n 1) 1 46 := ⟨by decide +kernel, rfl⟩
theorem dX9_factor_46 : xd cX9_factor 46 (.invokevirtual 164) 3 49 := ⟨by decide +kernel, rfl⟩
theorem dX9_factor_49 : xd cX9_factor 49 (.istore_n 2) 1 50 := ⟨by decide +kernel, rfl⟩
theorem dX9_factor_50 : xd cX9_factor 50 (.aload_n 0) 1 51 := ⟨by decide +kernel, rfl⟩
theorem dX9_factor_51 : xd cX9_factor 51 (.iload_n 2) 1 52 := ⟨by decide +kernel, rfl⟩
theorem dX9_factor_52 : xj cX9_factor 52 (.ifCond .ge) 55 59 := ⟨7, by decide +kernel, rfl, by decide⟩
theorem dX9_factor_55 : xd cX9_factor 55 (.iconst 1) 1 56 := ⟨by decide +kernel, rfl⟩
theorem dX9_factor_56 : xj cX9_factor 56 .goto 59 60 := ⟨4, by decide +kernel, rfl, by decide⟩
theorem dX9_factor_59 : xd cX9_factor 59 (.iconst 0) 1 60 := ⟨by decide +kernel, rfl⟩
theorem dX9_factor_60 : xd cX9_factor 60 (.putfield 135) 3 63 := ⟨by decide +kernel, rfl⟩
theorem dX9_factor_63 : xd cX9_factor 63 (.aload_n 0) 1 64 := ⟨by decide +kernel, rfl⟩
theorem dX9_factor_64 : xd cX9_factor 64 .dup 1 65 := ⟨by decide +kernel, rfl⟩
theorem dX9_factor_65 : xd cX9_factor 65 (.getfield 119) 3 68 := ⟨by decide +kernel, rfl⟩
theorem dX9_factor_68 : xd cX9_factor 68 (.aload_n 0) 1 69 := ⟨by decide +kernel, rfl⟩
theorem dX9_factor_69 : xd cX9_factor 69 (.getfield 135) 3 72 := ⟨by decide +kernel, rfl⟩
theorem dX9_factor_72 : xj cX9_factor 72 (.ifCond .eq) 75 79 := ⟨7, by decide +kernel, rfl, by decide⟩
theorem dX9_factor_75 : xd cX9_factor 75 (.iconst 0) 1 76 := ⟨by decide +kernel, rfl⟩
theorem dX9_factor_76 : xj cX9_factor 76 .goto 79 80 := ⟨4, by decide +kernel, rfl, by decide⟩
theorem dX9_factor_79 : xd cX9_factor 79 (.iconst 1) 1 80 := ⟨by decide +kernel, rfl⟩
theorem dX9_factor_80 : xd cX9_factor 80 .iadd 1 81 := ⟨by decide +kernel, rfl⟩
theorem dX9_factor_81 : xd cX9_factor 81 (.putfield 119) 3 84 := ⟨by decide +kernel, rfl⟩
theorem dX9_factor_84 : xd cX9_factor 84 (.iload_n 2) 1 85 := ⟨by decide +kernel, rfl⟩
theorem dX9_factor_85 : xd cX9_factor 85 .ireturn 1 86 := ⟨by decide +kernel, rfl⟩

set_option maxRecDepth 100000 in
set_option maxHeartbeats 4000000 in
theorem ct_fac_b (l : Launch) (g : XG) (aN aNs aNk aNf aNr aNp aNb aNa aNt aNbo aNsz aNnu aNl aNal aNlo aNw aNtr aNis aNbg aNow nts nta nop nac : Nat) (nkp ntp nnw nsn nwn : Int32) (gr wk lk sz br : Nat) (z : Int32) (ru ki ma bb hd : Nat → Nat) (ce : Nat → Int32) (tb : Nat → Nat) (p : Nat) : Ct l g 4 0 0 yX9_factor cX9_factor 3 (some .int) [.ref aN] [(aN, .inr (9, [.ref aNs, .ref aNk, .int nkp, .ref aNf, .ref aNr, .ref aNp, .ref aNb, .ref aNa, .ref aNt, .int (nI nts), .ref aNbo, .ref aNsz, .ref aNnu, .int (nI nta), .int (nI nop), .int 1, .int ntp, .int (nI p), .int nnw, .int nsn, .int nwn, .ref aNl, .ref aNal, .ref aNlo, .int (nI nac), .ref aNw, .ref aNtr, .ref aNis, .ref aNbg, .ref aNow])), (aNs, .inl (g.2.1 0, 919, .inl (msF gr wk z lk sz br ru ki ma bb ce hd))), (aNt, .inl (g.2.1 0, 60, .inl (nIf tb))), (aNa, .inl (g.2.1 0, 2475, .inl (nIf fcN))), (aNr, .inl (g.2.1 0, 495, .inl (nIf rowB))), (aNb, .inl (g.2.1 0, 4096, .inl (nIf popN)))] (xpi (0) [(aN, .inr (9, [.ref aNs, .ref aNk, .int nkp, .ref aNf, .ref aNr, .ref aNp, .ref aNb, .ref aNa, .ref aNt, .int (nI nts), .ref aNbo, .ref aNsz, .ref aNnu, .int (nI nta), .int (nI nop), .int 1, .int ntp, .int (nI p), .int nnw, .int nsn, .int nwn, .ref aNl, .ref aNal, .ref aNlo, .int (nI nac), .ref aNw, .ref aNtr, .ref aNis, .ref aNbg, .ref aNow])), (aNs, .inl (g.2.1 0, 919, .inl (msF gr wk z lk sz br ru ki ma bb ce hd))), (aNt, .inl (g.2.1 0, 60, .inl (nIf tb))), (aNa, .inl (g.2.1 0, 2475, .inl (nIf fcN))), (aNr, .inl (g.2.1 0, 495, .inl (nIf rowB))), (aNb, .inl (g.2.1 0, 4096, .inl (nIf popN)))]) := by
  refine Ct.ofX (lv := [some (.ref aN), none, none]) (by decide) rfl (Nat.le_of_ble_eq_true rfl) (fun κ => ?_)
  generalize hQ : xQ κ g 0 0 _ = Q
  refine x_aload_n dX9_factor_0 rfl ?_
  refine x_get dX9_factor_1 0 15 inX9 fl_X9_135 rfl rfl (by decide) rfl ?_
  refine x_if_eq dX9_factor_4 (fun c4 => ?_) (fun c4 => ?_)
  · exact absurd c4 (by decide)
  refine x_iconst 0 dX9_factor_7 (by decide) ?_
  rw [← hQ]
  refine x_iret dX9_factor_8 rfl (Nat.le_of_ble_eq_true rfl) (Nat.le_of_ble_eq_true rfl) ?_
  exact ⟨rfl, rfl⟩

-- == trm_b ==
theorem dX9_term_0 : xd cX9_term 0 (.aload_n 0) 1 1 := ⟨by decide +kernel, rfl⟩
theorem dX9_term_1 : xd cX9_term 1 (.invokevirtual 167) 3 4 := ⟨by decide +kernel, rfl⟩
theorem dX9_term_4 : xd cX9_term 4 (.istore_n 1) 1 5 := ⟨by decide +kernel, rfl⟩
theorem dX9_term_5 : xd cX9_term 5 (.aload_n 0) 1 6 := ⟨by decide +kernel, rfl⟩
theorem dX9_term_6 : xd cX9_term 6 (.bipush 42) 2 8 := ⟨by decide +kernel, rfl⟩
theorem dX9_term_8 : xd cX9_term 8 (.invokevirtual 141) 3 11 := ⟨by decide +kernel, rfl⟩
theorem dX9_term_11 : xj cX9_term 11 (.ifCond .eq) 14 24 := ⟨13, by decide +kernel, rfl, by decide⟩
theorem dX9_term_14 : xd cX9_term 14 (.iload_n 1) 1 15 := ⟨by decide +kernel, rfl⟩
theorem dX9_term_15 : xd cX9_term 15 (.aload_n 0) 1 16 := ⟨by decide +kernel, rfl⟩
theorem dX9_term_16 : xd cX9_term 16 (.invokevirtual 167) 3 19 := ⟨by decide +kernel, rfl⟩
theorem dX9_term_19 : xd cX9_term 19 .imul 1 20 := ⟨by decide +kernel, rfl⟩
theorem dX9_term_20 : xd cX9_term 20 (.istore_n 1) 1 21 := ⟨by decide +kernel, rfl⟩
theorem dX9_term_21 : xj cX9_term 21 .goto 24 5 := ⟨(-16), by decide +kernel, rfl, by decide⟩
theorem dX9_term_24 : xd cX9_term 24 (.iload_n 1) 1 25 := ⟨by decide +kernel, rfl⟩
theorem dX9_term_25 : xd cX9_term 25 .ireturn 1 26 := ⟨by decide +kernel, rfl⟩

set_option maxRecDepth 100000 in
set_option maxHeartbeats 4000000 in
theorem ct_trm_b (l : Launch) (g : XG) (aN aNs aNk aNf aNr aNp aNb aNa aNt aNbo aNsz aNnu aNl aNal aNlo aNw aNtr aNis aNbg aNow nts nta nop nac : Nat) (nkp ntp nnw nsn nwn : Int32) (gr wk lk sz br : Nat) (z : Int32) (ru ki ma bb hd : Nat → Nat) (ce : Nat → Int32) (tb : Nat → Nat) (p : Nat) : Ct l g 5 0 0 yX9_term cX9_term 2 (some .int) [.ref aN] [(aN, .inr (9, [.ref aNs, .ref aNk, .int nkp, .ref aNf, .ref aNr, .ref aNp, .ref aNb, .ref aNa, .ref aNt, .int (nI nts), .ref aNbo, .ref aNsz, .ref aNnu, .int (nI nta), .int (nI nop), .int 1, .int ntp, .int (nI p), .int nnw, .int nsn, .int nwn, .ref aNl, .ref aNal, .ref aNlo, .int (nI nac), .ref aNw, .ref aNtr, .ref aNis, .ref aNbg, .ref aNow])), (aNs, .inl (g.2.1 0, 919, .inl (msF gr wk z lk sz br ru ki ma bb ce hd))), (aNt, .inl (g.2.1 0, 60, .inl (nIf tb))), (aNa, .inl (g.2.1 0, 2475, .inl (nIf fcN))), (aNr, .inl (g.2.1 0, 495, .inl (nIf rowB))), (aNb, .inl (g.2.1 0, 4096, .inl (nIf popN)))] (xpi (0) [(aN, .inr (9, [.ref aNs, .ref aNk, .int nkp, .ref aNf, .ref aNr, .ref aNp, .ref aNb, .ref aNa, .ref aNt, .int (nI nts), .ref aNbo, .ref aNsz, .ref aNnu, .int (nI nta), .int (nI nop), .int 1, .int ntp, .int (nI p), .int nnw, .int nsn, .int nwn, .ref aNl, .ref aNal, .ref aNlo, .int (nI nac), .ref aNw, .ref aNtr, .ref aNis, .ref aNbg, .ref aNow])), (aNs, .inl (g.2.1 0, 919, .inl (msF gr wk z lk sz br ru ki ma bb ce hd))), (aNt, .inl (g.2.1 0, 60, .inl (nIf tb))), (aNa, .inl (g.2.1 0, 2475, .inl (nIf fcN))), (aNr, .inl (g.2.1 0, 495, .inl (nIf rowB))), (aNb, .inl (g.2.1 0, 4096, .inl (nIf popN)))]) := by
  refine Ct.ofX (lv := [some (.ref aN), none]) (by decide) rfl (Nat.le_of_ble_eq_true rfl) (fun κ => ?_)
  generalize hQ : xQ κ g 0 0 _ = Q
  refine x_aload_n dX9_term_0 rfl ?_
  refine x_cVi0 dX9_term_1 ml_X9_167 mX9_factor (ct_fac_b κ.2.1 g aN aNs aNk aNf aNr aNp aNb aNa aNt aNbo aNsz aNnu aNl aNal aNlo aNw aNtr aNis aNbg aNow nts nta nop nac nkp ntp nnw nsn nwn gr wk lk sz br z ru ki ma bb hd ce tb p) [0, 1, 2, 3, 4, 5] rfl rfl 0 rfl rfl rfl (Nat.le_of_ble_eq_true rfl) (by decide) (Nat.le_refl _) (Nat.le_refl _) ?_
  refine x_istore_n (lv' := [some (.ref aN), some (.int 0)]) dX9_term_4 (xlt rfl) rfl ?_
  refine x_aload_n dX9_term_5 rfl ?_
  refine x_bipush 42 dX9_term_6 (by decide) ?_
  refine x_cVi0 dX9_term_8 ml_X9_141 mX9_takes (ct_takes_b κ.2.1 g aN aNs aNk aNf aNr aNp aNb aNa aNt aNbo aNsz aNnu aNl aNal aNlo aNw aNtr aNis aNbg aNow nts nta nop p nac nkp ntp nnw nsn nwn gr wk lk sz br z ru ki ma bb hd ce tb 42) [0, 1, 2] rfl rfl 0 rfl rfl rfl (Nat.le_of_ble_eq_true rfl) (by decide) (Nat.le_refl _) (Nat.le_refl _) ?_
  refine x_if_eq dX9_term_11 (fun c11 => ?_) (fun c11 => ?_)
  rotate_left
  · exact absurd c11 (by decide)
  refine x_iload_n dX9_term_24 rfl ?_
  rw [← hQ]
  refine x_iret dX9_term_25 rfl (Nat.le_of_ble_eq_true rfl) (Nat.le_of_ble_eq_true rfl) ?_
  exact ⟨rfl, rfl⟩

-- == sum_b ==
theorem dX9_sum_0 : xd cX9_sum 0 (.aload_n 0) 1 1 := ⟨by decide +kernel, rfl⟩
theorem dX9_sum_1 : xd cX9_sum 1 (.invokevirtual 170) 3 4 := ⟨by decide +kernel, rfl⟩
theorem dX9_sum_4 : xd cX9_sum 4 (.istore_n 1) 1 5 := ⟨by decide +kernel, rfl⟩
theorem dX9_sum_5 : xd cX9_sum 5 (.iconst 1) 1 6 := ⟨by decide +kernel, rfl⟩
theorem dX9_sum_6 : xd cX9_sum 6 (.istore_n 2) 1 7 := ⟨by decide +kernel, rfl⟩
theorem dX9_sum_7 : xd cX9_sum 7 (.iload_n 2) 1 8 := ⟨by decide +kernel, rfl⟩
theorem dX9_sum_8 : xj cX9_sum 8 (.ifCond .eq) 11 66 := ⟨58, by decide +kernel, rfl, by decide⟩
theorem dX9_sum_11 : xd cX9_sum 11 (.aload_n 0) 1 12 := ⟨by decide +kernel, rfl⟩
theorem dX9_sum_12 : xd cX9_sum 12 (.bipush 43) 2 14 := ⟨by decide +kernel, rfl⟩
theorem dX9_sum_14 : xd cX9_sum 14 (.invokevirtual 141) 3 17 := ⟨by decide +kernel, rfl⟩
theorem dX9_sum_17 : xd cX9_sum 17 (.istore_n 3) 1 18 := ⟨by decide +kernel, rfl⟩
theorem dX9_sum_18 : xd cX9_sum 18 (.iload_n 3) 1 19 := ⟨by decide +kernel, rfl⟩
theorem dX9_sum_19 : xj cX9_sum 19 (.ifCond .ne) 22 31 := ⟨12, by decide +kernel, rfl, by decide⟩
theorem dX9_sum_22 : xd cX9_sum 22 (.aload_n 0) 1 23 := ⟨by decide +kernel, rfl⟩
theorem dX9_sum_23 : xd cX9_sum 23 (.bipush 45) 2 25 := ⟨by decide +kernel, rfl⟩
theorem dX9_sum_25 : xd cX9_sum 25 (.invokevirtual 141) 3 28 := ⟨by decide +kernel, rfl⟩
theorem dX9_sum_28 : xj cX9_sum 28 (.ifCond .eq) 31 35 := ⟨7, by decide +kernel, rfl, by decide⟩
theorem dX9_sum_31 : xd cX9_sum 31 (.iconst 1) 1 32 := ⟨by decide +kernel, rfl⟩
theorem dX9_sum_32 : xj cX9_sum 32 .goto 35 36 := ⟨4, by decide +kernel, rfl, by decide⟩
theorem dX9_sum_35 : xd cX9_sum 35 (.iconst 0) 1 36 := ⟨by decide +kernel, rfl⟩
theorem dX9_sum_36 : xd cX9_sum 36 (.istore_n 2) 1 37 := ⟨by decide +kernel, rfl⟩
theorem dX9_sum_37 : xd cX9_sum 37 (.iload_n 2) 1 38 := ⟨by decide +kernel, rfl⟩
theorem dX9_sum_38 : xj cX9_sum 38 (.ifCond .eq) 41 63 := ⟨25, by decide +kernel, rfl, by decide⟩
theorem dX9_sum_41 : xd cX9_sum 41 (.aload_n 0) 1 42 := ⟨by decide +kernel, rfl⟩
theorem dX9_sum_42 : xd cX9_sum 42 (.invokevirtual 170) 3 45 := ⟨by decide +kernel, rfl⟩
theorem dX9_sum_45 : xd cX9_sum 45 (.istore 4) 2 47 := ⟨by decide +kernel, rfl⟩
theorem dX9_sum_47 : xd cX9_sum 47 (.iload_n 3) 1 48 := ⟨by decide +kernel, rfl⟩
theorem dX9_sum_48 : xj cX9_sum 48 (.ifCond .eq) 51 58 := ⟨10, by decide +kernel, rfl, by decide⟩
theorem dX9_sum_51 : xd cX9_sum 51 (.iload_n 1) 1 52 := ⟨by decide +kernel, rfl⟩
theorem dX9_sum_52 : xd cX9_sum 52 (.iload 4) 2 54 := ⟨by decide +kernel, rfl⟩
theorem dX9_sum_54 : xd cX9_sum 54 .iadd 1 55 := ⟨by decide +kernel, rfl⟩
theorem dX9_sum_55 : xj cX9_sum 55 .goto 58 62 := ⟨7, by decide +kernel, rfl, by decide⟩
theorem dX9_sum_58 : xd cX9_sum 58 (.iload_n 1) 1 59 := ⟨by decide +kernel, rfl⟩
theorem dX9_sum_59 : xd cX9_sum 59 (.iload 4) 2 61 := ⟨by decide +kernel, rfl⟩
theorem dX9_sum_61 : xd cX9_sum 61 .isub 1 62 := ⟨by decide +kernel, rfl⟩
theorem dX9_sum_62 : xd cX9_sum 62 (.istore_n 1) 1 63 := ⟨by decide +kernel, rfl⟩
theorem dX9_sum_63 : xj cX9_sum 63 .goto 66 7 := ⟨(-56), by decide +kernel, rfl, by decide⟩
theorem dX9_sum_66 : xd cX9_sum 66 (.iload_n 1) 1 67 := ⟨by decide +kernel, rfl⟩
theorem dX9_sum_67 : xd cX9_sum 67 .ireturn 1 68 := ⟨by decide +kernel, rfl⟩

set_option maxRecDepth 100000 in
set_option maxHeartbeats 4000000 in
theorem ct_sum_b (l : Launch) (g : XG) (aN aNs aNk aNf aNr aNp aNb aNa aNt aNbo aNsz aNnu aNl aNal aNlo aNw aNtr aNis aNbg aNow nts nta nop nac : Nat) (nkp ntp nnw nsn nwn : Int32) (gr wk lk sz br : Nat) (z : Int32) (ru ki ma bb hd : Nat → Nat) (ce : Nat → Int32) (tb : Nat → Nat) (p : Nat) : Ct l g 6 0 0 yX9_sum cX9_sum 5 (some .int) [.ref aN] [(aN, .inr (9, [.ref aNs, .ref aNk, .int nkp, .ref aNf, .ref aNr, .ref aNp, .ref aNb, .ref aNa, .ref aNt, .int (nI nts), .ref aNbo, .ref aNsz, .ref aNnu, .int (nI nta), .int (nI nop), .int 1, .int ntp, .int (nI p), .int nnw, .int nsn, .int nwn, .ref aNl, .ref aNal, .ref aNlo, .int (nI nac), .ref aNw, .ref aNtr, .ref aNis, .ref aNbg, .ref aNow])), (aNs, .inl (g.2.1 0, 919, .inl (msF gr wk z lk sz br ru ki ma bb ce hd))), (aNt, .inl (g.2.1 0, 60, .inl (nIf tb))), (aNa, .inl (g.2.1 0, 2475, .inl (nIf fcN))), (aNr, .inl (g.2.1 0, 495, .inl (nIf rowB))), (aNb, .inl (g.2.1 0, 4096, .inl (nIf popN)))] (xpi (0) [(aN, .inr (9, [.ref aNs, .ref aNk, .int nkp, .ref aNf, .ref aNr, .ref aNp, .ref aNb, .ref aNa, .ref aNt, .int (nI nts), .ref aNbo, .ref aNsz, .ref aNnu, .int (nI nta), .int (nI nop), .int 1, .int ntp, .int (nI p), .int nnw, .int nsn, .int nwn, .ref aNl, .ref aNal, .ref aNlo, .int (nI nac), .ref aNw, .ref aNtr, .ref aNis, .ref aNbg, .ref aNow])), (aNs, .inl (g.2.1 0, 919, .inl (msF gr wk z lk sz br ru ki ma bb ce hd))), (aNt, .inl (g.2.1 0, 60, .inl (nIf tb))), (aNa, .inl (g.2.1 0, 2475, .inl (nIf fcN))), (aNr, .inl (g.2.1 0, 495, .inl (nIf rowB))), (aNb, .inl (g.2.1 0, 4096, .inl (nIf popN)))]) := by
  refine Ct.ofX (lv := [some (.ref aN), none, none, none, none]) (by decide) rfl (Nat.le_of_ble_eq_true rfl) (fun κ => ?_)
  generalize hQ : xQ κ g 0 0 _ = Q
  refine x_aload_n dX9_sum_0 rfl ?_
  refine x_cVi0 dX9_sum_1 ml_X9_170 mX9_term (ct_trm_b κ.2.1 g aN aNs aNk aNf aNr aNp aNb aNa aNt aNbo aNsz aNnu aNl aNal aNlo aNw aNtr aNis aNbg aNow nts nta nop nac nkp ntp nnw nsn nwn gr wk lk sz br z ru ki ma bb hd ce tb p) [0, 1, 2, 3, 4, 5] rfl rfl 0 rfl rfl rfl (Nat.le_of_ble_eq_true rfl) (by decide) (Nat.le_refl _) (Nat.le_refl _) ?_
  refine x_istore_n (lv' := [some (.ref aN), some (.int 0), none, none, none]) dX9_sum_4 (xlt rfl) rfl ?_
  refine x_iconst 1 dX9_sum_5 (by decide) ?_
  refine x_istore_n (lv' := [some (.ref aN), some (.int 0), some (.int 1), none, none]) dX9_sum_6 (xlt rfl) rfl ?_
  refine x_iload_n dX9_sum_7 rfl ?_
  refine x_if_eq dX9_sum_8 (fun c8 => ?_) (fun c8 => ?_)
  · exact absurd c8 (by decide)
  refine x_aload_n dX9_sum_11 rfl ?_
  refine x_bipush 43 dX9_sum_12 (by decide) ?_
  refine x_cVi0 dX9_sum_14 ml_X9_141 mX9_takes (ct_takes_b κ.2.1 g aN aNs aNk aNf aNr aNp aNb aNa aNt aNbo aNsz aNnu aNl aNal aNlo aNw aNtr aNis aNbg aNow nts nta nop p nac nkp ntp nnw nsn nwn gr wk lk sz br z ru ki ma bb hd ce tb 43) [0, 1, 2] rfl rfl 0 rfl rfl rfl (Nat.le_of_ble_eq_true rfl) (by decide) (Nat.le_refl _) (Nat.le_refl _) ?_
  refine x_istore_n (lv' := [some (.ref aN), some (.int 0), some (.int 1), some (.int 0), none]) dX9_sum_17 (xlt rfl) rfl ?_
  refine x_iload_n dX9_sum_18 rfl ?_
  refine x_if_ne dX9_sum_19 (fun c19 => ?_) (fun c19 => ?_)
  · exact absurd c19 (by decide)
  refine x_aload_n dX9_sum_22 rfl ?_
  refine x_bipush 45 dX9_sum_23 (by decide) ?_
  refine x_cVi0 dX9_sum_25 ml_X9_141 mX9_takes (ct_takes_b κ.2.1 g aN aNs aNk aNf aNr aNp aNb aNa aNt aNbo aNsz aNnu aNl aNal aNlo aNw aNtr aNis aNbg aNow nts nta nop p nac nkp ntp nnw nsn nwn gr wk lk sz br z ru ki ma bb hd ce tb 45) [0, 1, 2] rfl rfl 0 rfl rfl rfl (Nat.le_of_ble_eq_true rfl) (by decide) (Nat.le_refl _) (Nat.le_refl _) ?_
  refine x_if_eq dX9_sum_28 (fun c28 => ?_) (fun c28 => ?_)
  rotate_left
  · exact absurd c28 (by decide)
  refine x_iconst 0 dX9_sum_35 (by decide) ?_
  refine x_istore_n (lv' := [some (.ref aN), some (.int 0), some (.int 0), some (.int 0), none]) dX9_sum_36 (xlt rfl) rfl ?_
  refine x_iload_n dX9_sum_37 rfl ?_
  refine x_if_eq dX9_sum_38 (fun c38 => ?_) (fun c38 => ?_)
  rotate_left
  · exact absurd c38 (by decide)
  refine x_goto dX9_sum_63 ?_
  refine x_iload_n dX9_sum_7 rfl ?_
  refine x_if_eq dX9_sum_8 (fun c8 => ?_) (fun c8 => ?_)
  rotate_left
  · exact absurd c8 (by decide)
  refine x_iload_n dX9_sum_66 rfl ?_
  rw [← hQ]
  refine x_iret dX9_sum_67 rfl (Nat.le_of_ble_eq_true rfl) (Nat.le_of_ble_eq_true rfl) ?_
  exact ⟨rfl, rfl⟩

-- == ch_0 ==
theorem dX9_choice_0 : xd cX9_choice 0 (.aload_n 0) 1 1 := ⟨by decide +kernel, rfl⟩
theorem dX9_choice_1 : xd cX9_choice 1 (.getfield 148) 3 4 := ⟨by decide +kernel, rfl⟩
theorem dX9_choice_4 : xd cX9_choice 4 (.iconst 4) 1 5 := ⟨by decide +kernel, rfl⟩
theorem dX9_choice_5 : xj cX9_choice 5 (.if_icmp .ne) 8 15 := ⟨10, by decide +kernel, rfl, by decide⟩
theorem dX9_choice_8 : xd cX9_choice 8 (.aload_n 0) 1 9 := ⟨by decide +kernel, rfl⟩
theorem dX9_choice_9 : xd cX9_choice 9 (.iconst 1) 1 10 := ⟨by decide +kernel, rfl⟩
theorem dX9_choice_10 : xd cX9_choice 10 (.putfield 135) 3 13 := ⟨by decide +kernel, rfl⟩
theorem dX9_choice_13 : xd cX9_choice 13 (.iconst 0) 1 14 := ⟨by decide +kernel, rfl⟩
theorem dX9_choice_14 : xd cX9_choice 14 .ireturn 1 15 := ⟨by decide +kernel, rfl⟩
theorem dX9_choice_15 : xd cX9_choice 15 (.aload_n 0) 1 16 := ⟨by decide +kernel, rfl⟩
theorem dX9_choice_16 : xd cX9_choice 16 .dup 1 17 := ⟨by decide +kernel, rfl⟩
theorem dX9_choice_17 : xd cX9_choice 17 (.getfield 148) 3 20 := ⟨by decide +kernel, rfl⟩
theorem dX9_choice_20 : xd cX9_choice 20 (.iconst 1) 1 21 := ⟨by decide +kernel, rfl⟩
theorem dX9_choice_21 : xd cX9_choice 21 .iadd 1 22 := ⟨by decide +kernel, rfl⟩
theorem dX9_choice_22 : xd cX9_choice 22 (.putfield 148) 3 25 := ⟨by decide +kernel, rfl⟩
theorem dX9_choice_25 : xd cX9_choice 25 (.aload_n 0) 1 26 := ⟨by decide +kernel, rfl⟩
theorem dX9_choice_26 : xd cX9_choice 26 .dup 1 27 := ⟨by decide +kernel, rfl⟩
theorem dX9_choice_27 : xd cX9_choice 27 (.getfield 119) 3 30 := ⟨by decide +kernel, rfl⟩
theorem dX9_choice_30 : xd cX9_choice 30 (.iconst 1) 1 31 := ⟨by decide +kernel, rfl⟩
theorem dX9_choice_31 : xd cX9_choice 31 .iadd 1 32 := ⟨by decide +kernel, rfl⟩
theorem dX9_choice_32 : xd cX9_choice 32 (.putfield 119) 3 35 := ⟨by decide +kernel, rfl⟩
theorem dX9_choice_35 : xd cX9_choice 35 (.aload_n 0) 1 36 := ⟨by decide +kernel, rfl⟩
theorem dX9_choice_36 : xd cX9_choice 36 (.invokevirtual 151) 3 39 := ⟨by decide +kernel, rfl⟩
theorem dX9_choice_39 : xd cX9_choice 39 (.istore_n 1) 1 40 := ⟨by decide +kernel, rfl⟩
theorem dX9_choice_40 : xd cX9_choice 40 (.aload_n 0) 1 41 := ⟨by decide +kernel, rfl⟩
theorem dX9_choice_41 : xd cX9_choice 41 (.bipush 63) 2 43 := ⟨by decide +kernel, rfl⟩
theorem dX9_choice_43 : xd cX9_choice 43 (.invokevirtual 141) 3 46 := ⟨by decide +kernel, rfl⟩
theorem dX9_choice_46 : xj cX9_choice 46 (.ifCond .eq) 49 75 := ⟨29, by decide +kernel, rfl, by decide⟩
theorem dX9_choice_49 : xd cX9_choice 49 (.aload_n 0) 1 50 := ⟨by decide +kernel, rfl⟩
theorem dX9_choice_50 : xd cX9_choice 50 (.invokevirtual 151) 3 53 := ⟨by decide +kernel, rfl⟩
theorem dX9_choice_53 : xd cX9_choice 53 (.istore_n 2) 1 54 := ⟨by decide +kernel, rfl⟩
theorem dX9_choice_54 : xd cX9_choice 54 (.aload_n 0) 1 55 := ⟨by decide +kernel, rfl⟩
theorem dX9_choice_55 : xd cX9_choice 55 (.bipush 58) 2 57 := ⟨by decide +kernel, rfl⟩
theorem dX9_choice_57 : xd cX9_choice 57 (.invokevirtual 154) 3 60 := ⟨by decide +kernel, rfl⟩
theorem dX9_choice_60 : xd cX9_choice 60 (.aload_n 0) 1 61 := ⟨by decide +kernel, rfl⟩
theorem dX9_choice_61 : xd cX9_choice 61 (.invokevirtual 151) 3 64 := ⟨by decide +kernel, rfl⟩
theorem dX9_choice_64 : xd cX9_choice 64 (.istore_n 3) 1 65 := ⟨by decide +kernel, rfl⟩
theorem dX9_choice_65 : xd cX9_choice 65 (.iload_n 1) 1 66 := ⟨by decide +kernel, rfl⟩
theorem dX9_choice_66 : xj cX9_choice 66 (.ifCond .le) 69 73 := ⟨7, by decide +kernel, rfl, by decide⟩
theorem dX9_choice_69 : xd cX9_choice 69 (.iload_n 2) 1 70 := ⟨by decide +kernel, rfl⟩
theorem dX9_choice_70 : xj cX9_choice 70 .goto 73 74 := ⟨4, by decide +kernel, rfl, by decide⟩
theorem dX9_choice_73 : xd cX9_choice 73 (.iload_n 3) 1 74 := ⟨by decide +kernel, rfl⟩
theorem dX9_choice_74 : xd cX9_choice 74 (.istore_n 1) 1 75 := ⟨by decide +kernel, rfl⟩
theorem dX9_choice_75 : xd cX9_choice 75 (.aload_n 0) 1 76 := ⟨by decide +kernel, rfl⟩
theorem dX9_choice_76 : xd cX9_choice 76 (.bipush 41) 2 78 := ⟨by decide +kernel, rfl⟩
theorem dX9_choice_78 : xd cX9_choice 78 (.invokevirtual 154) 3 81 := ⟨by decide +kernel, rfl⟩
theorem dX9_choice_81 : xd cX9_choice 81 (.aload_n 0) 1 82 := ⟨by decide +kernel, rfl⟩
theorem dX9_choice_82 : xd cX9_choice 82 .dup 1 83 := ⟨by decide +kernel, rfl⟩
theorem dX9_choice_83 : xd cX9_choice 83 (.getfield 148) 3 86 := ⟨by decide +kernel, rfl⟩
theorem dX9_choice_86 : xd cX9_choice 86 (.iconst 1) 1 87 := ⟨by decide +kernel, rfl⟩
theorem dX9_choice_87 : xd cX9_choice 87 .isub 1 88 := ⟨by decide +kernel, rfl⟩
theorem dX9_choice_88 : xd cX9_choice 88 (.putfield 148) 3 91 := ⟨by decide +kernel, rfl⟩
theorem dX9_choice_91 : xd cX9_choice 91 (.iload_n 1) 1 92 := ⟨by decide +kernel, rfl⟩
theorem dX9_choice_92 : xd cX9_choice 92 .ireturn 1 93 := ⟨by decide +kernel, rfl⟩

set_option maxRecDepth 100000 in
set_option maxHeartbeats 4000000 in
theorem ct_ch_0 (l : Launch) (g : XG) (aN aNs aNk aNf aNr aNp aNb aNa aNt aNbo aNsz aNnu aNl aNal aNlo aNw aNtr aNis aNbg aNow nts nta nac : Nat) (nkp ntp nnw nsn nwn : Int32) (gr wk lk sz br : Nat) (z : Int32) (ru ki ma bb hd : Nat → Nat) (ce : Nat → Int32) (tb b : Nat → Nat) (n L p : Nat) (ht : (ntp = 1 ∧ n = nts ∧ b = tb) ∨ (ntp = 0 ∧ n = sz ∧ b = bb)) (ha : nta ≤ n) (hn : n ≤ 60) (hb : ∀ j, b j < 256) (hp : p < 495) (hwk : wk ≤ 40) (hlat : latI ce wk = nI L) (hq : hB b n nta = 40) : Ct l g 4 0 0 yX9_choice cX9_choice 4 (some .int) [.ref aN] [(aN, .inr (9, [.ref aNs, .ref aNk, .int nkp, .ref aNf, .ref aNr, .ref aNp, .ref aNb, .ref aNa, .ref aNt, .int (nI nts), .ref aNbo, .ref aNsz, .ref aNnu, .int (nI nta), .int 4, .int 0, .int ntp, .int (nI p), .int nnw, .int nsn, .int nwn, .ref aNl, .ref aNal, .ref aNlo, .int (nI nac), .ref aNw, .ref aNtr, .ref aNis, .ref aNbg, .ref aNow])), (aNs, .inl (g.2.1 0, 919, .inl (msF gr wk z lk sz br ru ki ma bb ce hd))), (aNt, .inl (g.2.1 0, 60, .inl (nIf tb))), (aNa, .inl (g.2.1 0, 2475, .inl (nIf fcN))), (aNr, .inl (g.2.1 0, 495, .inl (nIf rowB))), (aNb, .inl (g.2.1 0, 4096, .inl (nIf popN)))] (xpi ((hrL (hB b n) (nmI wk L p) 0 nta).2.2) [(aN, .inr (9, [.ref aNs, .ref aNk, .int nkp, .ref aNf, .ref aNr, .ref aNp, .ref aNb, .ref aNa, .ref aNt, .int (nI nts), .ref aNbo, .ref aNsz, .ref aNnu, .int (nI ((hrL (hB b n) (nmI wk L p) 0 nta).1)), .int 4, .int (bI (hrL (hB b n) (nmI wk L p) 0 nta).2.1), .int ntp, .int (nI p), .int nnw, .int nsn, .int nwn, .ref aNl, .ref aNal, .ref aNlo, .int (nI nac), .ref aNw, .ref aNtr, .ref aNis, .ref aNbg, .ref aNow])), (aNs, .inl (g.2.1 0, 919, .inl (msF gr wk z lk sz br ru ki ma bb ce hd))), (aNt, .inl (g.2.1 0, 60, .inl (nIf tb))), (aNa, .inl (g.2.1 0, 2475, .inl (nIf fcN))), (aNr, .inl (g.2.1 0, 495, .inl (nIf rowB))), (aNb, .inl (g.2.1 0, 4096, .inl (nIf popN)))]) := by
  refine Ct.ofX (lv := [some (.ref aN), none, none, none]) (by decide) rfl (Nat.le_of_ble_eq_true rfl) (fun κ => ?_)
  generalize hQ : xQ κ g 0 0 _ = Q
  refine x_aload_n dX9_choice_0 rfl ?_
  refine x_get dX9_choice_1 0 14 inX9 fl_X9_148 rfl rfl (by decide) rfl ?_
  refine x_iconst 4 dX9_choice_4 (by decide) ?_
  refine x_icmp_ne dX9_choice_5 (fun c5 => ?_) (fun c5 => ?_)
  · exact absurd c5 (by decide)
  refine x_aload_n dX9_choice_8 rfl ?_
  refine x_iconst 1 dX9_choice_9 (by decide) ?_
  refine x_put (ws' := [(aN, .inr (9, [.ref aNs, .ref aNk, .int nkp, .ref aNf, .ref aNr, .ref aNp, .ref aNb, .ref aNa, .ref aNt, .int (nI nts), .ref aNbo, .ref aNsz, .ref aNnu, .int (nI nta), .int 4, .int 1, .int ntp, .int (nI p), .int nnw, .int nsn, .int nwn, .ref aNl, .ref aNal, .ref aNlo, .int (nI nac), .ref aNw, .ref aNtr, .ref aNis, .ref aNbg, .ref aNow])), (aNs, .inl (g.2.1 0, 919, .inl (msF gr wk z lk sz br ru ki ma bb ce hd))), (aNt, .inl (g.2.1 0, 60, .inl (nIf tb))), (aNa, .inl (g.2.1 0, 2475, .inl (nIf fcN))), (aNr, .inl (g.2.1 0, 495, .inl (nIf rowB))), (aNb, .inl (g.2.1 0, 4096, .inl (nIf popN)))]) dX9_choice_10 0 15 inX9 tyX9_ok nmX9 fl_X9_135 rfl rfl (by decide) rfl (rfl) rfl (xlt rfl) rfl ?_
  refine x_iconst 0 dX9_choice_13 (by decide) ?_
  rw [← hQ]
  refine x_iret dX9_choice_14 rfl (Nat.le_of_ble_eq_true rfl) (Nat.le_of_ble_eq_true rfl) ?_
  exact ⟨rfl, rfl⟩

-- == fr_0 ==
set_option maxRecDepth 100000 in
set_option maxHeartbeats 4000000 in
theorem ct_fr_0 (l : Launch) (g : XG) (aN aNs aNk aNf aNr aNp aNb aNa aNt aNbo aNsz aNnu aNl aNal aNlo aNw aNtr aNis aNbg aNow nts nta nac : Nat) (nkp ntp nnw nsn nwn : Int32) (gr wk lk sz br : Nat) (z : Int32) (ru ki ma bb hd : Nat → Nat) (ce : Nat → Int32) (tb b : Nat → Nat) (n L p : Nat) (ht : (ntp = 1 ∧ n = nts ∧ b = tb) ∨ (ntp = 0 ∧ n = sz ∧ b = bb)) (ha : nta ≤ n) (hn : n ≤ 60) (hb : ∀ j, b j < 256) (hp : p < 495) (hwk : wk ≤ 40) (hlat : latI ce wk = nI L) : Ct l g 6 0 0 yX9_factor cX9_factor 3 (some .int) [.ref aN] [(aN, .inr (9, [.ref aNs, .ref aNk, .int nkp, .ref aNf, .ref aNr, .ref aNp, .ref aNb, .ref aNa, .ref aNt, .int (nI nts), .ref aNbo, .ref aNsz, .ref aNnu, .int (nI nta), .int 4, .int 0, .int ntp, .int (nI p), .int nnw, .int nsn, .int nwn, .ref aNl, .ref aNal, .ref aNlo, .int (nI nac), .ref aNw, .ref aNtr, .ref aNis, .ref aNbg, .ref aNow])), (aNs, .inl (g.2.1 0, 919, .inl (msF gr wk z lk sz br ru ki ma bb ce hd))), (aNt, .inl (g.2.1 0, 60, .inl (nIf tb))), (aNa, .inl (g.2.1 0, 2475, .inl (nIf fcN))), (aNr, .inl (g.2.1 0, 495, .inl (nIf rowB))), (aNb, .inl (g.2.1 0, 4096, .inl (nIf popN)))] (xpi ((frL (hB b n) (nmI wk L p) 0 nta).2.2) [(aN, .inr (9, [.ref aNs, .ref aNk, .int nkp, .ref aNf, .ref aNr, .ref aNp, .ref aNb, .ref aNa, .ref aNt, .int (nI nts), .ref aNbo, .ref aNsz, .ref aNnu, .int (nI ((frL (hB b n) (nmI wk L p) 0 nta).1)), .int 4, .int (bI (frL (hB b n) (nmI wk L p) 0 nta).2.1), .int ntp, .int (nI p), .int nnw, .int nsn, .int nwn, .ref aNl, .ref aNal, .ref aNlo, .int (nI nac), .ref aNw, .ref aNtr, .ref aNis, .ref aNbg, .ref aNow])), (aNs, .inl (g.2.1 0, 919, .inl (msF gr wk z lk sz br ru ki ma bb ce hd))), (aNt, .inl (g.2.1 0, 60, .inl (nIf tb))), (aNa, .inl (g.2.1 0, 2475, .inl (nIf fcN))), (aNr, .inl (g.2.1 0, 495, .inl (nIf rowB))), (aNb, .inl (g.2.1 0, 4096, .inl (nIf popN)))]) := by
  refine Ct.ofX (lv := [some (.ref aN), none, none]) (by decide) rfl (Nat.le_of_ble_eq_true rfl) (fun κ => ?_)
  generalize hQ : xQ κ g 0 0 _ = Q
  refine x_aload_n dX9_factor_0 rfl ?_
  refine x_get dX9_factor_1 0 15 inX9 fl_X9_135 rfl rfl (by decide) rfl ?_
  refine x_if_eq dX9_factor_4 (fun c4 => ?_) (fun c4 => ?_)
  rotate_left
  · exact absurd c4 (by decide)
  refine x_aload_n dX9_factor_9 rfl ?_
  refine x_cVi0 dX9_factor_10 ml_X9_138 mX9_byteHere (ct_X9_byteHere κ.2.1 g aN aNs aNk aNf aNr aNp aNb aNa aNt aNbo aNsz aNnu aNl aNal aNlo aNw aNtr aNis aNbg aNow nts nta 4 p nac nkp 0 ntp nnw nsn nwn gr wk lk sz br z ru ki ma bb hd ce tb b n (ht) (by omega) (hn) (hb)) [0, 1, 2] rfl rfl 0 rfl rfl rfl (Nat.le_of_ble_eq_true rfl) (by decide) (Nat.le_refl _) (Nat.le_refl _) ?_
  rcases hI_cases (hB b n) nta with ⟨hlt, hh⟩ | ⟨hlt, hh⟩ <;> rw [hh]
  · skip
    refine x_istore_n (lv' := [some (.ref aN), some (.int (nI (hB b n nta))), none]) dX9_factor_13 (xlt rfl) rfl ?_
    refine x_iload_n dX9_factor_14 rfl ?_
    refine x_i2l dX9_factor_15 ?_
    refine x_ldc2 dX9_factor_16 kl_X9_144 ?_
    refine x_ldc2 dX9_factor_19 kl_X9_146 ?_
    refine x_cSi dX9_factor_22 ml_X9_98 mX9_isIn (ct_X9_isIn κ.2.1 g ((nI (hB b n nta)).toInt64) 48 57) rfl (Nat.le_of_ble_eq_true rfl) (by decide) (Nat.le_refl _) (Nat.le_refl _) ?_
    refine x_rei (wI (nI (hB b n nta)) 48 57) (inL_w (nI (hB b n nta)) 48 57 (by first | rfl | decide) (by first | rfl | decide)) ?_
    skip
    refine x_if_eq dX9_factor_25 (fun c25 => ?_) (fun c25 => ?_)
    · have c25 : (wI (nI (hB b n nta)) 48 57) = 0 := c25
      refine x_iload_n dX9_factor_33 rfl ?_
      refine x_bipush 40 dX9_factor_34 (by decide) ?_
      refine x_icmp_ne dX9_factor_36 (fun c36 => ?_) (fun c36 => ?_)
      · have c36 : ¬ ((nI (hB b n nta)) = 40) := c36
        have c36n := mt (nI_eq (a := (hB b n nta)) (b := 40) (by omega) (by omega)).mpr c36
        refine x_aload_n dX9_factor_44 rfl ?_
        refine x_iload_n dX9_factor_45 rfl ?_
        refine x_cVi0 dX9_factor_46 ml_X9_164 mX9_named (ct_named_n κ.2.1 g aN aNs aNk aNf aNr aNp aNb aNa aNt aNbo aNsz aNnu aNl aNal aNlo aNw aNtr aNis aNbg aNow nts nta 4 nac nkp 0 ntp nnw nsn nwn gr wk lk sz br z ru ki ma bb hd ce L p (hB b n nta) (hp) (hwk) (hlat) (hlt)) [0, 1, 3, 4, 5] rfl rfl 0 rfl rfl rfl (Nat.le_of_ble_eq_true rfl) (by decide) (Nat.le_refl _) (Nat.le_refl _) ?_
        have hnn := nmN_le (L := L) hwk hp (nmIx (hB b n nta))
        by_cases hni : nmIx (hB b n nta) < 7
        · rw [if_pos hni]
          refine x_istore_n (lv' := [some (.ref aN), some (.int (nI (hB b n nta))), some (.int (nI (nmN wk L (rowB p) (nmIx (hB b n nta)))))]) dX9_factor_49 (xlt rfl) rfl ?_
          refine x_aload_n dX9_factor_50 rfl ?_
          refine x_iload_n dX9_factor_51 rfl ?_
          refine x_if_ge dX9_factor_52 (fun c52 => ?_) (fun c52 => ?_)
          · have c52 : 0 ≤ (nI (nmN wk L (rowB p) (nmIx (hB b n nta)))) := c52
            have c52n := (nI_leI (a := 0) (b := (nmN wk L (rowB p) (nmIx (hB b n nta)))) (by omega) (by omega)).mp c52
            refine x_iconst 0 dX9_factor_59 (by decide) ?_
            refine x_put (ws' := [(aN, .inr (9, [.ref aNs, .ref aNk, .int nkp, .ref aNf, .ref aNr, .ref aNp, .ref aNb, .ref aNa, .ref aNt, .int (nI nts), .ref aNbo, .ref aNsz, .ref aNnu, .int (nI nta), .int 4, .int 0, .int ntp, .int (nI p), .int nnw, .int nsn, .int nwn, .ref aNl, .ref aNal, .ref aNlo, .int (nI nac), .ref aNw, .ref aNtr, .ref aNis, .ref aNbg, .ref aNow])), (aNs, .inl (g.2.1 0, 919, .inl (msF gr wk z lk sz br ru ki ma bb ce hd))), (aNt, .inl (g.2.1 0, 60, .inl (nIf tb))), (aNa, .inl (g.2.1 0, 2475, .inl (nIf fcN))), (aNr, .inl (g.2.1 0, 495, .inl (nIf rowB))), (aNb, .inl (g.2.1 0, 4096, .inl (nIf popN)))]) dX9_factor_60 0 15 inX9 tyX9_ok nmX9 fl_X9_135 rfl rfl (by decide) rfl (rfl) rfl (xlt rfl) rfl ?_
            refine x_aload_n dX9_factor_63 rfl ?_
            refine x_dup dX9_factor_64 rfl ?_
            refine x_get dX9_factor_65 0 13 inX9 fl_X9_119 rfl rfl (by decide) rfl ?_
            refine x_aload_n dX9_factor_68 rfl ?_
            refine x_get dX9_factor_69 0 15 inX9 fl_X9_135 rfl rfl (by decide) rfl ?_
            refine x_if_eq dX9_factor_72 (fun c72 => ?_) (fun c72 => ?_)
            rotate_left
            · exact absurd c72 (by decide)
            refine x_iconst 1 dX9_factor_79 (by decide) ?_
            refine x_iadd dX9_factor_80 ?_
            refine x_rei (nI (nta + 1)) (nI_addc nta 1 rfl) ?_
            refine x_put (ws' := [(aN, .inr (9, [.ref aNs, .ref aNk, .int nkp, .ref aNf, .ref aNr, .ref aNp, .ref aNb, .ref aNa, .ref aNt, .int (nI nts), .ref aNbo, .ref aNsz, .ref aNnu, .int (nI (nta + 1)), .int 4, .int 0, .int ntp, .int (nI p), .int nnw, .int nsn, .int nwn, .ref aNl, .ref aNal, .ref aNlo, .int (nI nac), .ref aNw, .ref aNtr, .ref aNis, .ref aNbg, .ref aNow])), (aNs, .inl (g.2.1 0, 919, .inl (msF gr wk z lk sz br ru ki ma bb ce hd))), (aNt, .inl (g.2.1 0, 60, .inl (nIf tb))), (aNa, .inl (g.2.1 0, 2475, .inl (nIf fcN))), (aNr, .inl (g.2.1 0, 495, .inl (nIf rowB))), (aNb, .inl (g.2.1 0, 4096, .inl (nIf popN)))]) dX9_factor_81 0 13 inX9 tyX9_ok nmX9 fl_X9_119 rfl rfl (by decide) rfl (rfl) rfl (xlt rfl) rfl ?_
            refine x_iload_n dX9_factor_84 rfl ?_
            rw [← hQ]
            refine x_iret dX9_factor_85 rfl (Nat.le_of_ble_eq_true rfl) (Nat.le_of_ble_eq_true rfl) ?_
            first | (rw [frL, facR, if_neg (by first | exact dgW0 hlt c25 | exact dg_no hlt), if_neg (by omega), if_pos hni]; exact ⟨rfl, rfl⟩) | (rw [frL, facR, if_neg (by first | exact dgW0 hlt c25 | exact dg_no hlt), if_neg (by omega), if_neg (by first | exact hni | exact nmIx_no hlt)]; exact ⟨rfl, rfl⟩)
          · have c52 : ¬ (0 ≤ (nI (nmN wk L (rowB p) (nmIx (hB b n nta))))) := c52
            have c52n := mt (nI_leI (a := 0) (b := (nmN wk L (rowB p) (nmIx (hB b n nta)))) (by omega) (by omega)).mpr c52
            exact absurd c52n (by omega)
        · rw [if_neg hni]
          refine x_istore_n (lv' := [some (.ref aN), some (.int (nI (hB b n nta))), some (.int ((-1)))]) dX9_factor_49 (xlt rfl) rfl ?_
          refine x_aload_n dX9_factor_50 rfl ?_
          refine x_iload_n dX9_factor_51 rfl ?_
          refine x_if_ge dX9_factor_52 (fun c52 => ?_) (fun c52 => ?_)
          · exact absurd c52 (by decide)
          refine x_iconst 1 dX9_factor_55 (by decide) ?_
          refine x_goto dX9_factor_56 ?_
          refine x_put (ws' := [(aN, .inr (9, [.ref aNs, .ref aNk, .int nkp, .ref aNf, .ref aNr, .ref aNp, .ref aNb, .ref aNa, .ref aNt, .int (nI nts), .ref aNbo, .ref aNsz, .ref aNnu, .int (nI nta), .int 4, .int 1, .int ntp, .int (nI p), .int nnw, .int nsn, .int nwn, .ref aNl, .ref aNal, .ref aNlo, .int (nI nac), .ref aNw, .ref aNtr, .ref aNis, .ref aNbg, .ref aNow])), (aNs, .inl (g.2.1 0, 919, .inl (msF gr wk z lk sz br ru ki ma bb ce hd))), (aNt, .inl (g.2.1 0, 60, .inl (nIf tb))), (aNa, .inl (g.2.1 0, 2475, .inl (nIf fcN))), (aNr, .inl (g.2.1 0, 495, .inl (nIf rowB))), (aNb, .inl (g.2.1 0, 4096, .inl (nIf popN)))]) dX9_factor_60 0 15 inX9 tyX9_ok nmX9 fl_X9_135 rfl rfl (by decide) rfl (rfl) rfl (xlt rfl) rfl ?_
          refine x_aload_n dX9_factor_63 rfl ?_
          refine x_dup dX9_factor_64 rfl ?_
          refine x_get dX9_factor_65 0 13 inX9 fl_X9_119 rfl rfl (by decide) rfl ?_
          refine x_aload_n dX9_factor_68 rfl ?_
          refine x_get dX9_factor_69 0 15 inX9 fl_X9_135 rfl rfl (by decide) rfl ?_
          refine x_if_eq dX9_factor_72 (fun c72 => ?_) (fun c72 => ?_)
          · exact absurd c72 (by decide)
          refine x_iconst 0 dX9_factor_75 (by decide) ?_
          refine x_goto dX9_factor_76 ?_
          refine x_iadd dX9_factor_80 ?_
          refine x_rei (nI (nta + 0)) (nI_addc nta 0 rfl) ?_
          refine x_put (ws' := [(aN, .inr (9, [.ref aNs, .ref aNk, .int nkp, .ref aNf, .ref aNr, .ref aNp, .ref aNb, .ref aNa, .ref aNt, .int (nI nts), .ref aNbo, .ref aNsz, .ref aNnu, .int (nI (nta + 0)), .int 4, .int 1, .int ntp, .int (nI p), .int nnw, .int nsn, .int nwn, .ref aNl, .ref aNal, .ref aNlo, .int (nI nac), .ref aNw, .ref aNtr, .ref aNis, .ref aNbg, .ref aNow])), (aNs, .inl (g.2.1 0, 919, .inl (msF gr wk z lk sz br ru ki ma bb ce hd))), (aNt, .inl (g.2.1 0, 60, .inl (nIf tb))), (aNa, .inl (g.2.1 0, 2475, .inl (nIf fcN))), (aNr, .inl (g.2.1 0, 495, .inl (nIf rowB))), (aNb, .inl (g.2.1 0, 4096, .inl (nIf popN)))]) dX9_factor_81 0 13 inX9 tyX9_ok nmX9 fl_X9_119 rfl rfl (by decide) rfl (rfl) rfl (xlt rfl) rfl ?_
          refine x_iload_n dX9_factor_84 rfl ?_
          rw [← hQ]
          refine x_iret dX9_factor_85 rfl (Nat.le_of_ble_eq_true rfl) (Nat.le_of_ble_eq_true rfl) ?_
          first | (rw [frL, facR, if_neg (by first | exact dgW0 hlt c25 | exact dg_no hlt), if_neg (by omega), if_pos hni]; exact ⟨rfl, rfl⟩) | (rw [frL, facR, if_neg (by first | exact dgW0 hlt c25 | exact dg_no hlt), if_neg (by omega), if_neg (by first | exact hni | exact nmIx_no hlt)]; exact ⟨rfl, rfl⟩)
      · have c36 : (nI (hB b n nta)) = 40 := c36
        have c36n := (nI_eq (a := (hB b n nta)) (b := 40) (by omega) (by omega)).mp c36
        refine x_aload_n dX9_factor_39 rfl ?_
        refine x_cVi (ws' := [(aN, .inr (9, [.ref aNs, .ref aNk, .int nkp, .ref aNf, .ref aNr, .ref aNp, .ref aNb, .ref aNa, .ref aNt, .int (nI nts), .ref aNbo, .ref aNsz, .ref aNnu, .int (nI ((hrL (hB b n) (nmI wk L p) 0 nta).1)), .int 4, .int (bI (hrL (hB b n) (nmI wk L p) 0 nta).2.1), .int ntp, .int (nI p), .int nnw, .int nsn, .int nwn, .ref aNl, .ref aNal, .ref aNlo, .int (nI nac), .ref aNw, .ref aNtr, .ref aNis, .ref aNbg, .ref aNow])), (aNs, .inl (g.2.1 0, 919, .inl (msF gr wk z lk sz br ru ki ma bb ce hd))), (aNt, .inl (g.2.1 0, 60, .inl (nIf tb))), (aNa, .inl (g.2.1 0, 2475, .inl (nIf fcN))), (aNr, .inl (g.2.1 0, 495, .inl (nIf rowB))), (aNb, .inl (g.2.1 0, 4096, .inl (nIf popN)))]) dX9_factor_40 ml_X9_161 mX9_choice (ct_ch_0 κ.2.1 g aN aNs aNk aNf aNr aNp aNb aNa aNt aNbo aNsz aNnu aNl aNal aNlo aNw aNtr aNis aNbg aNow nts nta nac nkp ntp nnw nsn nwn gr wk lk sz br z ru ki ma bb hd ce tb b n L p (ht) (by omega) (hn) (hb) (hp) (hwk) (hlat) (c36n)) [0, 1, 2, 3, 4, 5] rfl rfl 0 rfl rfl rfl (Nat.le_of_ble_eq_true rfl) (by decide) (Nat.le_refl _) (Nat.le_refl _) (rfl : [aN, aNs, aNt, aNa, aNr, aNb] = [aN, aNs, aNt, aNa, aNr, aNb]) rfl ?_
        rw [← hQ]
        refine x_iret dX9_factor_43 rfl (Nat.le_of_ble_eq_true rfl) (Nat.le_of_ble_eq_true rfl) ?_
        first | (rw [frL, facR, if_neg (dgW0 hlt c25), if_pos c36n]; exact ⟨rfl, rfl⟩)
    · have c25 : ¬ ((wI (nI (hB b n nta)) 48 57) = 0) := c25
      refine x_aload_n dX9_factor_28 rfl ?_
      refine x_cVi (ws' := [(aN, .inr (9, [.ref aNs, .ref aNk, .int nkp, .ref aNf, .ref aNr, .ref aNp, .ref aNb, .ref aNa, .ref aNt, .int (nI nts), .ref aNbo, .ref aNsz, .ref aNnu, .int (nI ((numI (hB b n) nta).1)), .int 4, .int 0, .int ntp, .int (nI p), .int nnw, .int nsn, .int nwn, .ref aNl, .ref aNal, .ref aNlo, .int (nI nac), .ref aNw, .ref aNtr, .ref aNis, .ref aNbg, .ref aNow])), (aNs, .inl (g.2.1 0, 919, .inl (msF gr wk z lk sz br ru ki ma bb ce hd))), (aNt, .inl (g.2.1 0, 60, .inl (nIf tb))), (aNa, .inl (g.2.1 0, 2475, .inl (nIf fcN))), (aNr, .inl (g.2.1 0, 495, .inl (nIf rowB))), (aNb, .inl (g.2.1 0, 4096, .inl (nIf popN)))]) dX9_factor_29 ml_X9_158 mX9_number (ct_X9_number κ.2.1 g aN aNs aNk aNf aNr aNp aNb aNa aNt aNbo aNsz aNnu aNl aNal aNlo aNw aNtr aNis aNbg aNow nts nta 4 p nac nkp ntp nnw nsn nwn gr wk lk sz br z ru ki ma bb hd ce tb b n (ht) (by omega) (hn) (hb)) [0, 1, 2] rfl rfl 0 rfl rfl rfl (Nat.le_of_ble_eq_true rfl) (by decide) (Nat.le_refl _) (Nat.le_refl _) (rfl : [aN, aNs, aNt] = [aN, aNs, aNt]) rfl ?_
      rw [← hQ]
      refine x_iret dX9_factor_32 rfl (Nat.le_of_ble_eq_true rfl) (Nat.le_of_ble_eq_true rfl) ?_
      first | (rw [frL, facR, if_pos (dgW1 hlt c25)]; exact ⟨rfl, rfl⟩)
  · skip
    refine x_istore_n (lv' := [some (.ref aN), some (.int ((-1))), none]) dX9_factor_13 (xlt rfl) rfl ?_
    refine x_iload_n dX9_factor_14 rfl ?_
    refine x_i2l dX9_factor_15 ?_
    refine x_ldc2 dX9_factor_16 kl_X9_144 ?_
    refine x_ldc2 dX9_factor_19 kl_X9_146 ?_
    refine x_cSi dX9_factor_22 ml_X9_98 mX9_isIn (ct_X9_isIn κ.2.1 g ((-1).toInt64) 48 57) rfl (Nat.le_of_ble_eq_true rfl) (by decide) (Nat.le_refl _) (Nat.le_refl _) ?_
    refine x_rei (wI (-1) 48 57) (inL_w (-1) 48 57 (by first | rfl | decide) (by first | rfl | decide)) ?_
    refine x_rei (0) (by decide) ?_
    refine x_if_eq dX9_factor_25 (fun c25 => ?_) (fun c25 => ?_)
    rotate_left
    · exact absurd c25 (by decide)
    refine x_iload_n dX9_factor_33 rfl ?_
    refine x_bipush 40 dX9_factor_34 (by decide) ?_
    refine x_icmp_ne dX9_factor_36 (fun c36 => ?_) (fun c36 => ?_)
    rotate_left
    · exact absurd c36 (by decide)
    refine x_aload_n dX9_factor_44 rfl ?_
    refine x_iload_n dX9_factor_45 rfl ?_
    refine x_cVi0 dX9_factor_46 ml_X9_164 mX9_named (ct_named_e κ.2.1 g aN aNs aNk aNf aNr aNp aNb aNa aNt aNbo aNsz aNnu aNl aNal aNlo aNw aNtr aNis aNbg aNow nts nta 4 nac nkp 0 ntp nnw nsn nwn gr wk lk sz br z ru ki ma bb hd ce p) [0, 1, 3, 4, 5] rfl rfl 0 rfl rfl rfl (Nat.le_of_ble_eq_true rfl) (by decide) (Nat.le_refl _) (Nat.le_refl _) ?_
    skip
    refine x_istore_n (lv' := [some (.ref aN), some (.int ((-1))), some (.int ((-1)))]) dX9_factor_49 (xlt rfl) rfl ?_
    refine x_aload_n dX9_factor_50 rfl ?_
    refine x_iload_n dX9_factor_51 rfl ?_
    refine x_if_ge dX9_factor_52 (fun c52 => ?_) (fun c52 => ?_)
    · exact absurd c52 (by decide)
    refine x_iconst 1 dX9_factor_55 (by decide) ?_
    refine x_goto dX9_factor_56 ?_
    refine x_put (ws' := [(aN, .inr (9, [.ref aNs, .ref aNk, .int nkp, .ref aNf, .ref aNr, .ref aNp, .ref aNb, .ref aNa, .ref aNt, .int (nI nts), .ref aNbo, .ref aNsz, .ref aNnu, .int (nI nta), .int 4, .int 1, .int ntp, .int (nI p), .int nnw, .int nsn, .int nwn, .ref aNl, .ref aNal, .ref aNlo, .int (nI nac), .ref aNw, .ref aNtr, .ref aNis, .ref aNbg, .ref aNow])), (aNs, .inl (g.2.1 0, 919, .inl (msF gr wk z lk sz br ru ki ma bb ce hd))), (aNt, .inl (g.2.1 0, 60, .inl (nIf tb))), (aNa, .inl (g.2.1 0, 2475, .inl (nIf fcN))), (aNr, .inl (g.2.1 0, 495, .inl (nIf rowB))), (aNb, .inl (g.2.1 0, 4096, .inl (nIf popN)))]) dX9_factor_60 0 15 inX9 tyX9_ok nmX9 fl_X9_135 rfl rfl (by decide) rfl (rfl) rfl (xlt rfl) rfl ?_
    refine x_aload_n dX9_factor_63 rfl ?_
    refine x_dup dX9_factor_64 rfl ?_
    refine x_get dX9_factor_65 0 13 inX9 fl_X9_119 rfl rfl (by decide) rfl ?_
    refine x_aload_n dX9_factor_68 rfl ?_
    refine x_get dX9_factor_69 0 15 inX9 fl_X9_135 rfl rfl (by decide) rfl ?_
    refine x_if_eq dX9_factor_72 (fun c72 => ?_) (fun c72 => ?_)
    · exact absurd c72 (by decide)
    refine x_iconst 0 dX9_factor_75 (by decide) ?_
    refine x_goto dX9_factor_76 ?_
    refine x_iadd dX9_factor_80 ?_
    refine x_rei (nI (nta + 0)) (nI_addc nta 0 rfl) ?_
    refine x_put (ws' := [(aN, .inr (9, [.ref aNs, .ref aNk, .int nkp, .ref aNf, .ref aNr, .ref aNp, .ref aNb, .ref aNa, .ref aNt, .int (nI nts), .ref aNbo, .ref aNsz, .ref aNnu, .int (nI (nta + 0)), .int 4, .int 1, .int ntp, .int (nI p), .int nnw, .int nsn, .int nwn, .ref aNl, .ref aNal, .ref aNlo, .int (nI nac), .ref aNw, .ref aNtr, .ref aNis, .ref aNbg, .ref aNow])), (aNs, .inl (g.2.1 0, 919, .inl (msF gr wk z lk sz br ru ki ma bb ce hd))), (aNt, .inl (g.2.1 0, 60, .inl (nIf tb))), (aNa, .inl (g.2.1 0, 2475, .inl (nIf fcN))), (aNr, .inl (g.2.1 0, 495, .inl (nIf rowB))), (aNb, .inl (g.2.1 0, 4096, .inl (nIf popN)))]) dX9_factor_81 0 13 inX9 tyX9_ok nmX9 fl_X9_119 rfl rfl (by decide) rfl (rfl) rfl (xlt rfl) rfl ?_
    refine x_iload_n dX9_factor_84 rfl ?_
    rw [← hQ]
    refine x_iret dX9_factor_85 rfl (Nat.le_of_ble_eq_true rfl) (Nat.le_of_ble_eq_true rfl) ?_
    first | (rw [frL, facR, if_neg (by first | exact dgW0 hlt c25 | exact dg_no hlt), if_neg (by omega), if_pos hni]; exact ⟨rfl, rfl⟩) | (rw [frL, facR, if_neg (by first | exact dgW0 hlt c25 | exact dg_no hlt), if_neg (by omega), if_neg (by first | exact hni | exact nmIx_no hlt)]; exact ⟨rfl, rfl⟩)

-- == tr_0 ==
set_option maxRecDepth 100000 in
set_option maxHeartbeats 4000000 in
theorem ct_tr_0 (l : Launch) (g : XG) (aN aNs aNk aNf aNr aNp aNb aNa aNt aNbo aNsz aNnu aNl aNal aNlo aNw aNtr aNis aNbg aNow nts nta nac : Nat) (nkp ntp nnw nsn nwn : Int32) (gr wk lk sz br : Nat) (z : Int32) (ru ki ma bb hd : Nat → Nat) (ce : Nat → Int32) (tb b : Nat → Nat) (n L p : Nat) (ht : (ntp = 1 ∧ n = nts ∧ b = tb) ∨ (ntp = 0 ∧ n = sz ∧ b = bb)) (ha : nta ≤ n) (hn : n ≤ 60) (hb : ∀ j, b j < 256) (hp : p < 495) (hwk : wk ≤ 40) (hlat : latI ce wk = nI L) : Ct l g 7 0 0 yX9_term cX9_term 2 (some .int) [.ref aN] [(aN, .inr (9, [.ref aNs, .ref aNk, .int nkp, .ref aNf, .ref aNr, .ref aNp, .ref aNb, .ref aNa, .ref aNt, .int (nI nts), .ref aNbo, .ref aNsz, .ref aNnu, .int (nI nta), .int 4, .int 0, .int ntp, .int (nI p), .int nnw, .int nsn, .int nwn, .ref aNl, .ref aNal, .ref aNlo, .int (nI nac), .ref aNw, .ref aNtr, .ref aNis, .ref aNbg, .ref aNow])), (aNs, .inl (g.2.1 0, 919, .inl (msF gr wk z lk sz br ru ki ma bb ce hd))), (aNt, .inl (g.2.1 0, 60, .inl (nIf tb))), (aNa, .inl (g.2.1 0, 2475, .inl (nIf fcN))), (aNr, .inl (g.2.1 0, 495, .inl (nIf rowB))), (aNb, .inl (g.2.1 0, 4096, .inl (nIf popN)))] (xpi ((trL (hB b n) (nmI wk L p) 0 nta).2.2) [(aN, .inr (9, [.ref aNs, .ref aNk, .int nkp, .ref aNf, .ref aNr, .ref aNp, .ref aNb, .ref aNa, .ref aNt, .int (nI nts), .ref aNbo, .ref aNsz, .ref aNnu, .int (nI ((trL (hB b n) (nmI wk L p) 0 nta).1)), .int 4, .int (bI (trL (hB b n) (nmI wk L p) 0 nta).2.1), .int ntp, .int (nI p), .int nnw, .int nsn, .int nwn, .ref aNl, .ref aNal, .ref aNlo, .int (nI nac), .ref aNw, .ref aNtr, .ref aNis, .ref aNbg, .ref aNow])), (aNs, .inl (g.2.1 0, 919, .inl (msF gr wk z lk sz br ru ki ma bb ce hd))), (aNt, .inl (g.2.1 0, 60, .inl (nIf tb))), (aNa, .inl (g.2.1 0, 2475, .inl (nIf fcN))), (aNr, .inl (g.2.1 0, 495, .inl (nIf rowB))), (aNb, .inl (g.2.1 0, 4096, .inl (nIf popN)))]) := by
  refine Ct.ofX (lv := [some (.ref aN), none]) (by decide) rfl (Nat.le_of_ble_eq_true rfl) (fun κ => ?_)
  generalize hQ : xQ κ g 0 0 _ = Q
  refine x_aload_n dX9_term_0 rfl ?_
  refine x_cVi (ws' := [(aN, .inr (9, [.ref aNs, .ref aNk, .int nkp, .ref aNf, .ref aNr, .ref aNp, .ref aNb, .ref aNa, .ref aNt, .int (nI nts), .ref aNbo, .ref aNsz, .ref aNnu, .int (nI ((frL (hB b n) (nmI wk L p) 0 nta).1)), .int 4, .int (bI (frL (hB b n) (nmI wk L p) 0 nta).2.1), .int ntp, .int (nI p), .int nnw, .int nsn, .int nwn, .ref aNl, .ref aNal, .ref aNlo, .int (nI nac), .ref aNw, .ref aNtr, .ref aNis, .ref aNbg, .ref aNow])), (aNs, .inl (g.2.1 0, 919, .inl (msF gr wk z lk sz br ru ki ma bb ce hd))), (aNt, .inl (g.2.1 0, 60, .inl (nIf tb))), (aNa, .inl (g.2.1 0, 2475, .inl (nIf fcN))), (aNr, .inl (g.2.1 0, 495, .inl (nIf rowB))), (aNb, .inl (g.2.1 0, 4096, .inl (nIf popN)))]) dX9_term_1 ml_X9_167 mX9_factor (ct_fr_0 κ.2.1 g aN aNs aNk aNf aNr aNp aNb aNa aNt aNbo aNsz aNnu aNl aNal aNlo aNw aNtr aNis aNbg aNow nts nta nac nkp ntp nnw nsn nwn gr wk lk sz br z ru ki ma bb hd ce tb b n L p (ht) (by omega) (hn) (hb) (hp) (hwk) (hlat)) [0, 1, 2, 3, 4, 5] rfl rfl 0 rfl rfl rfl (Nat.le_of_ble_eq_true rfl) (by decide) (Nat.le_refl _) (Nat.le_refl _) (rfl : [aN, aNs, aNt, aNa, aNr, aNb] = [aN, aNs, aNt, aNa, aNr, aNb]) rfl ?_
  have hk0 := frL_ok (nv := nmI wk L p) (okH_hB b n) 0 nta ha
  refine x_istore_n (lv' := [some (.ref aN), some (.int ((frL (hB b n) (nmI wk L p) 0 nta).2.2))]) dX9_term_4 (xlt rfl) rfl ?_
  have L5_1 : ∀ (i : Nat), i ≤ 60 → ∀ (qa : Nat), ∀ (qb : Bool), ∀ (qv : Int32), (qa, qb, qv) = itr (tmS (hB b n) (frL (hB b n) (nmI wk L p) 0)) i (frL (hB b n) (nmI wk L p) 0 nta) → qa ≤ n → i ≤ qa → Xs κ g 7 0 0 cX9_term yX9_term (some .int) Q 0 0 5 [some (.ref aN), some (.int qv)] [] [(aN, .inr (9, [.ref aNs, .ref aNk, .int nkp, .ref aNf, .ref aNr, .ref aNp, .ref aNb, .ref aNa, .ref aNt, .int (nI nts), .ref aNbo, .ref aNsz, .ref aNnu, .int (nI qa), .int 4, .int (bI qb), .int ntp, .int (nI p), .int nnw, .int nsn, .int nwn, .ref aNl, .ref aNal, .ref aNlo, .int (nI nac), .ref aNw, .ref aNtr, .ref aNis, .ref aNbg, .ref aNow])), (aNs, .inl (g.2.1 0, 919, .inl (msF gr wk z lk sz br ru ki ma bb ce hd))), (aNt, .inl (g.2.1 0, 60, .inl (nIf tb))), (aNa, .inl (g.2.1 0, 2475, .inl (nIf fcN))), (aNr, .inl (g.2.1 0, 495, .inl (nIf rowB))), (aNb, .inl (g.2.1 0, 4096, .inl (nIf popN)))] := by
    refine upTo 60 (fun i hi5 ih5 => ?_)
    intro qa
    intro qb
    intro qv
    intro hqq hqa hqi
    refine x_aload_n dX9_term_5 rfl ?_
    rcases tk_cases qb (hB b n) qa 42 with ⟨rfl, hq2⟩ | ⟨rfl, hq2⟩ | rfl
    · skip
      refine x_eq (lv' := [some (.ref aN), some (.int qv)]) (st' := [.ref aN]) (ws' := [(aN, .inr (9, [.ref aNs, .ref aNk, .int nkp, .ref aNf, .ref aNr, .ref aNp, .ref aNb, .ref aNa, .ref aNt, .int (nI nts), .ref aNbo, .ref aNsz, .ref aNnu, .int (nI qa), .int 4, .int 0, .int ntp, .int (nI p), .int nnw, .int nsn, .int nwn, .ref aNl, .ref aNal, .ref aNlo, .int (nI nac), .ref aNw, .ref aNtr, .ref aNis, .ref aNbg, .ref aNow])), (aNs, .inl (g.2.1 0, 919, .inl (msF gr wk z lk sz br ru ki ma bb ce hd))), (aNt, .inl (g.2.1 0, 60, .inl (nIf tb))), (aNa, .inl (g.2.1 0, 2475, .inl (nIf fcN))), (aNr, .inl (g.2.1 0, 495, .inl (nIf rowB))), (aNb, .inl (g.2.1 0, 4096, .inl (nIf popN)))]) ?_ rfl rfl rfl
      refine x_bipush 42 dX9_term_6 (by decide) ?_
      refine x_cVi (ws' := [(aN, .inr (9, [.ref aNs, .ref aNk, .int nkp, .ref aNf, .ref aNr, .ref aNp, .ref aNb, .ref aNa, .ref aNt, .int (nI nts), .ref aNbo, .ref aNsz, .ref aNnu, .int (nI (qa + 1)), .int 4, .int 0, .int ntp, .int (nI p), .int nnw, .int nsn, .int nwn, .ref aNl, .ref aNal, .ref aNlo, .int (nI nac), .ref aNw, .ref aNtr, .ref aNis, .ref aNbg, .ref aNow])), (aNs, .inl (g.2.1 0, 919, .inl (msF gr wk z lk sz br ru ki ma bb ce hd))), (aNt, .inl (g.2.1 0, 60, .inl (nIf tb))), (aNa, .inl (g.2.1 0, 2475, .inl (nIf fcN))), (aNr, .inl (g.2.1 0, 495, .inl (nIf rowB))), (aNb, .inl (g.2.1 0, 4096, .inl (nIf popN)))]) dX9_term_8 ml_X9_141 mX9_takes (ct_takes_y κ.2.1 g aN aNs aNk aNf aNr aNp aNb aNa aNt aNbo aNsz aNnu aNl aNal aNlo aNw aNtr aNis aNbg aNow nts qa 4 p nac nkp ntp nnw nsn nwn gr wk lk sz br z ru ki ma bb hd ce tb b n 42 (ht) (by omega) (hn) (hb) (by decide) (hq2)) [0, 1, 2] rfl rfl 0 rfl rfl rfl (Nat.le_of_ble_eq_true rfl) (by decide) (Nat.le_refl _) (Nat.le_refl _) (rfl : [aN, aNs, aNt] = [aN, aNs, aNt]) rfl ?_
      refine x_if_eq dX9_term_11 (fun c11 => ?_) (fun c11 => ?_)
      · exact absurd c11 (by decide)
      refine x_iload_n dX9_term_14 rfl ?_
      have hav := adv_le (okH_hB b n) hq2 (by decide)
      refine x_aload_n dX9_term_15 rfl ?_
      refine x_cVi (ws' := [(aN, .inr (9, [.ref aNs, .ref aNk, .int nkp, .ref aNf, .ref aNr, .ref aNp, .ref aNb, .ref aNa, .ref aNt, .int (nI nts), .ref aNbo, .ref aNsz, .ref aNnu, .int (nI ((frL (hB b n) (nmI wk L p) 0 (qa + 1)).1)), .int 4, .int (bI (frL (hB b n) (nmI wk L p) 0 (qa + 1)).2.1), .int ntp, .int (nI p), .int nnw, .int nsn, .int nwn, .ref aNl, .ref aNal, .ref aNlo, .int (nI nac), .ref aNw, .ref aNtr, .ref aNis, .ref aNbg, .ref aNow])), (aNs, .inl (g.2.1 0, 919, .inl (msF gr wk z lk sz br ru ki ma bb ce hd))), (aNt, .inl (g.2.1 0, 60, .inl (nIf tb))), (aNa, .inl (g.2.1 0, 2475, .inl (nIf fcN))), (aNr, .inl (g.2.1 0, 495, .inl (nIf rowB))), (aNb, .inl (g.2.1 0, 4096, .inl (nIf popN)))]) dX9_term_16 ml_X9_167 mX9_factor (ct_fr_0 κ.2.1 g aN aNs aNk aNf aNr aNp aNb aNa aNt aNbo aNsz aNnu aNl aNal aNlo aNw aNtr aNis aNbg aNow nts (qa + 1) nac nkp ntp nnw nsn nwn gr wk lk sz br z ru ki ma bb hd ce tb b n L p (ht) (by omega) (hn) (hb) (hp) (hwk) (hlat)) [0, 1, 2, 3, 4, 5] rfl rfl 0 rfl rfl rfl (Nat.le_of_ble_eq_true rfl) (by decide) (Nat.le_refl _) (Nat.le_refl _) (rfl : [aN, aNs, aNt, aNa, aNr, aNb] = [aN, aNs, aNt, aNa, aNr, aNb]) rfl ?_
      have hk := frL_ok (nv := nmI wk L p) (okH_hB b n) 0 (qa + 1) hav
      refine x_imul dX9_term_19 ?_
      refine x_istore_n (lv' := [some (.ref aN), some (.int (qv * ((frL (hB b n) (nmI wk L p) 0 (qa + 1)).2.2)))]) dX9_term_20 (xlt rfl) rfl ?_
      refine x_goto dX9_term_21 ?_
      exact ih5 (by omega) ((frL (hB b n) (nmI wk L p) 0 (qa + 1)).1) ((frL (hB b n) (nmI wk L p) 0 (qa + 1)).2.1) _ (by rw [itr, ← hqq]; simp only [tmS, hq2]; rfl) (hk.2) (by have := hk.1; omega)
    · skip
      refine x_eq (lv' := [some (.ref aN), some (.int qv)]) (st' := [.ref aN]) (ws' := [(aN, .inr (9, [.ref aNs, .ref aNk, .int nkp, .ref aNf, .ref aNr, .ref aNp, .ref aNb, .ref aNa, .ref aNt, .int (nI nts), .ref aNbo, .ref aNsz, .ref aNnu, .int (nI qa), .int 4, .int 0, .int ntp, .int (nI p), .int nnw, .int nsn, .int nwn, .ref aNl, .ref aNal, .ref aNlo, .int (nI nac), .ref aNw, .ref aNtr, .ref aNis, .ref aNbg, .ref aNow])), (aNs, .inl (g.2.1 0, 919, .inl (msF gr wk z lk sz br ru ki ma bb ce hd))), (aNt, .inl (g.2.1 0, 60, .inl (nIf tb))), (aNa, .inl (g.2.1 0, 2475, .inl (nIf fcN))), (aNr, .inl (g.2.1 0, 495, .inl (nIf rowB))), (aNb, .inl (g.2.1 0, 4096, .inl (nIf popN)))]) ?_ rfl rfl rfl
      refine x_bipush 42 dX9_term_6 (by decide) ?_
      refine x_cVi0 dX9_term_8 ml_X9_141 mX9_takes (ct_takes_n κ.2.1 g aN aNs aNk aNf aNr aNp aNb aNa aNt aNbo aNsz aNnu aNl aNal aNlo aNw aNtr aNis aNbg aNow nts qa 4 p nac nkp ntp nnw nsn nwn gr wk lk sz br z ru ki ma bb hd ce tb b n 42 (ht) (by omega) (hn) (hb) (by decide) (hq2)) [0, 1, 2] rfl rfl 0 rfl rfl rfl (Nat.le_of_ble_eq_true rfl) (by decide) (Nat.le_refl _) (Nat.le_refl _) ?_
      refine x_if_eq dX9_term_11 (fun c11 => ?_) (fun c11 => ?_)
      rotate_left
      · exact absurd c11 (by decide)
      refine x_iload_n dX9_term_24 rfl ?_
      rw [← hQ]
      refine x_iret dX9_term_25 rfl (Nat.le_of_ble_eq_true rfl) (Nat.le_of_ble_eq_true rfl) ?_
      first | (rw [show trL (hB b n) (nmI wk L p) 0 nta = (qa, true, qv) from itr_fix hqq rfl hi5]; exact ⟨rfl, rfl⟩) | (rw [show trL (hB b n) (nmI wk L p) 0 nta = (qa, false, qv) from itr_fix hqq (by simp [tmS, hq2]) hi5]; exact ⟨rfl, rfl⟩)
    · skip
      refine x_eq (lv' := [some (.ref aN), some (.int qv)]) (st' := [.ref aN]) (ws' := [(aN, .inr (9, [.ref aNs, .ref aNk, .int nkp, .ref aNf, .ref aNr, .ref aNp, .ref aNb, .ref aNa, .ref aNt, .int (nI nts), .ref aNbo, .ref aNsz, .ref aNnu, .int (nI qa), .int 4, .int 1, .int ntp, .int (nI p), .int nnw, .int nsn, .int nwn, .ref aNl, .ref aNal, .ref aNlo, .int (nI nac), .ref aNw, .ref aNtr, .ref aNis, .ref aNbg, .ref aNow])), (aNs, .inl (g.2.1 0, 919, .inl (msF gr wk z lk sz br ru ki ma bb ce hd))), (aNt, .inl (g.2.1 0, 60, .inl (nIf tb))), (aNa, .inl (g.2.1 0, 2475, .inl (nIf fcN))), (aNr, .inl (g.2.1 0, 495, .inl (nIf rowB))), (aNb, .inl (g.2.1 0, 4096, .inl (nIf popN)))]) ?_ rfl rfl rfl
      refine x_bipush 42 dX9_term_6 (by decide) ?_
      refine x_cVi0 dX9_term_8 ml_X9_141 mX9_takes (ct_takes_b κ.2.1 g aN aNs aNk aNf aNr aNp aNb aNa aNt aNbo aNsz aNnu aNl aNal aNlo aNw aNtr aNis aNbg aNow nts qa 4 p nac nkp ntp nnw nsn nwn gr wk lk sz br z ru ki ma bb hd ce tb 42) [0, 1, 2] rfl rfl 0 rfl rfl rfl (Nat.le_of_ble_eq_true rfl) (by decide) (Nat.le_refl _) (Nat.le_refl _) ?_
      refine x_if_eq dX9_term_11 (fun c11 => ?_) (fun c11 => ?_)
      rotate_left
      · exact absurd c11 (by decide)
      refine x_iload_n dX9_term_24 rfl ?_
      rw [← hQ]
      refine x_iret dX9_term_25 rfl (Nat.le_of_ble_eq_true rfl) (Nat.le_of_ble_eq_true rfl) ?_
      first | (rw [show trL (hB b n) (nmI wk L p) 0 nta = (qa, true, qv) from itr_fix hqq rfl hi5]; exact ⟨rfl, rfl⟩) | (rw [show trL (hB b n) (nmI wk L p) 0 nta = (qa, false, qv) from itr_fix hqq (by simp [tmS, hq2]) hi5]; exact ⟨rfl, rfl⟩)
  exact L5_1 0 (Nat.zero_le _) ((frL (hB b n) (nmI wk L p) 0 nta).1) ((frL (hB b n) (nmI wk L p) 0 nta).2.1) _ (rfl) (hk0.2) (Nat.zero_le _)

-- == sr_0 ==
set_option maxRecDepth 100000 in
set_option maxHeartbeats 4000000 in
theorem ct_sr_0 (l : Launch) (g : XG) (aN aNs aNk aNf aNr aNp aNb aNa aNt aNbo aNsz aNnu aNl aNal aNlo aNw aNtr aNis aNbg aNow nts nta nac : Nat) (nkp ntp nnw nsn nwn : Int32) (gr wk lk sz br : Nat) (z : Int32) (ru ki ma bb hd : Nat → Nat) (ce : Nat → Int32) (tb b : Nat → Nat) (n L p : Nat) (ht : (ntp = 1 ∧ n = nts ∧ b = tb) ∨ (ntp = 0 ∧ n = sz ∧ b = bb)) (ha : nta ≤ n) (hn : n ≤ 60) (hb : ∀ j, b j < 256) (hp : p < 495) (hwk : wk ≤ 40) (hlat : latI ce wk = nI L) : Ct l g 8 0 0 yX9_sum cX9_sum 5 (some .int) [.ref aN] [(aN, .inr (9, [.ref aNs, .ref aNk, .int nkp, .ref aNf, .ref aNr, .ref aNp, .ref aNb, .ref aNa, .ref aNt, .int (nI nts), .ref aNbo, .ref aNsz, .ref aNnu, .int (nI nta), .int 4, .int 0, .int ntp, .int (nI p), .int nnw, .int nsn, .int nwn, .ref aNl, .ref aNal, .ref aNlo, .int (nI nac), .ref aNw, .ref aNtr, .ref aNis, .ref aNbg, .ref aNow])), (aNs, .inl (g.2.1 0, 919, .inl (msF gr wk z lk sz br ru ki ma bb ce hd))), (aNt, .inl (g.2.1 0, 60, .inl (nIf tb))), (aNa, .inl (g.2.1 0, 2475, .inl (nIf fcN))), (aNr, .inl (g.2.1 0, 495, .inl (nIf rowB))), (aNb, .inl (g.2.1 0, 4096, .inl (nIf popN)))] (xpi ((srL (hB b n) (nmI wk L p) 0 nta).2.2) [(aN, .inr (9, [.ref aNs, .ref aNk, .int nkp, .ref aNf, .ref aNr, .ref aNp, .ref aNb, .ref aNa, .ref aNt, .int (nI nts), .ref aNbo, .ref aNsz, .ref aNnu, .int (nI ((srL (hB b n) (nmI wk L p) 0 nta).1)), .int 4, .int (bI (srL (hB b n) (nmI wk L p) 0 nta).2.1), .int ntp, .int (nI p), .int nnw, .int nsn, .int nwn, .ref aNl, .ref aNal, .ref aNlo, .int (nI nac), .ref aNw, .ref aNtr, .ref aNis, .ref aNbg, .ref aNow])), (aNs, .inl (g.2.1 0, 919, .inl (msF gr wk z lk sz br ru ki ma bb ce hd))), (aNt, .inl (g.2.1 0, 60, .inl (nIf tb))), (aNa, .inl (g.2.1 0, 2475, .inl (nIf fcN))), (aNr, .inl (g.2.1 0, 495, .inl (nIf rowB))), (aNb, .inl (g.2.1 0, 4096, .inl (nIf popN)))]) := by
  refine Ct.ofX (lv := [some (.ref aN), none, none, none, none]) (by decide) rfl (Nat.le_of_ble_eq_true rfl) (fun κ => ?_)
  generalize hQ : xQ κ g 0 0 _ = Q
  refine x_aload_n dX9_sum_0 rfl ?_
  refine x_cVi (ws' := [(aN, .inr (9, [.ref aNs, .ref aNk, .int nkp, .ref aNf, .ref aNr, .ref aNp, .ref aNb, .ref aNa, .ref aNt, .int (nI nts), .ref aNbo, .ref aNsz, .ref aNnu, .int (nI ((trL (hB b n) (nmI wk L p) 0 nta).1)), .int 4, .int (bI (trL (hB b n) (nmI wk L p) 0 nta).2.1), .int ntp, .int (nI p), .int nnw, .int nsn, .int nwn, .ref aNl, .ref aNal, .ref aNlo, .int (nI nac), .ref aNw, .ref aNtr, .ref aNis, .ref aNbg, .ref aNow])), (aNs, .inl (g.2.1 0, 919, .inl (msF gr wk z lk sz br ru ki ma bb ce hd))), (aNt, .inl (g.2.1 0, 60, .inl (nIf tb))), (aNa, .inl (g.2.1 0, 2475, .inl (nIf fcN))), (aNr, .inl (g.2.1 0, 495, .inl (nIf rowB))), (aNb, .inl (g.2.1 0, 4096, .inl (nIf popN)))]) dX9_sum_1 ml_X9_170 mX9_term (ct_tr_0 κ.2.1 g aN aNs aNk aNf aNr aNp aNb aNa aNt aNbo aNsz aNnu aNl aNal aNlo aNw aNtr aNis aNbg aNow nts nta nac nkp ntp nnw nsn nwn gr wk lk sz br z ru ki ma bb hd ce tb b n L p (ht) (by omega) (hn) (hb) (hp) (hwk) (hlat)) [0, 1, 2, 3, 4, 5] rfl rfl 0 rfl rfl rfl (Nat.le_of_ble_eq_true rfl) (by decide) (Nat.le_refl _) (Nat.le_refl _) (rfl : [aN, aNs, aNt, aNa, aNr, aNb] = [aN, aNs, aNt, aNa, aNr, aNb]) rfl ?_
  have hk0 := trL_ok (nv := nmI wk L p) (okH_hB b n) 0 nta ha
  refine x_istore_n (lv' := [some (.ref aN), some (.int ((trL (hB b n) (nmI wk L p) 0 nta).2.2)), none, none, none]) dX9_sum_4 (xlt rfl) rfl ?_
  refine x_iconst 1 dX9_sum_5 (by decide) ?_
  refine x_istore_n (lv' := [some (.ref aN), some (.int ((trL (hB b n) (nmI wk L p) 0 nta).2.2)), some (.int 1), none, none]) dX9_sum_6 (xlt rfl) rfl ?_
  have L7_1 : ∀ (i : Nat), i ≤ 60 → ∀ (qa : Nat), ∀ (qb : Bool), ∀ (qv : Int32), (qa, qb, qv) = itr (snS (hB b n) (trL (hB b n) (nmI wk L p) 0)) i (trL (hB b n) (nmI wk L p) 0 nta) → qa ≤ n → i ≤ qa → Xs κ g 8 0 0 cX9_sum yX9_sum (some .int) Q 0 0 7 [some (.ref aN), some (.int qv), some (.int 1), none, none] [] [(aN, .inr (9, [.ref aNs, .ref aNk, .int nkp, .ref aNf, .ref aNr, .ref aNp, .ref aNb, .ref aNa, .ref aNt, .int (nI nts), .ref aNbo, .ref aNsz, .ref aNnu, .int (nI qa), .int 4, .int (bI qb), .int ntp, .int (nI p), .int nnw, .int nsn, .int nwn, .ref aNl, .ref aNal, .ref aNlo, .int (nI nac), .ref aNw, .ref aNtr, .ref aNis, .ref aNbg, .ref aNow])), (aNs, .inl (g.2.1 0, 919, .inl (msF gr wk z lk sz br ru ki ma bb ce hd))), (aNt, .inl (g.2.1 0, 60, .inl (nIf tb))), (aNa, .inl (g.2.1 0, 2475, .inl (nIf fcN))), (aNr, .inl (g.2.1 0, 495, .inl (nIf rowB))), (aNb, .inl (g.2.1 0, 4096, .inl (nIf popN)))] := by
    refine upTo 60 (fun i hi7 ih7 => ?_)
    intro qa
    intro qb
    intro qv
    intro hqq hqa hqi
    refine x_iload_n dX9_sum_7 rfl ?_
    refine x_if_eq dX9_sum_8 (fun c8 => ?_) (fun c8 => ?_)
    · exact absurd c8 (by decide)
    rcases sm_cases qb (hB b n) qa with ⟨rfl, hq2⟩ | ⟨rfl, hq2, hq3⟩ | ⟨rfl, hq2, hq3⟩ | rfl
    · skip
      refine x_eq (lv' := [some (.ref aN), some (.int qv), some (.int 1), none, none]) (st' := []) (ws' := [(aN, .inr (9, [.ref aNs, .ref aNk, .int nkp, .ref aNf, .ref aNr, .ref aNp, .ref aNb, .ref aNa, .ref aNt, .int (nI nts), .ref aNbo, .ref aNsz, .ref aNnu, .int (nI qa), .int 4, .int 0, .int ntp, .int (nI p), .int nnw, .int nsn, .int nwn, .ref aNl, .ref aNal, .ref aNlo, .int (nI nac), .ref aNw, .ref aNtr, .ref aNis, .ref aNbg, .ref aNow])), (aNs, .inl (g.2.1 0, 919, .inl (msF gr wk z lk sz br ru ki ma bb ce hd))), (aNt, .inl (g.2.1 0, 60, .inl (nIf tb))), (aNa, .inl (g.2.1 0, 2475, .inl (nIf fcN))), (aNr, .inl (g.2.1 0, 495, .inl (nIf rowB))), (aNb, .inl (g.2.1 0, 4096, .inl (nIf popN)))]) ?_ rfl rfl rfl
      refine x_aload_n dX9_sum_11 rfl ?_
      refine x_bipush 43 dX9_sum_12 (by decide) ?_
      refine x_cVi (ws' := [(aN, .inr (9, [.ref aNs, .ref aNk, .int nkp, .ref aNf, .ref aNr, .ref aNp, .ref aNb, .ref aNa, .ref aNt, .int (nI nts), .ref aNbo, .ref aNsz, .ref aNnu, .int (nI (qa + 1)), .int 4, .int 0, .int ntp, .int (nI p), .int nnw, .int nsn, .int nwn, .ref aNl, .ref aNal, .ref aNlo, .int (nI nac), .ref aNw, .ref aNtr, .ref aNis, .ref aNbg, .ref aNow])), (aNs, .inl (g.2.1 0, 919, .inl (msF gr wk z lk sz br ru ki ma bb ce hd))), (aNt, .inl (g.2.1 0, 60, .inl (nIf tb))), (aNa, .inl (g.2.1 0, 2475, .inl (nIf fcN))), (aNr, .inl (g.2.1 0, 495, .inl (nIf rowB))), (aNb, .inl (g.2.1 0, 4096, .inl (nIf popN)))]) dX9_sum_14 ml_X9_141 mX9_takes (ct_takes_y κ.2.1 g aN aNs aNk aNf aNr aNp aNb aNa aNt aNbo aNsz aNnu aNl aNal aNlo aNw aNtr aNis aNbg aNow nts qa 4 p nac nkp ntp nnw nsn nwn gr wk lk sz br z ru ki ma bb hd ce tb b n 43 (ht) (by omega) (hn) (hb) (by decide) (hq2)) [0, 1, 2] rfl rfl 0 rfl rfl rfl (Nat.le_of_ble_eq_true rfl) (by decide) (Nat.le_refl _) (Nat.le_refl _) (rfl : [aN, aNs, aNt] = [aN, aNs, aNt]) rfl ?_
      refine x_istore_n (lv' := [some (.ref aN), some (.int qv), some (.int 1), some (.int 1), none]) dX9_sum_17 (xlt rfl) rfl ?_
      refine x_iload_n dX9_sum_18 rfl ?_
      refine x_if_ne dX9_sum_19 (fun c19 => ?_) (fun c19 => ?_)
      rotate_left
      · exact absurd c19 (by decide)
      refine x_iconst 1 dX9_sum_31 (by decide) ?_
      refine x_goto dX9_sum_32 ?_
      refine x_istore_n (lv' := [some (.ref aN), some (.int qv), some (.int 1), some (.int 1), none]) dX9_sum_36 (xlt rfl) rfl ?_
      refine x_iload_n dX9_sum_37 rfl ?_
      refine x_if_eq dX9_sum_38 (fun c38 => ?_) (fun c38 => ?_)
      · exact absurd c38 (by decide)
      have hav : qa + 1 ≤ n := by first | exact adv_le (okH_hB b n) hq2 (by decide) | exact adv_le (okH_hB b n) hq3 (by decide)
      refine x_aload_n dX9_sum_41 rfl ?_
      refine x_cVi (ws' := [(aN, .inr (9, [.ref aNs, .ref aNk, .int nkp, .ref aNf, .ref aNr, .ref aNp, .ref aNb, .ref aNa, .ref aNt, .int (nI nts), .ref aNbo, .ref aNsz, .ref aNnu, .int (nI ((trL (hB b n) (nmI wk L p) 0 (qa + 1)).1)), .int 4, .int (bI (trL (hB b n) (nmI wk L p) 0 (qa + 1)).2.1), .int ntp, .int (nI p), .int nnw, .int nsn, .int nwn, .ref aNl, .ref aNal, .ref aNlo, .int (nI nac), .ref aNw, .ref aNtr, .ref aNis, .ref aNbg, .ref aNow])), (aNs, .inl (g.2.1 0, 919, .inl (msF gr wk z lk sz br ru ki ma bb ce hd))), (aNt, .inl (g.2.1 0, 60, .inl (nIf tb))), (aNa, .inl (g.2.1 0, 2475, .inl (nIf fcN))), (aNr, .inl (g.2.1 0, 495, .inl (nIf rowB))), (aNb, .inl (g.2.1 0, 4096, .inl (nIf popN)))]) dX9_sum_42 ml_X9_170 mX9_term (ct_tr_0 κ.2.1 g aN aNs aNk aNf aNr aNp aNb aNa aNt aNbo aNsz aNnu aNl aNal aNlo aNw aNtr aNis aNbg aNow nts (qa + 1) nac nkp ntp nnw nsn nwn gr wk lk sz br z ru ki ma bb hd ce tb b n L p (ht) (by omega) (hn) (hb) (hp) (hwk) (hlat)) [0, 1, 2, 3, 4, 5] rfl rfl 0 rfl rfl rfl (Nat.le_of_ble_eq_true rfl) (by decide) (Nat.le_refl _) (Nat.le_refl _) (rfl : [aN, aNs, aNt, aNa, aNr, aNb] = [aN, aNs, aNt, aNa, aNr, aNb]) rfl ?_
      have hk := trL_ok (nv := nmI wk L p) (okH_hB b n) 0 (qa + 1) hav
      refine x_istore (lv' := [some (.ref aN), some (.int qv), some (.int 1), some (.int 1), some (.int ((trL (hB b n) (nmI wk L p) 0 (qa + 1)).2.2))]) dX9_sum_45 (xlt rfl) rfl ?_
      refine x_iload_n dX9_sum_47 rfl ?_
      refine x_if_eq dX9_sum_48 (fun c48 => ?_) (fun c48 => ?_)
      · exact absurd c48 (by decide)
      refine x_iload_n dX9_sum_51 rfl ?_
      refine x_iload dX9_sum_52 rfl ?_
      refine x_iadd dX9_sum_54 ?_
      refine x_goto dX9_sum_55 ?_
      refine x_istore_n (lv' := [some (.ref aN), some (.int (qv + ((trL (hB b n) (nmI wk L p) 0 (qa + 1)).2.2))), some (.int 1), some (.int 1), some (.int ((trL (hB b n) (nmI wk L p) 0 (qa + 1)).2.2))]) dX9_sum_62 (xlt rfl) rfl ?_
      refine x_goto dX9_sum_63 ?_
      refine x_fgt (lv' := [some (.ref aN), some (.int (qv + ((trL (hB b n) (nmI wk L p) 0 (qa + 1)).2.2))), some (.int 1), none, none]) ⟨Or.inr rfl, Or.inr rfl, Or.inr rfl, Or.inl rfl, Or.inl rfl, trivial⟩ ?_
      exact ih7 (by omega) ((trL (hB b n) (nmI wk L p) 0 (qa + 1)).1) ((trL (hB b n) (nmI wk L p) 0 (qa + 1)).2.1) _ (by rw [itr, ← hqq]; simp only [snS, hq2]; rfl) (hk.2) (by have := hk.1; omega)
    · skip
      refine x_eq (lv' := [some (.ref aN), some (.int qv), some (.int 1), none, none]) (st' := []) (ws' := [(aN, .inr (9, [.ref aNs, .ref aNk, .int nkp, .ref aNf, .ref aNr, .ref aNp, .ref aNb, .ref aNa, .ref aNt, .int (nI nts), .ref aNbo, .ref aNsz, .ref aNnu, .int (nI qa), .int 4, .int 0, .int ntp, .int (nI p), .int nnw, .int nsn, .int nwn, .ref aNl, .ref aNal, .ref aNlo, .int (nI nac), .ref aNw, .ref aNtr, .ref aNis, .ref aNbg, .ref aNow])), (aNs, .inl (g.2.1 0, 919, .inl (msF gr wk z lk sz br ru ki ma bb ce hd))), (aNt, .inl (g.2.1 0, 60, .inl (nIf tb))), (aNa, .inl (g.2.1 0, 2475, .inl (nIf fcN))), (aNr, .inl (g.2.1 0, 495, .inl (nIf rowB))), (aNb, .inl (g.2.1 0, 4096, .inl (nIf popN)))]) ?_ rfl rfl rfl
      refine x_aload_n dX9_sum_11 rfl ?_
      refine x_bipush 43 dX9_sum_12 (by decide) ?_
      refine x_cVi0 dX9_sum_14 ml_X9_141 mX9_takes (ct_takes_n κ.2.1 g aN aNs aNk aNf aNr aNp aNb aNa aNt aNbo aNsz aNnu aNl aNal aNlo aNw aNtr aNis aNbg aNow nts qa 4 p nac nkp ntp nnw nsn nwn gr wk lk sz br z ru ki ma bb hd ce tb b n 43 (ht) (by omega) (hn) (hb) (by decide) (hq2)) [0, 1, 2] rfl rfl 0 rfl rfl rfl (Nat.le_of_ble_eq_true rfl) (by decide) (Nat.le_refl _) (Nat.le_refl _) ?_
      refine x_istore_n (lv' := [some (.ref aN), some (.int qv), some (.int 1), some (.int 0), none]) dX9_sum_17 (xlt rfl) rfl ?_
      refine x_iload_n dX9_sum_18 rfl ?_
      refine x_if_ne dX9_sum_19 (fun c19 => ?_) (fun c19 => ?_)
      · exact absurd c19 (by decide)
      refine x_aload_n dX9_sum_22 rfl ?_
      refine x_bipush 45 dX9_sum_23 (by decide) ?_
      refine x_cVi (ws' := [(aN, .inr (9, [.ref aNs, .ref aNk, .int nkp, .ref aNf, .ref aNr, .ref aNp, .ref aNb, .ref aNa, .ref aNt, .int (nI nts), .ref aNbo, .ref aNsz, .ref aNnu, .int (nI (qa + 1)), .int 4, .int 0, .int ntp, .int (nI p), .int nnw, .int nsn, .int nwn, .ref aNl, .ref aNal, .ref aNlo, .int (nI nac), .ref aNw, .ref aNtr, .ref aNis, .ref aNbg, .ref aNow])), (aNs, .inl (g.2.1 0, 919, .inl (msF gr wk z lk sz br ru ki ma bb ce hd))), (aNt, .inl (g.2.1 0, 60, .inl (nIf tb))), (aNa, .inl (g.2.1 0, 2475, .inl (nIf fcN))), (aNr, .inl (g.2.1 0, 495, .inl (nIf rowB))), (aNb, .inl (g.2.1 0, 4096, .inl (nIf popN)))]) dX9_sum_25 ml_X9_141 mX9_takes (ct_takes_y κ.2.1 g aN aNs aNk aNf aNr aNp aNb aNa aNt aNbo aNsz aNnu aNl aNal aNlo aNw aNtr aNis aNbg aNow nts qa 4 p nac nkp ntp nnw nsn nwn gr wk lk sz br z ru ki ma bb hd ce tb b n 45 (ht) (by omega) (hn) (hb) (by decide) (hq3)) [0, 1, 2] rfl rfl 0 rfl rfl rfl (Nat.le_of_ble_eq_true rfl) (by decide) (Nat.le_refl _) (Nat.le_refl _) (rfl : [aN, aNs, aNt] = [aN, aNs, aNt]) rfl ?_
      refine x_if_eq dX9_sum_28 (fun c28 => ?_) (fun c28 => ?_)
      · exact absurd c28 (by decide)
      refine x_iconst 1 dX9_sum_31 (by decide) ?_
      refine x_goto dX9_sum_32 ?_
      refine x_istore_n (lv' := [some (.ref aN), some (.int qv), some (.int 1), some (.int 0), none]) dX9_sum_36 (xlt rfl) rfl ?_
      refine x_iload_n dX9_sum_37 rfl ?_
      refine x_if_eq dX9_sum_38 (fun c38 => ?_) (fun c38 => ?_)
      · exact absurd c38 (by decide)
      have hav : qa + 1 ≤ n := by first | exact adv_le (okH_hB b n) hq2 (by decide) | exact adv_le (okH_hB b n) hq3 (by decide)
      refine x_aload_n dX9_sum_41 rfl ?_
      refine x_cVi (ws' := [(aN, .inr (9, [.ref aNs, .ref aNk, .int nkp, .ref aNf, .ref aNr, .ref aNp, .ref aNb, .ref aNa, .ref aNt, .int (nI nts), .ref aNbo, .ref aNsz, .ref aNnu, .int (nI ((trL (hB b n) (nmI wk L p) 0 (qa + 1)).1)), .int 4, .int (bI (trL (hB b n) (nmI wk L p) 0 (qa + 1)).2.1), .int ntp, .int (nI p), .int nnw, .int nsn, .int nwn, .ref aNl, .ref aNal, .ref aNlo, .int (nI nac), .ref aNw, .ref aNtr, .ref aNis, .ref aNbg, .ref aNow])), (aNs, .inl (g.2.1 0, 919, .inl (msF gr wk z lk sz br ru ki ma bb ce hd))), (aNt, .inl (g.2.1 0, 60, .inl (nIf tb))), (aNa, .inl (g.2.1 0, 2475, .inl (nIf fcN))), (aNr, .inl (g.2.1 0, 495, .inl (nIf rowB))), (aNb, .inl (g.2.1 0, 4096, .inl (nIf popN)))]) dX9_sum_42 ml_X9_170 mX9_term (ct_tr_0 κ.2.1 g aN aNs aNk aNf aNr aNp aNb aNa aNt aNbo aNsz aNnu aNl aNal aNlo aNw aNtr aNis aNbg aNow nts (qa + 1) nac nkp ntp nnw nsn nwn gr wk lk sz br z ru ki ma bb hd ce tb b n L p (ht) (by omega) (hn) (hb) (hp) (hwk) (hlat)) [0, 1, 2, 3, 4, 5] rfl rfl 0 rfl rfl rfl (Nat.le_of_ble_eq_true rfl) (by decide) (Nat.le_refl _) (Nat.le_refl _) (rfl : [aN, aNs, aNt, aNa, aNr, aNb] = [aN, aNs, aNt, aNa, aNr, aNb]) rfl ?_
      have hk := trL_ok (nv := nmI wk L p) (okH_hB b n) 0 (qa + 1) hav
      refine x_istore (lv' := [some (.ref aN), some (.int qv), some (.int 1), some (.int 0), some (.int ((trL (hB b n) (nmI wk L p) 0 (qa + 1)).2.2))]) dX9_sum_45 (xlt rfl) rfl ?_
      refine x_iload_n dX9_sum_47 rfl ?_
      refine x_if_eq dX9_sum_48 (fun c48 => ?_) (fun c48 => ?_)
      rotate_left
      · exact absurd c48 (by decide)
      refine x_iload_n dX9_sum_58 rfl ?_
      refine x_iload dX9_sum_59 rfl ?_
      refine x_isub dX9_sum_61 ?_
      refine x_istore_n (lv' := [some (.ref aN), some (.int (qv - ((trL (hB b n) (nmI wk L p) 0 (qa + 1)).2.2))), some (.int 1), some (.int 0), some (.int ((trL (hB b n) (nmI wk L p) 0 (qa + 1)).2.2))]) dX9_sum_62 (xlt rfl) rfl ?_
      refine x_goto dX9_sum_63 ?_
      refine x_fgt (lv' := [some (.ref aN), some (.int (qv - ((trL (hB b n) (nmI wk L p) 0 (qa + 1)).2.2))), some (.int 1), none, none]) ⟨Or.inr rfl, Or.inr rfl, Or.inr rfl, Or.inl rfl, Or.inl rfl, trivial⟩ ?_
      exact ih7 (by omega) ((trL (hB b n) (nmI wk L p) 0 (qa + 1)).1) ((trL (hB b n) (nmI wk L p) 0 (qa + 1)).2.1) _ (by rw [itr, ← hqq]; simp only [snS, hq2, hq3]; rfl) (hk.2) (by have := hk.1; omega)
    · skip
      refine x_eq (lv' := [some (.ref aN), some (.int qv), some (.int 1), none, none]) (st' := []) (ws' := [(aN, .inr (9, [.ref aNs, .ref aNk, .int nkp, .ref aNf, .ref aNr, .ref aNp, .ref aNb, .ref aNa, .ref aNt, .int (nI nts), .ref aNbo, .ref aNsz, .ref aNnu, .int (nI qa), .int 4, .int 0, .int ntp, .int (nI p), .int nnw, .int nsn, .int nwn, .ref aNl, .ref aNal, .ref aNlo, .int (nI nac), .ref aNw, .ref aNtr, .ref aNis, .ref aNbg, .ref aNow])), (aNs, .inl (g.2.1 0, 919, .inl (msF gr wk z lk sz br ru ki ma bb ce hd))), (aNt, .inl (g.2.1 0, 60, .inl (nIf tb))), (aNa, .inl (g.2.1 0, 2475, .inl (nIf fcN))), (aNr, .inl (g.2.1 0, 495, .inl (nIf rowB))), (aNb, .inl (g.2.1 0, 4096, .inl (nIf popN)))]) ?_ rfl rfl rfl
      refine x_aload_n dX9_sum_11 rfl ?_
      refine x_bipush 43 dX9_sum_12 (by decide) ?_
      refine x_cVi0 dX9_sum_14 ml_X9_141 mX9_takes (ct_takes_n κ.2.1 g aN aNs aNk aNf aNr aNp aNb aNa aNt aNbo aNsz aNnu aNl aNal aNlo aNw aNtr aNis aNbg aNow nts qa 4 p nac nkp ntp nnw nsn nwn gr wk lk sz br z ru ki ma bb hd ce tb b n 43 (ht) (by omega) (hn) (hb) (by decide) (hq2)) [0, 1, 2] rfl rfl 0 rfl rfl rfl (Nat.le_of_ble_eq_true rfl) (by decide) (Nat.le_refl _) (Nat.le_refl _) ?_
      refine x_istore_n (lv' := [some (.ref aN), some (.int qv), some (.int 1), some (.int 0), none]) dX9_sum_17 (xlt rfl) rfl ?_
      refine x_iload_n dX9_sum_18 rfl ?_
      refine x_if_ne dX9_sum_19 (fun c19 => ?_) (fun c19 => ?_)
      · exact absurd c19 (by decide)
      refine x_aload_n dX9_sum_22 rfl ?_
      refine x_bipush 45 dX9_sum_23 (by decide) ?_
      refine x_cVi0 dX9_sum_25 ml_X9_141 mX9_takes (ct_takes_n κ.2.1 g aN aNs aNk aNf aNr aNp aNb aNa aNt aNbo aNsz aNnu aNl aNal aNlo aNw aNtr aNis aNbg aNow nts qa 4 p nac nkp ntp nnw nsn nwn gr wk lk sz br z ru ki ma bb hd ce tb b n 45 (ht) (by omega) (hn) (hb) (by decide) (hq3)) [0, 1, 2] rfl rfl 0 rfl rfl rfl (Nat.le_of_ble_eq_true rfl) (by decide) (Nat.le_refl _) (Nat.le_refl _) ?_
      refine x_if_eq dX9_sum_28 (fun c28 => ?_) (fun c28 => ?_)
      rotate_left
      · exact absurd c28 (by decide)
      refine x_iconst 0 dX9_sum_35 (by decide) ?_
      refine x_istore_n (lv' := [some (.ref aN), some (.int qv), some (.int 0), some (.int 0), none]) dX9_sum_36 (xlt rfl) rfl ?_
      refine x_iload_n dX9_sum_37 rfl ?_
      refine x_if_eq dX9_sum_38 (fun c38 => ?_) (fun c38 => ?_)
      rotate_left
      · exact absurd c38 (by decide)
      refine x_goto dX9_sum_63 ?_
      refine x_iload_n dX9_sum_7 rfl ?_
      refine x_if_eq dX9_sum_8 (fun c8 => ?_) (fun c8 => ?_)
      rotate_left
      · exact absurd c8 (by decide)
      refine x_iload_n dX9_sum_66 rfl ?_
      rw [← hQ]
      refine x_iret dX9_sum_67 rfl (Nat.le_of_ble_eq_true rfl) (Nat.le_of_ble_eq_true rfl) ?_
      first | (rw [show srL (hB b n) (nmI wk L p) 0 nta = (qa, true, qv) from Eq.trans (congrFun (srL_eq (hB b n) (nmI wk L p) 0) nta) (itr_fix hqq rfl hi7)]; exact ⟨rfl, rfl⟩) | (rw [show srL (hB b n) (nmI wk L p) 0 nta = (qa, false, qv) from Eq.trans (congrFun (srL_eq (hB b n) (nmI wk L p) 0) nta) (itr_fix hqq (by simp [snS, hq2, hq3]) hi7)]; exact ⟨rfl, rfl⟩)
    · skip
      refine x_eq (lv' := [some (.ref aN), some (.int qv), some (.int 1), none, none]) (st' := []) (ws' := [(aN, .inr (9, [.ref aNs, .ref aNk, .int nkp, .ref aNf, .ref aNr, .ref aNp, .ref aNb, .ref aNa, .ref aNt, .int (nI nts), .ref aNbo, .ref aNsz, .ref aNnu, .int (nI qa), .int 4, .int 1, .int ntp, .int (nI p), .int nnw, .int nsn, .int nwn, .ref aNl, .ref aNal, .ref aNlo, .int (nI nac), .ref aNw, .ref aNtr, .ref aNis, .ref aNbg, .ref aNow])), (aNs, .inl (g.2.1 0, 919, .inl (msF gr wk z lk sz br ru ki ma bb ce hd))), (aNt, .inl (g.2.1 0, 60, .inl (nIf tb))), (aNa, .inl (g.2.1 0, 2475, .inl (nIf fcN))), (aNr, .inl (g.2.1 0, 495, .inl (nIf rowB))), (aNb, .inl (g.2.1 0, 4096, .inl (nIf popN)))]) ?_ rfl rfl rfl
      refine x_aload_n dX9_sum_11 rfl ?_
      refine x_bipush 43 dX9_sum_12 (by decide) ?_
      refine x_cVi0 dX9_sum_14 ml_X9_141 mX9_takes (ct_takes_b κ.2.1 g aN aNs aNk aNf aNr aNp aNb aNa aNt aNbo aNsz aNnu aNl aNal aNlo aNw aNtr aNis aNbg aNow nts qa 4 p nac nkp ntp nnw nsn nwn gr wk lk sz br z ru ki ma bb hd ce tb 43) [0, 1, 2] rfl rfl 0 rfl rfl rfl (Nat.le_of_ble_eq_true rfl) (by decide) (Nat.le_refl _) (Nat.le_refl _) ?_
      refine x_istore_n (lv' := [some (.ref aN), some (.int qv), some (.int 1), some (.int 0), none]) dX9_sum_17 (xlt rfl) rfl ?_
      refine x_iload_n dX9_sum_18 rfl ?_
      refine x_if_ne dX9_sum_19 (fun c19 => ?_) (fun c19 => ?_)
      · exact absurd c19 (by decide)
      refine x_aload_n dX9_sum_22 rfl ?_
      refine x_bipush 45 dX9_sum_23 (by decide) ?_
      refine x_cVi0 dX9_sum_25 ml_X9_141 mX9_takes (ct_takes_b κ.2.1 g aN aNs aNk aNf aNr aNp aNb aNa aNt aNbo aNsz aNnu aNl aNal aNlo aNw aNtr aNis aNbg aNow nts qa 4 p nac nkp ntp nnw nsn nwn gr wk lk sz br z ru ki ma bb hd ce tb 45) [0, 1, 2] rfl rfl 0 rfl rfl rfl (Nat.le_of_ble_eq_true rfl) (by decide) (Nat.le_refl _) (Nat.le_refl _) ?_
      refine x_if_eq dX9_sum_28 (fun c28 => ?_) (fun c28 => ?_)
      rotate_left
      · exact absurd c28 (by decide)
      refine x_iconst 0 dX9_sum_35 (by decide) ?_
      refine x_istore_n (lv' := [some (.ref aN), some (.int qv), some (.int 0), some (.int 0), none]) dX9_sum_36 (xlt rfl) rfl ?_
      refine x_iload_n dX9_sum_37 rfl ?_
      refine x_if_eq dX9_sum_38 (fun c38 => ?_) (fun c38 => ?_)
      rotate_left
      · exact absurd c38 (by decide)
      refine x_goto dX9_sum_63 ?_
      refine x_iload_n dX9_sum_7 rfl ?_
      refine x_if_eq dX9_sum_8 (fun c8 => ?_) (fun c8 => ?_)
      rotate_left
      · exact absurd c8 (by decide)
      refine x_iload_n dX9_sum_66 rfl ?_
      rw [← hQ]
      refine x_iret dX9_sum_67 rfl (Nat.le_of_ble_eq_true rfl) (Nat.le_of_ble_eq_true rfl) ?_
      first | (rw [show srL (hB b n) (nmI wk L p) 0 nta = (qa, true, qv) from Eq.trans (congrFun (srL_eq (hB b n) (nmI wk L p) 0) nta) (itr_fix hqq rfl hi7)]; exact ⟨rfl, rfl⟩) | (rw [show srL (hB b n) (nmI wk L p) 0 nta = (qa, false, qv) from Eq.trans (congrFun (srL_eq (hB b n) (nmI wk L p) 0) nta) (itr_fix hqq (by simp [snS, hq2, hq3]) hi7)]; exact ⟨rfl, rfl⟩)
  exact L7_1 0 (Nat.zero_le _) ((trL (hB b n) (nmI wk L p) 0 nta).1) ((trL (hB b n) (nmI wk L p) 0 nta).2.1) _ (rfl) (hk0.2) (Nat.zero_le _)

-- == ch_1 ==
set_option maxRecDepth 100000 in
set_option maxHeartbeats 4000000 in
theorem ct_ch_1 (l : Launch) (g : XG) (aN aNs aNk aNf aNr aNp aNb aNa aNt aNbo aNsz aNnu aNl aNal aNlo aNw aNtr aNis aNbg aNow nts nta nac : Nat) (nkp ntp nnw nsn nwn : Int32) (gr wk lk sz br : Nat) (z : Int32) (ru ki ma bb hd : Nat → Nat) (ce : Nat → Int32) (tb b : Nat → Nat) (n L p : Nat) (ht : (ntp = 1 ∧ n = nts ∧ b = tb) ∨ (ntp = 0 ∧ n = sz ∧ b = bb)) (ha : nta ≤ n) (hn : n ≤ 60) (hb : ∀ j, b j < 256) (hp : p < 495) (hwk : wk ≤ 40) (hlat : latI ce wk = nI L) (hq : hB b n nta = 40) : Ct l g 9 0 0 yX9_choice cX9_choice 4 (some .int) [.ref aN] [(aN, .inr (9, [.ref aNs, .ref aNk, .int nkp, .ref aNf, .ref aNr, .ref aNp, .ref aNb, .ref aNa, .ref aNt, .int (nI nts), .ref aNbo, .ref aNsz, .ref aNnu, .int (nI nta), .int 3, .int 0, .int ntp, .int (nI p), .int nnw, .int nsn, .int nwn, .ref aNl, .ref aNal, .ref aNlo, .int (nI nac), .ref aNw, .ref aNtr, .ref aNis, .ref aNbg, .ref aNow])), (aNs, .inl (g.2.1 0, 919, .inl (msF gr wk z lk sz br ru ki ma bb ce hd))), (aNt, .inl (g.2.1 0, 60, .inl (nIf tb))), (aNa, .inl (g.2.1 0, 2475, .inl (nIf fcN))), (aNr, .inl (g.2.1 0, 495, .inl (nIf rowB))), (aNb, .inl (g.2.1 0, 4096, .inl (nIf popN)))] (xpi ((hrL (hB b n) (nmI wk L p) 1 nta).2.2) [(aN, .inr (9, [.ref aNs, .ref aNk, .int nkp, .ref aNf, .ref aNr, .ref aNp, .ref aNb, .ref aNa, .ref aNt, .int (nI nts), .ref aNbo, .ref aNsz, .ref aNnu, .int (nI ((hrL (hB b n) (nmI wk L p) 1 nta).1)), .int 3, .int (bI (hrL (hB b n) (nmI wk L p) 1 nta).2.1), .int ntp, .int (nI p), .int nnw, .int nsn, .int nwn, .ref aNl, .ref aNal, .ref aNlo, .int (nI nac), .ref aNw, .ref aNtr, .ref aNis, .ref aNbg, .ref aNow])), (aNs, .inl (g.2.1 0, 919, .inl (msF gr wk z lk sz br ru ki ma bb ce hd))), (aNt, .inl (g.2.1 0, 60, .inl (nIf tb))), (aNa, .inl (g.2.1 0, 2475, .inl (nIf fcN))), (aNr, .inl (g.2.1 0, 495, .inl (nIf rowB))), (aNb, .inl (g.2.1 0, 4096, .inl (nIf popN)))]) := by
  refine Ct.ofX (lv := [some (.ref aN), none, none, none]) (by decide) rfl (Nat.le_of_ble_eq_true rfl) (fun κ => ?_)
  generalize hQ : xQ κ g 0 0 _ = Q
  refine x_aload_n dX9_choice_0 rfl ?_
  refine x_get dX9_choice_1 0 14 inX9 fl_X9_148 rfl rfl (by decide) rfl ?_
  refine x_iconst 4 dX9_choice_4 (by decide) ?_
  refine x_icmp_ne dX9_choice_5 (fun c5 => ?_) (fun c5 => ?_)
  rotate_left
  · exact absurd c5 (by decide)
  refine x_aload_n dX9_choice_15 rfl ?_
  refine x_dup dX9_choice_16 rfl ?_
  have hav := adv_le (okH_hB b n) hq (by decide)
  refine x_get dX9_choice_17 0 14 inX9 fl_X9_148 rfl rfl (by decide) rfl ?_
  refine x_iconst 1 dX9_choice_20 (by decide) ?_
  refine x_iadd dX9_choice_21 ?_
  refine x_rei 4 (by decide) ?_
  refine x_put (ws' := [(aN, .inr (9, [.ref aNs, .ref aNk, .int nkp, .ref aNf, .ref aNr, .ref aNp, .ref aNb, .ref aNa, .ref aNt, .int (nI nts), .ref aNbo, .ref aNsz, .ref aNnu, .int (nI nta), .int 4, .int 0, .int ntp, .int (nI p), .int nnw, .int nsn, .int nwn, .ref aNl, .ref aNal, .ref aNlo, .int (nI nac), .ref aNw, .ref aNtr, .ref aNis, .ref aNbg, .ref aNow])), (aNs, .inl (g.2.1 0, 919, .inl (msF gr wk z lk sz br ru ki ma bb ce hd))), (aNt, .inl (g.2.1 0, 60, .inl (nIf tb))), (aNa, .inl (g.2.1 0, 2475, .inl (nIf fcN))), (aNr, .inl (g.2.1 0, 495, .inl (nIf rowB))), (aNb, .inl (g.2.1 0, 4096, .inl (nIf popN)))]) dX9_choice_22 0 14 inX9 tyX9_ok nmX9 fl_X9_148 rfl rfl (by decide) rfl (rfl) rfl (xlt rfl) rfl ?_
  refine x_aload_n dX9_choice_25 rfl ?_
  refine x_dup dX9_choice_26 rfl ?_
  refine x_get dX9_choice_27 0 13 inX9 fl_X9_119 rfl rfl (by decide) rfl ?_
  refine x_iconst 1 dX9_choice_30 (by decide) ?_
  refine x_iadd dX9_choice_31 ?_
  refine x_rei (nI (nta + 1)) (nI_addc nta 1 rfl) ?_
  refine x_put (ws' := [(aN, .inr (9, [.ref aNs, .ref aNk, .int nkp, .ref aNf, .ref aNr, .ref aNp, .ref aNb, .ref aNa, .ref aNt, .int (nI nts), .ref aNbo, .ref aNsz, .ref aNnu, .int (nI (nta + 1)), .int 4, .int 0, .int ntp, .int (nI p), .int nnw, .int nsn, .int nwn, .ref aNl, .ref aNal, .ref aNlo, .int (nI nac), .ref aNw, .ref aNtr, .ref aNis, .ref aNbg, .ref aNow])), (aNs, .inl (g.2.1 0, 919, .inl (msF gr wk z lk sz br ru ki ma bb ce hd))), (aNt, .inl (g.2.1 0, 60, .inl (nIf tb))), (aNa, .inl (g.2.1 0, 2475, .inl (nIf fcN))), (aNr, .inl (g.2.1 0, 495, .inl (nIf rowB))), (aNb, .inl (g.2.1 0, 4096, .inl (nIf popN)))]) dX9_choice_32 0 13 inX9 tyX9_ok nmX9 fl_X9_119 rfl rfl (by decide) rfl (rfl) rfl (xlt rfl) rfl ?_
  refine x_aload_n dX9_choice_35 rfl ?_
  refine x_cVi (ws' := [(aN, .inr (9, [.ref aNs, .ref aNk, .int nkp, .ref aNf, .ref aNr, .ref aNp, .ref aNb, .ref aNa, .ref aNt, .int (nI nts), .ref aNbo, .ref aNsz, .ref aNnu, .int (nI ((srL (hB b n) (nmI wk L p) 0 (nta + 1)).1)), .int 4, .int (bI (srL (hB b n) (nmI wk L p) 0 (nta + 1)).2.1), .int ntp, .int (nI p), .int nnw, .int nsn, .int nwn, .ref aNl, .ref aNal, .ref aNlo, .int (nI nac), .ref aNw, .ref aNtr, .ref aNis, .ref aNbg, .ref aNow])), (aNs, .inl (g.2.1 0, 919, .inl (msF gr wk z lk sz br ru ki ma bb ce hd))), (aNt, .inl (g.2.1 0, 60, .inl (nIf tb))), (aNa, .inl (g.2.1 0, 2475, .inl (nIf fcN))), (aNr, .inl (g.2.1 0, 495, .inl (nIf rowB))), (aNb, .inl (g.2.1 0, 4096, .inl (nIf popN)))]) dX9_choice_36 ml_X9_151 mX9_sum (ct_sr_0 κ.2.1 g aN aNs aNk aNf aNr aNp aNb aNa aNt aNbo aNsz aNnu aNl aNal aNlo aNw aNtr aNis aNbg aNow nts (nta + 1) nac nkp ntp nnw nsn nwn gr wk lk sz br z ru ki ma bb hd ce tb b n L p (ht) (by omega) (hn) (hb) (hp) (hwk) (hlat)) [0, 1, 2, 3, 4, 5] rfl rfl 0 rfl rfl rfl (Nat.le_of_ble_eq_true rfl) (by decide) (Nat.le_refl _) (Nat.le_refl _) (rfl : [aN, aNs, aNt, aNa, aNr, aNb] = [aN, aNs, aNt, aNa, aNr, aNb]) rfl ?_
  have hk1 := srL_ok (nv := nmI wk L p) (okH_hB b n) 0 (nta + 1) hav
  generalize hR1 : srL (hB b n) (nmI wk L p) 0 (nta + 1) = R1 at hk1 ⊢
  obtain ⟨a1, b1, w1⟩ := R1
  dsimp only at hk1
  rcases tk_cases b1 (hB b n) a1 63 with ⟨rfl, hq2⟩ | ⟨rfl, hq2⟩ | rfl
  · skip
    refine x_eq (lv' := [some (.ref aN), none, none, none]) (st' := [.int w1]) (ws' := [(aN, .inr (9, [.ref aNs, .ref aNk, .int nkp, .ref aNf, .ref aNr, .ref aNp, .ref aNb, .ref aNa, .ref aNt, .int (nI nts), .ref aNbo, .ref aNsz, .ref aNnu, .int (nI a1), .int 4, .int 0, .int ntp, .int (nI p), .int nnw, .int nsn, .int nwn, .ref aNl, .ref aNal, .ref aNlo, .int (nI nac), .ref aNw, .ref aNtr, .ref aNis, .ref aNbg, .ref aNow])), (aNs, .inl (g.2.1 0, 919, .inl (msF gr wk z lk sz br ru ki ma bb ce hd))), (aNt, .inl (g.2.1 0, 60, .inl (nIf tb))), (aNa, .inl (g.2.1 0, 2475, .inl (nIf fcN))), (aNr, .inl (g.2.1 0, 495, .inl (nIf rowB))), (aNb, .inl (g.2.1 0, 4096, .inl (nIf popN)))]) ?_ rfl rfl rfl
    refine x_istore_n (lv' := [some (.ref aN), some (.int w1), none, none]) dX9_choice_39 (xlt rfl) rfl ?_
    refine x_aload_n dX9_choice_40 rfl ?_
    refine x_bipush 63 dX9_choice_41 (by decide) ?_
    refine x_cVi (ws' := [(aN, .inr (9, [.ref aNs, .ref aNk, .int nkp, .ref aNf, .ref aNr, .ref aNp, .ref aNb, .ref aNa, .ref aNt, .int (nI nts), .ref aNbo, .ref aNsz, .ref aNnu, .int (nI (a1 + 1)), .int 4, .int 0, .int ntp, .int (nI p), .int nnw, .int nsn, .int nwn, .ref aNl, .ref aNal, .ref aNlo, .int (nI nac), .ref aNw, .ref aNtr, .ref aNis, .ref aNbg, .ref aNow])), (aNs, .inl (g.2.1 0, 919, .inl (msF gr wk z lk sz br ru ki ma bb ce hd))), (aNt, .inl (g.2.1 0, 60, .inl (nIf tb))), (aNa, .inl (g.2.1 0, 2475, .inl (nIf fcN))), (aNr, .inl (g.2.1 0, 495, .inl (nIf rowB))), (aNb, .inl (g.2.1 0, 4096, .inl (nIf popN)))]) dX9_choice_43 ml_X9_141 mX9_takes (ct_takes_y κ.2.1 g aN aNs aNk aNf aNr aNp aNb aNa aNt aNbo aNsz aNnu aNl aNal aNlo aNw aNtr aNis aNbg aNow nts a1 4 p nac nkp ntp nnw nsn nwn gr wk lk sz br z ru ki ma bb hd ce tb b n 63 (ht) (by omega) (hn) (hb) (by decide) (hq2)) [0, 1, 2] rfl rfl 0 rfl rfl rfl (Nat.le_of_ble_eq_true rfl) (by decide) (Nat.le_refl _) (Nat.le_refl _) (rfl : [aN, aNs, aNt] = [aN, aNs, aNt]) rfl ?_
    refine x_if_eq dX9_choice_46 (fun c46 => ?_) (fun c46 => ?_)
    · exact absurd c46 (by decide)
    have hav2 := adv_le (okH_hB b n) hq2 (by decide)
    refine x_aload_n dX9_choice_49 rfl ?_
    refine x_cVi (ws' := [(aN, .inr (9, [.ref aNs, .ref aNk, .int nkp, .ref aNf, .ref aNr, .ref aNp, .ref aNb, .ref aNa, .ref aNt, .int (nI nts), .ref aNbo, .ref aNsz, .ref aNnu, .int (nI ((srL (hB b n) (nmI wk L p) 0 (a1 + 1)).1)), .int 4, .int (bI (srL (hB b n) (nmI wk L p) 0 (a1 + 1)).2.1), .int ntp, .int (nI p), .int nnw, .int nsn, .int nwn, .ref aNl, .ref aNal, .ref aNlo, .int (nI nac), .ref aNw, .ref aNtr, .ref aNis, .ref aNbg, .ref aNow])), (aNs, .inl (g.2.1 0, 919, .inl (msF gr wk z lk sz br ru ki ma bb ce hd))), (aNt, .inl (g.2.1 0, 60, .inl (nIf tb))), (aNa, .inl (g.2.1 0, 2475, .inl (nIf fcN))), (aNr, .inl (g.2.1 0, 495, .inl (nIf rowB))), (aNb, .inl (g.2.1 0, 4096, .inl (nIf popN)))]) dX9_choice_50 ml_X9_151 mX9_sum (ct_sr_0 κ.2.1 g aN aNs aNk aNf aNr aNp aNb aNa aNt aNbo aNsz aNnu aNl aNal aNlo aNw aNtr aNis aNbg aNow nts (a1 + 1) nac nkp ntp nnw nsn nwn gr wk lk sz br z ru ki ma bb hd ce tb b n L p (ht) (by omega) (hn) (hb) (hp) (hwk) (hlat)) [0, 1, 2, 3, 4, 5] rfl rfl 0 rfl rfl rfl (Nat.le_of_ble_eq_true rfl) (by decide) (Nat.le_refl _) (Nat.le_refl _) (rfl : [aN, aNs, aNt, aNa, aNr, aNb] = [aN, aNs, aNt, aNa, aNr, aNb]) rfl ?_
    have hk2 := srL_ok (nv := nmI wk L p) (okH_hB b n) 0 (a1 + 1) hav2
    refine x_istore_n (lv' := [some (.ref aN), some (.int w1), some (.int ((srL (hB b n) (nmI wk L p) 0 (a1 + 1)).2.2)), none]) dX9_choice_53 (xlt rfl) rfl ?_
    refine x_aload_n dX9_choice_54 rfl ?_
    refine x_bipush 58 dX9_choice_55 (by decide) ?_
    refine x_cVv (ws' := [(aN, .inr (9, [.ref aNs, .ref aNk, .int nkp, .ref aNf, .ref aNr, .ref aNp, .ref aNb, .ref aNa, .ref aNt, .int (nI nts), .ref aNbo, .ref aNsz, .ref aNnu, .int (nI ((pasA (hB b n) 58 ((srL (hB b n) (nmI wk L p) 0 (a1 + 1)).2.1) ((srL (hB b n) (nmI wk L p) 0 (a1 + 1)).1)).1)), .int 4, .int (bI (pasA (hB b n) 58 ((srL (hB b n) (nmI wk L p) 0 (a1 + 1)).2.1) ((srL (hB b n) (nmI wk L p) 0 (a1 + 1)).1)).2), .int ntp, .int (nI p), .int nnw, .int nsn, .int nwn, .ref aNl, .ref aNal, .ref aNlo, .int (nI nac), .ref aNw, .ref aNtr, .ref aNis, .ref aNbg, .ref aNow])), (aNs, .inl (g.2.1 0, 919, .inl (msF gr wk z lk sz br ru ki ma bb ce hd))), (aNt, .inl (g.2.1 0, 60, .inl (nIf tb))), (aNa, .inl (g.2.1 0, 2475, .inl (nIf fcN))), (aNr, .inl (g.2.1 0, 495, .inl (nIf rowB))), (aNb, .inl (g.2.1 0, 4096, .inl (nIf popN)))]) dX9_choice_57 ml_X9_154 mX9_must (ct_X9_must κ.2.1 g aN aNs aNk aNf aNr aNp aNb aNa aNt aNbo aNsz aNnu aNl aNal aNlo aNw aNtr aNis aNbg aNow nts ((srL (hB b n) (nmI wk L p) 0 (a1 + 1)).1) 4 p nac nkp ntp nnw nsn nwn gr wk lk sz br z ru ki ma bb hd ce tb b n 58 ((srL (hB b n) (nmI wk L p) 0 (a1 + 1)).2.1) (ht) (by omega) (hn) (hb) (by decide)) [0, 1, 2] rfl rfl 0 rfl rfl rfl (Nat.le_of_ble_eq_true rfl) (by decide) (Nat.le_refl _) (Nat.le_refl _) (rfl : [aN, aNs, aNt] = [aN, aNs, aNt]) rfl ?_
    have hk3 := pasA_le (okH_hB b n) (c := 58) (by decide) (bd := (srL (hB b n) (nmI wk L p) 0 (a1 + 1)).2.1) hk2.2
    generalize hR3 : pasA (hB b n) 58 ((srL (hB b n) (nmI wk L p) 0 (a1 + 1)).2.1) ((srL (hB b n) (nmI wk L p) 0 (a1 + 1)).1) = R3 at hk3 ⊢
    obtain ⟨a3, b3⟩ := R3
    dsimp only at hk3
    cases b3
    · skip
      refine x_eq (lv' := [some (.ref aN), some (.int w1), some (.int ((srL (hB b n) (nmI wk L p) 0 (a1 + 1)).2.2)), none]) (st' := []) (ws' := [(aN, .inr (9, [.ref aNs, .ref aNk, .int nkp, .ref aNf, .ref aNr, .ref aNp, .ref aNb, .ref aNa, .ref aNt, .int (nI nts), .ref aNbo, .ref aNsz, .ref aNnu, .int (nI a3), .int 4, .int 0, .int ntp, .int (nI p), .int nnw, .int nsn, .int nwn, .ref aNl, .ref aNal, .ref aNlo, .int (nI nac), .ref aNw, .ref aNtr, .ref aNis, .ref aNbg, .ref aNow])), (aNs, .inl (g.2.1 0, 919, .inl (msF gr wk z lk sz br ru ki ma bb ce hd))), (aNt, .inl (g.2.1 0, 60, .inl (nIf tb))), (aNa, .inl (g.2.1 0, 2475, .inl (nIf fcN))), (aNr, .inl (g.2.1 0, 495, .inl (nIf rowB))), (aNb, .inl (g.2.1 0, 4096, .inl (nIf popN)))]) ?_ rfl rfl rfl
      refine x_aload_n dX9_choice_60 rfl ?_
      refine x_cVi (ws' := [(aN, .inr (9, [.ref aNs, .ref aNk, .int nkp, .ref aNf, .ref aNr, .ref aNp, .ref aNb, .ref aNa, .ref aNt, .int (nI nts), .ref aNbo, .ref aNsz, .ref aNnu, .int (nI ((srL (hB b n) (nmI wk L p) 0 a3).1)), .int 4, .int (bI (srL (hB b n) (nmI wk L p) 0 a3).2.1), .int ntp, .int (nI p), .int nnw, .int nsn, .int nwn, .ref aNl, .ref aNal, .ref aNlo, .int (nI nac), .ref aNw, .ref aNtr, .ref aNis, .ref aNbg, .ref aNow])), (aNs, .inl (g.2.1 0, 919, .inl (msF gr wk z lk sz br ru ki ma bb ce hd))), (aNt, .inl (g.2.1 0, 60, .inl (nIf tb))), (aNa, .inl (g.2.1 0, 2475, .inl (nIf fcN))), (aNr, .inl (g.2.1 0, 495, .inl (nIf rowB))), (aNb, .inl (g.2.1 0, 4096, .inl (nIf popN)))]) dX9_choice_61 ml_X9_151 mX9_sum (ct_sr_0 κ.2.1 g aN aNs aNk aNf aNr aNp aNb aNa aNt aNbo aNsz aNnu aNl aNal aNlo aNw aNtr aNis aNbg aNow nts a3 nac nkp ntp nnw nsn nwn gr wk lk sz br z ru ki ma bb hd ce tb b n L p (ht) (by omega) (hn) (hb) (hp) (hwk) (hlat)) [0, 1, 2, 3, 4, 5] rfl rfl 0 rfl rfl rfl (Nat.le_of_ble_eq_true rfl) (by decide) (Nat.le_refl _) (Nat.le_refl _) (rfl : [aN, aNs, aNt, aNa, aNr, aNb] = [aN, aNs, aNt, aNa, aNr, aNb]) rfl ?_
      have hk4 := srL_ok (nv := nmI wk L p) (okH_hB b n) 0 a3 hk3
      refine x_istore_n (lv' := [some (.ref aN), some (.int w1), some (.int ((srL (hB b n) (nmI wk L p) 0 (a1 + 1)).2.2)), some (.int ((srL (hB b n) (nmI wk L p) 0 a3).2.2))]) dX9_choice_64 (xlt rfl) rfl ?_
      refine x_iload_n dX9_choice_65 rfl ?_
      have J66_2 : ∀ (v1 : Int32), v1 = (if w1 ≤ 0 then (srL (hB b n) (nmI wk L p) 0 a3).2.2 else (srL (hB b n) (nmI wk L p) 0 (a1 + 1)).2.2) → Xs κ g 9 0 0 cX9_choice yX9_choice (some .int) Q 0 0 74 [some (.ref aN), some (.int w1), some (.int ((srL (hB b n) (nmI wk L p) 0 (a1 + 1)).2.2)), some (.int ((srL (hB b n) (nmI wk L p) 0 a3).2.2))] [.int v1] [(aN, .inr (9, [.ref aNs, .ref aNk, .int nkp, .ref aNf, .ref aNr, .ref aNp, .ref aNb, .ref aNa, .ref aNt, .int (nI nts), .ref aNbo, .ref aNsz, .ref aNnu, .int (nI ((srL (hB b n) (nmI wk L p) 0 a3).1)), .int 4, .int (bI (srL (hB b n) (nmI wk L p) 0 a3).2.1), .int ntp, .int (nI p), .int nnw, .int nsn, .int nwn, .ref aNl, .ref aNal, .ref aNlo, .int (nI nac), .ref aNw, .ref aNtr, .ref aNis, .ref aNbg, .ref aNow])), (aNs, .inl (g.2.1 0, 919, .inl (msF gr wk z lk sz br ru ki ma bb ce hd))), (aNt, .inl (g.2.1 0, 60, .inl (nIf tb))), (aNa, .inl (g.2.1 0, 2475, .inl (nIf fcN))), (aNr, .inl (g.2.1 0, 495, .inl (nIf rowB))), (aNb, .inl (g.2.1 0, 4096, .inl (nIf popN)))] := by
        intro v1 ev1
        refine x_istore_n (lv' := [some (.ref aN), some (.int v1), some (.int ((srL (hB b n) (nmI wk L p) 0 (a1 + 1)).2.2)), some (.int ((srL (hB b n) (nmI wk L p) 0 a3).2.2))]) dX9_choice_74 (xlt rfl) rfl ?_
        refine x_aload_n dX9_choice_75 rfl ?_
        refine x_bipush 41 dX9_choice_76 (by decide) ?_
        refine x_cVv (ws' := [(aN, .inr (9, [.ref aNs, .ref aNk, .int nkp, .ref aNf, .ref aNr, .ref aNp, .ref aNb, .ref aNa, .ref aNt, .int (nI nts), .ref aNbo, .ref aNsz, .ref aNnu, .int (nI ((pasA (hB b n) 41 ((srL (hB b n) (nmI wk L p) 0 a3).2.1) ((srL (hB b n) (nmI wk L p) 0 a3).1)).1)), .int 4, .int (bI (pasA (hB b n) 41 ((srL (hB b n) (nmI wk L p) 0 a3).2.1) ((srL (hB b n) (nmI wk L p) 0 a3).1)).2), .int ntp, .int (nI p), .int nnw, .int nsn, .int nwn, .ref aNl, .ref aNal, .ref aNlo, .int (nI nac), .ref aNw, .ref aNtr, .ref aNis, .ref aNbg, .ref aNow])), (aNs, .inl (g.2.1 0, 919, .inl (msF gr wk z lk sz br ru ki ma bb ce hd))), (aNt, .inl (g.2.1 0, 60, .inl (nIf tb))), (aNa, .inl (g.2.1 0, 2475, .inl (nIf fcN))), (aNr, .inl (g.2.1 0, 495, .inl (nIf rowB))), (aNb, .inl (g.2.1 0, 4096, .inl (nIf popN)))]) dX9_choice_78 ml_X9_154 mX9_must (ct_X9_must κ.2.1 g aN aNs aNk aNf aNr aNp aNb aNa aNt aNbo aNsz aNnu aNl aNal aNlo aNw aNtr aNis aNbg aNow nts ((srL (hB b n) (nmI wk L p) 0 a3).1) 4 p nac nkp ntp nnw nsn nwn gr wk lk sz br z ru ki ma bb hd ce tb b n 41 ((srL (hB b n) (nmI wk L p) 0 a3).2.1) (ht) (by omega) (hn) (hb) (by decide)) [0, 1, 2] rfl rfl 0 rfl rfl rfl (Nat.le_of_ble_eq_true rfl) (by decide) (Nat.le_refl _) (Nat.le_refl _) (rfl : [aN, aNs, aNt] = [aN, aNs, aNt]) rfl ?_
        refine x_aload_n dX9_choice_81 rfl ?_
        refine x_dup dX9_choice_82 rfl ?_
        refine x_get dX9_choice_83 0 14 inX9 fl_X9_148 rfl rfl (by decide) rfl ?_
        refine x_iconst 1 dX9_choice_86 (by decide) ?_
        refine x_isub dX9_choice_87 ?_
        refine x_rei 3 (by decide) ?_
        refine x_put (ws' := [(aN, .inr (9, [.ref aNs, .ref aNk, .int nkp, .ref aNf, .ref aNr, .ref aNp, .ref aNb, .ref aNa, .ref aNt, .int (nI nts), .ref aNbo, .ref aNsz, .ref aNnu, .int (nI ((pasA (hB b n) 41 ((srL (hB b n) (nmI wk L p) 0 a3).2.1) ((srL (hB b n) (nmI wk L p) 0 a3).1)).1)), .int 3, .int (bI (pasA (hB b n) 41 ((srL (hB b n) (nmI wk L p) 0 a3).2.1) ((srL (hB b n) (nmI wk L p) 0 a3).1)).2), .int ntp, .int (nI p), .int nnw, .int nsn, .int nwn, .ref aNl, .ref aNal, .ref aNlo, .int (nI nac), .ref aNw, .ref aNtr, .ref aNis, .ref aNbg, .ref aNow])), (aNs, .inl (g.2.1 0, 919, .inl (msF gr wk z lk sz br ru ki ma bb ce hd))), (aNt, .inl (g.2.1 0, 60, .inl (nIf tb))), (aNa, .inl (g.2.1 0, 2475, .inl (nIf fcN))), (aNr, .inl (g.2.1 0, 495, .inl (nIf rowB))), (aNb, .inl (g.2.1 0, 4096, .inl (nIf popN)))]) dX9_choice_88 0 14 inX9 tyX9_ok nmX9 fl_X9_148 rfl rfl (by decide) rfl (rfl) rfl (xlt rfl) rfl ?_
        refine x_iload_n dX9_choice_91 rfl ?_
        rw [← hQ]
        refine x_iret dX9_choice_92 rfl (Nat.le_of_ble_eq_true rfl) (Nat.le_of_ble_eq_true rfl) ?_
        try simp only [ev1]
        rw [show hrL (hB b n) (nmI wk L p) 1 nta = choR (hB b n) (srL (hB b n) (nmI wk L p) 0) (nta + 1) from rfl]
        first | (rw [choA hR1]; exact ⟨rfl, rfl⟩) | (rw [choB hR1 hq2]; exact ⟨rfl, rfl⟩) | (rw [choC hR1 hq2 hR3]; exact ⟨rfl, rfl⟩) | (rw [choD hR1 hq2 hR3]; exact ⟨rfl, rfl⟩)
      refine x_if_le dX9_choice_66 (fun c66 => ?_) (fun c66 => ?_)
      · have c66 : w1 ≤ 0 := c66
        refine x_iload_n dX9_choice_73 rfl ?_
        exact J66_2 _ (if_pos c66).symm
      · have c66 : ¬ (w1 ≤ 0) := c66
        refine x_iload_n dX9_choice_69 rfl ?_
        refine x_goto dX9_choice_70 ?_
        exact J66_2 _ (if_neg c66).symm
    · skip
      refine x_eq (lv' := [some (.ref aN), some (.int w1), some (.int ((srL (hB b n) (nmI wk L p) 0 (a1 + 1)).2.2)), none]) (st' := []) (ws' := [(aN, .inr (9, [.ref aNs, .ref aNk, .int nkp, .ref aNf, .ref aNr, .ref aNp, .ref aNb, .ref aNa, .ref aNt, .int (nI nts), .ref aNbo, .ref aNsz, .ref aNnu, .int (nI a3), .int 4, .int 1, .int ntp, .int (nI p), .int nnw, .int nsn, .int nwn, .ref aNl, .ref aNal, .ref aNlo, .int (nI nac), .ref aNw, .ref aNtr, .ref aNis, .ref aNbg, .ref aNow])), (aNs, .inl (g.2.1 0, 919, .inl (msF gr wk z lk sz br ru ki ma bb ce hd))), (aNt, .inl (g.2.1 0, 60, .inl (nIf tb))), (aNa, .inl (g.2.1 0, 2475, .inl (nIf fcN))), (aNr, .inl (g.2.1 0, 495, .inl (nIf rowB))), (aNb, .inl (g.2.1 0, 4096, .inl (nIf popN)))]) ?_ rfl rfl rfl
      refine x_aload_n dX9_choice_60 rfl ?_
      refine x_cVi0 dX9_choice_61 ml_X9_151 mX9_sum (ct_sum_b κ.2.1 g aN aNs aNk aNf aNr aNp aNb aNa aNt aNbo aNsz aNnu aNl aNal aNlo aNw aNtr aNis aNbg aNow nts a3 4 nac nkp ntp nnw nsn nwn gr wk lk sz br z ru ki ma bb hd ce tb p) [0, 1, 2, 3, 4, 5] rfl rfl 0 rfl rfl rfl (Nat.le_of_ble_eq_true rfl) (by decide) (Nat.le_refl _) (Nat.le_refl _) ?_
      skip
      refine x_istore_n (lv' := [some (.ref aN), some (.int w1), some (.int ((srL (hB b n) (nmI wk L p) 0 (a1 + 1)).2.2)), some (.int 0)]) dX9_choice_64 (xlt rfl) rfl ?_
      refine x_iload_n dX9_choice_65 rfl ?_
      have J66_4 : ∀ (v3 : Int32), v3 = (if w1 ≤ 0 then 0 else (srL (hB b n) (nmI wk L p) 0 (a1 + 1)).2.2) → Xs κ g 9 0 0 cX9_choice yX9_choice (some .int) Q 0 0 74 [some (.ref aN), some (.int w1), some (.int ((srL (hB b n) (nmI wk L p) 0 (a1 + 1)).2.2)), some (.int 0)] [.int v3] [(aN, .inr (9, [.ref aNs, .ref aNk, .int nkp, .ref aNf, .ref aNr, .ref aNp, .ref aNb, .ref aNa, .ref aNt, .int (nI nts), .ref aNbo, .ref aNsz, .ref aNnu, .int (nI a3), .int 4, .int 1, .int ntp, .int (nI p), .int nnw, .int nsn, .int nwn, .ref aNl, .ref aNal, .ref aNlo, .int (nI nac), .ref aNw, .ref aNtr, .ref aNis, .ref aNbg, .ref aNow])), (aNs, .inl (g.2.1 0, 919, .inl (msF gr wk z lk sz br ru ki ma bb ce hd))), (aNt, .inl (g.2.1 0, 60, .inl (nIf tb))), (aNa, .inl (g.2.1 0, 2475, .inl (nIf fcN))), (aNr, .inl (g.2.1 0, 495, .inl (nIf rowB))), (aNb, .inl (g.2.1 0, 4096, .inl (nIf popN)))] := by
        intro v3 ev3
        refine x_istore_n (lv' := [some (.ref aN), some (.int v3), some (.int ((srL (hB b n) (nmI wk L p) 0 (a1 + 1)).2.2)), some (.int 0)]) dX9_choice_74 (xlt rfl) rfl ?_
        refine x_aload_n dX9_choice_75 rfl ?_
        refine x_bipush 41 dX9_choice_76 (by decide) ?_
        refine x_cVv (ws' := [(aN, .inr (9, [.ref aNs, .ref aNk, .int nkp, .ref aNf, .ref aNr, .ref aNp, .ref aNb, .ref aNa, .ref aNt, .int (nI nts), .ref aNbo, .ref aNsz, .ref aNnu, .int (nI ((pasA (hB b n) 41 true a3).1)), .int 4, .int (bI (pasA (hB b n) 41 true a3).2), .int ntp, .int (nI p), .int nnw, .int nsn, .int nwn, .ref aNl, .ref aNal, .ref aNlo, .int (nI nac), .ref aNw, .ref aNtr, .ref aNis, .ref aNbg, .ref aNow])), (aNs, .inl (g.2.1 0, 919, .inl (msF gr wk z lk sz br ru ki ma bb ce hd))), (aNt, .inl (g.2.1 0, 60, .inl (nIf tb))), (aNa, .inl (g.2.1 0, 2475, .inl (nIf fcN))), (aNr, .inl (g.2.1 0, 495, .inl (nIf rowB))), (aNb, .inl (g.2.1 0, 4096, .inl (nIf popN)))]) dX9_choice_78 ml_X9_154 mX9_must (ct_X9_must κ.2.1 g aN aNs aNk aNf aNr aNp aNb aNa aNt aNbo aNsz aNnu aNl aNal aNlo aNw aNtr aNis aNbg aNow nts a3 4 p nac nkp ntp nnw nsn nwn gr wk lk sz br z ru ki ma bb hd ce tb b n 41 true (ht) (by omega) (hn) (hb) (by decide)) [0, 1, 2] rfl rfl 0 rfl rfl rfl (Nat.le_of_ble_eq_true rfl) (by decide) (Nat.le_refl _) (Nat.le_refl _) (rfl : [aN, aNs, aNt] = [aN, aNs, aNt]) rfl ?_
        refine x_aload_n dX9_choice_81 rfl ?_
        refine x_dup dX9_choice_82 rfl ?_
        refine x_get dX9_choice_83 0 14 inX9 fl_X9_148 rfl rfl (by decide) rfl ?_
        refine x_iconst 1 dX9_choice_86 (by decide) ?_
        refine x_isub dX9_choice_87 ?_
        refine x_rei 3 (by decide) ?_
        refine x_put (ws' := [(aN, .inr (9, [.ref aNs, .ref aNk, .int nkp, .ref aNf, .ref aNr, .ref aNp, .ref aNb, .ref aNa, .ref aNt, .int (nI nts), .ref aNbo, .ref aNsz, .ref aNnu, .int (nI ((pasA (hB b n) 41 true a3).1)), .int 3, .int (bI (pasA (hB b n) 41 true a3).2), .int ntp, .int (nI p), .int nnw, .int nsn, .int nwn, .ref aNl, .ref aNal, .ref aNlo, .int (nI nac), .ref aNw, .ref aNtr, .ref aNis, .ref aNbg, .ref aNow])), (aNs, .inl (g.2.1 0, 919, .inl (msF gr wk z lk sz br ru ki ma bb ce hd))), (aNt, .inl (g.2.1 0, 60, .inl (nIf tb))), (aNa, .inl (g.2.1 0, 2475, .inl (nIf fcN))), (aNr, .inl (g.2.1 0, 495, .inl (nIf rowB))), (aNb, .inl (g.2.1 0, 4096, .inl (nIf popN)))]) dX9_choice_88 0 14 inX9 tyX9_ok nmX9 fl_X9_148 rfl rfl (by decide) rfl (rfl) rfl (xlt rfl) rfl ?_
        refine x_iload_n dX9_choice_91 rfl ?_
        rw [← hQ]
        refine x_iret dX9_choice_92 rfl (Nat.le_of_ble_eq_true rfl) (Nat.le_of_ble_eq_true rfl) ?_
        try simp only [ev3]
        rw [show hrL (hB b n) (nmI wk L p) 1 nta = choR (hB b n) (srL (hB b n) (nmI wk L p) 0) (nta + 1) from rfl]
        first | (rw [choA hR1]; exact ⟨rfl, rfl⟩) | (rw [choB hR1 hq2]; exact ⟨rfl, rfl⟩) | (rw [choC hR1 hq2 hR3]; exact ⟨rfl, rfl⟩) | (rw [choD hR1 hq2 hR3]; exact ⟨rfl, rfl⟩)
      refine x_if_le dX9_choice_66 (fun c66 => ?_) (fun c66 => ?_)
      · have c66 : w1 ≤ 0 := c66
        refine x_iload_n dX9_choice_73 rfl ?_
        exact J66_4 _ (if_pos c66).symm
      · have c66 : ¬ (w1 ≤ 0) := c66
        refine x_iload_n dX9_choice_69 rfl ?_
        refine x_goto dX9_choice_70 ?_
        exact J66_4 _ (if_neg c66).symm
  · skip
    refine x_eq (lv' := [some (.ref aN), none, none, none]) (st' := [.int w1]) (ws' := [(aN, .inr (9, [.ref aNs, .ref aNk, .int nkp, .ref aNf, .ref aNr, .ref aNp, .ref aNb, .ref aNa, .ref aNt, .int (nI nts), .ref aNbo, .ref aNsz, .ref aNnu, .int (nI a1), .int 4, .int 0, .int ntp, .int (nI p), .int nnw, .int nsn, .int nwn, .ref aNl, .ref aNal, .ref aNlo, .int (nI nac), .ref aNw, .ref aNtr, .ref aNis, .ref aNbg, .ref aNow])), (aNs, .inl (g.2.1 0, 919, .inl (msF gr wk z lk sz br ru ki ma bb ce hd))), (aNt, .inl (g.2.1 0, 60, .inl (nIf tb))), (aNa, .inl (g.2.1 0, 2475, .inl (nIf fcN))), (aNr, .inl (g.2.1 0, 495, .inl (nIf rowB))), (aNb, .inl (g.2.1 0, 4096, .inl (nIf popN)))]) ?_ rfl rfl rfl
    refine x_istore_n (lv' := [some (.ref aN), some (.int w1), none, none]) dX9_choice_39 (xlt rfl) rfl ?_
    refine x_aload_n dX9_choice_40 rfl ?_
    refine x_bipush 63 dX9_choice_41 (by decide) ?_
    refine x_cVi0 dX9_choice_43 ml_X9_141 mX9_takes (ct_takes_n κ.2.1 g aN aNs aNk aNf aNr aNp aNb aNa aNt aNbo aNsz aNnu aNl aNal aNlo aNw aNtr aNis aNbg aNow nts a1 4 p nac nkp ntp nnw nsn nwn gr wk lk sz br z ru ki ma bb hd ce tb b n 63 (ht) (by omega) (hn) (hb) (by decide) (hq2)) [0, 1, 2] rfl rfl 0 rfl rfl rfl (Nat.le_of_ble_eq_true rfl) (by decide) (Nat.le_refl _) (Nat.le_refl _) ?_
    refine x_if_eq dX9_choice_46 (fun c46 => ?_) (fun c46 => ?_)
    rotate_left
    · exact absurd c46 (by decide)
    refine x_aload_n dX9_choice_75 rfl ?_
    refine x_bipush 41 dX9_choice_76 (by decide) ?_
    refine x_cVv (ws' := [(aN, .inr (9, [.ref aNs, .ref aNk, .int nkp, .ref aNf, .ref aNr, .ref aNp, .ref aNb, .ref aNa, .ref aNt, .int (nI nts), .ref aNbo, .ref aNsz, .ref aNnu, .int (nI ((pasA (hB b n) 41 false a1).1)), .int 4, .int (bI (pasA (hB b n) 41 false a1).2), .int ntp, .int (nI p), .int nnw, .int nsn, .int nwn, .ref aNl, .ref aNal, .ref aNlo, .int (nI nac), .ref aNw, .ref aNtr, .ref aNis, .ref aNbg, .ref aNow])), (aNs, .inl (g.2.1 0, 919, .inl (msF gr wk z lk sz br ru ki ma bb ce hd))), (aNt, .inl (g.2.1 0, 60, .inl (nIf tb))), (aNa, .inl (g.2.1 0, 2475, .inl (nIf fcN))), (aNr, .inl (g.2.1 0, 495, .inl (nIf rowB))), (aNb, .inl (g.2.1 0, 4096, .inl (nIf popN)))]) dX9_choice_78 ml_X9_154 mX9_must (ct_X9_must κ.2.1 g aN aNs aNk aNf aNr aNp aNb aNa aNt aNbo aNsz aNnu aNl aNal aNlo aNw aNtr aNis aNbg aNow nts a1 4 p nac nkp ntp nnw nsn nwn gr wk lk sz br z ru ki ma bb hd ce tb b n 41 false (ht) (by omega) (hn) (hb) (by decide)) [0, 1, 2] rfl rfl 0 rfl rfl rfl (Nat.le_of_ble_eq_true rfl) (by decide) (Nat.le_refl _) (Nat.le_refl _) (rfl : [aN, aNs, aNt] = [aN, aNs, aNt]) rfl ?_
    refine x_aload_n dX9_choice_81 rfl ?_
    refine x_dup dX9_choice_82 rfl ?_
    refine x_get dX9_choice_83 0 14 inX9 fl_X9_148 rfl rfl (by decide) rfl ?_
    refine x_iconst 1 dX9_choice_86 (by decide) ?_
    refine x_isub dX9_choice_87 ?_
    refine x_rei 3 (by decide) ?_
    refine x_put (ws' := [(aN, .inr (9, [.ref aNs, .ref aNk, .int nkp, .ref aNf, .ref aNr, .ref aNp, .ref aNb, .ref aNa, .ref aNt, .int (nI nts), .ref aNbo, .ref aNsz, .ref aNnu, .int (nI ((pasA (hB b n) 41 false a1).1)), .int 3, .int (bI (pasA (hB b n) 41 false a1).2), .int ntp, .int (nI p), .int nnw, .int nsn, .int nwn, .ref aNl, .ref aNal, .ref aNlo, .int (nI nac), .ref aNw, .ref aNtr, .ref aNis, .ref aNbg, .ref aNow])), (aNs, .inl (g.2.1 0, 919, .inl (msF gr wk z lk sz br ru ki ma bb ce hd))), (aNt, .inl (g.2.1 0, 60, .inl (nIf tb))), (aNa, .inl (g.2.1 0, 2475, .inl (nIf fcN))), (aNr, .inl (g.2.1 0, 495, .inl (nIf rowB))), (aNb, .inl (g.2.1 0, 4096, .inl (nIf popN)))]) dX9_choice_88 0 14 inX9 tyX9_ok nmX9 fl_X9_148 rfl rfl (by decide) rfl (rfl) rfl (xlt rfl) rfl ?_
    refine x_iload_n dX9_choice_91 rfl ?_
    rw [← hQ]
    refine x_iret dX9_choice_92 rfl (Nat.le_of_ble_eq_true rfl) (Nat.le_of_ble_eq_true rfl) ?_
    try simp only []
    rw [show hrL (hB b n) (nmI wk L p) 1 nta = choR (hB b n) (srL (hB b n) (nmI wk L p) 0) (nta + 1) from rfl]
    first | (rw [choA hR1]; exact ⟨rfl, rfl⟩) | (rw [choB hR1 hq2]; exact ⟨rfl, rfl⟩) | (rw [choC hR1 hq2 hR3]; exact ⟨rfl, rfl⟩) | (rw [choD hR1 hq2 hR3]; exact ⟨rfl, rfl⟩)
  · skip
    refine x_eq (lv' := [some (.ref aN), none, none, none]) (st' := [.int w1]) (ws' := [(aN, .inr (9, [.ref aNs, .ref aNk, .int nkp, .ref aNf, .ref aNr, .ref aNp, .ref aNb, .ref aNa, .ref aNt, .int (nI nts), .ref aNbo, .ref aNsz, .ref aNnu, .int (nI a1), .int 4, .int 1, .int ntp, .int (nI p), .int nnw, .int nsn, .int nwn, .ref aNl, .ref aNal, .ref aNlo, .int (nI nac), .ref aNw, .ref aNtr, .ref aNis, .ref aNbg, .ref aNow])), (aNs, .inl (g.2.1 0, 919, .inl (msF gr wk z lk sz br ru ki ma bb ce hd))), (aNt, .inl (g.2.1 0, 60, .inl (nIf tb))), (aNa, .inl (g.2.1 0, 2475, .inl (nIf fcN))), (aNr, .inl (g.2.1 0, 495, .inl (nIf rowB))), (aNb, .inl (g.2.1 0, 4096, .inl (nIf popN)))]) ?_ rfl rfl rfl
    refine x_istore_n (lv' := [some (.ref aN), some (.int w1), none, none]) dX9_choice_39 (xlt rfl) rfl ?_
    refine x_aload_n dX9_choice_40 rfl ?_
    refine x_bipush 63 dX9_choice_41 (by decide) ?_
    refine x_cVi0 dX9_choice_43 ml_X9_141 mX9_takes (ct_takes_b κ.2.1 g aN aNs aNk aNf aNr aNp aNb aNa aNt aNbo aNsz aNnu aNl aNal aNlo aNw aNtr aNis aNbg aNow nts a1 4 p nac nkp ntp nnw nsn nwn gr wk lk sz br z ru ki ma bb hd ce tb 63) [0, 1, 2] rfl rfl 0 rfl rfl rfl (Nat.le_of_ble_eq_true rfl) (by decide) (Nat.le_refl _) (Nat.le_refl _) ?_
    refine x_if_eq dX9_choice_46 (fun c46 => ?_) (fun c46 => ?_)
    rotate_left
    · exact absurd c46 (by decide)
    refine x_aload_n dX9_choice_75 rfl ?_
    refine x_bipush 41 dX9_choice_76 (by decide) ?_
    refine x_cVv (ws' := [(aN, .inr (9, [.ref aNs, .ref aNk, .int nkp, .ref aNf, .ref aNr, .ref aNp, .ref aNb, .ref aNa, .ref aNt, .int (nI nts), .ref aNbo, .ref aNsz, .ref aNnu, .int (nI ((pasA (hB b n) 41 true a1).1)), .int 4, .int (bI (pasA (hB b n) 41 true a1).2), .int ntp, .int (nI p), .int nnw, .int nsn, .int nwn, .ref aNl, .ref aNal, .ref aNlo, .int (nI nac), .ref aNw, .ref aNtr, .ref aNis, .ref aNbg, .ref aNow])), (aNs, .inl (g.2.1 0, 919, .inl (msF gr wk z lk sz br ru ki ma bb ce hd))), (aNt, .inl (g.2.1 0, 60, .inl (nIf tb))), (aNa, .inl (g.2.1 0, 2475, .inl (nIf fcN))), (aNr, .inl (g.2.1 0, 495, .inl (nIf rowB))), (aNb, .inl (g.2.1 0, 4096, .inl (nIf popN)))]) dX9_choice_78 ml_X9_154 mX9_must (ct_X9_must κ.2.1 g aN aNs aNk aNf aNr aNp aNb aNa aNt aNbo aNsz aNnu aNl aNal aNlo aNw aNtr aNis aNbg aNow nts a1 4 p nac nkp ntp nnw nsn nwn gr wk lk sz br z ru ki ma bb hd ce tb b n 41 true (ht) (by omega) (hn) (hb) (by decide)) [0, 1, 2] rfl rfl 0 rfl rfl rfl (Nat.le_of_ble_eq_true rfl) (by decide) (Nat.le_refl _) (Nat.le_refl _) (rfl : [aN, aNs, aNt] = [aN, aNs, aNt]) rfl ?_
    refine x_aload_n dX9_choice_81 rfl ?_
    refine x_dup dX9_choice_82 rfl ?_
    refine x_get dX9_choice_83 0 14 inX9 fl_X9_148 rfl rfl (by decide) rfl ?_
    refine x_iconst 1 dX9_choice_86 (by decide) ?_
    refine x_isub dX9_choice_87 ?_
    refine x_rei 3 (by decide) ?_
    refine x_put (ws' := [(aN, .inr (9, [.ref aNs, .ref aNk, .int nkp, .ref aNf, .ref aNr, .ref aNp, .ref aNb, .ref aNa, .ref aNt, .int (nI nts), .ref aNbo, .ref aNsz, .ref aNnu, .int (nI ((pasA (hB b n) 41 true a1).1)), .int 3, .int (bI (pasA (hB b n) 41 true a1).2), .int ntp, .int (nI p), .int nnw, .int nsn, .int nwn, .ref aNl, .ref aNal, .ref aNlo, .int (nI nac), .ref aNw, .ref aNtr, .ref aNis, .ref aNbg, .ref aNow])), (aNs, .inl (g.2.1 0, 919, .inl (msF gr wk z lk sz br ru ki ma bb ce hd))), (aNt, .inl (g.2.1 0, 60, .inl (nIf tb))), (aNa, .inl (g.2.1 0, 2475, .inl (nIf fcN))), (aNr, .inl (g.2.1 0, 495, .inl (nIf rowB))), (aNb, .inl (g.2.1 0, 4096, .inl (nIf popN)))]) dX9_choice_88 0 14 inX9 tyX9_ok nmX9 fl_X9_148 rfl rfl (by decide) rfl (rfl) rfl (xlt rfl) rfl ?_
    refine x_iload_n dX9_choice_91 rfl ?_
    rw [← hQ]
    refine x_iret dX9_choice_92 rfl (Nat.le_of_ble_eq_true rfl) (Nat.le_of_ble_eq_true rfl) ?_
    try simp only []
    rw [show hrL (hB b n) (nmI wk L p) 1 nta = choR (hB b n) (srL (hB b n) (nmI wk L p) 0) (nta + 1) from rfl]
    first | (rw [choA hR1]; exact ⟨rfl, rfl⟩) | (rw [choB hR1 hq2]; exact ⟨rfl, rfl⟩) | (rw [choC hR1 hq2 hR3]; exact ⟨rfl, rfl⟩) | (rw [choD hR1 hq2 hR3]; exact ⟨rfl, rfl⟩)

-- == fr_1 ==
set_option maxRecDepth 100000 in
set_option maxHeartbeats 4000000 in
theorem ct_fr_1 (l : Launch) (g : XG) (aN aNs aNk aNf aNr aNp aNb aNa aNt aNbo aNsz aNnu aNl aNal aNlo aNw aNtr aNis aNbg aNow nts nta nac : Nat) (nkp ntp nnw nsn nwn : Int32) (gr wk lk sz br : Nat) (z : Int32) (ru ki ma bb hd : Nat → Nat) (ce : Nat → Int32) (tb b : Nat → Nat) (n L p : Nat) (ht : (ntp = 1 ∧ n = nts ∧ b = tb) ∨ (ntp = 0 ∧ n = sz ∧ b = bb)) (ha : nta ≤ n) (hn : n ≤ 60) (hb : ∀ j, b j < 256) (hp : p < 495) (hwk : wk ≤ 40) (hlat : latI ce wk = nI L) : Ct l g 10 0 0 yX9_factor cX9_factor 3 (some .int) [.ref aN] [(aN, .inr (9, [.ref aNs, .ref aNk, .int nkp, .ref aNf, .ref aNr, .ref aNp, .ref aNb, .ref aNa, .ref aNt, .int (nI nts), .ref aNbo, .ref aNsz, .ref aNnu, .int (nI nta), .int 3, .int 0, .int ntp, .int (nI p), .int nnw, .int nsn, .int nwn, .ref aNl, .ref aNal, .ref aNlo, .int (nI nac), .ref aNw, .ref aNtr, .ref aNis, .ref aNbg, .ref aNow])), (aNs, .inl (g.2.1 0, 919, .inl (msF gr wk z lk sz br ru ki ma bb ce hd))), (aNt, .inl (g.2.1 0, 60, .inl (nIf tb))), (aNa, .inl (g.2.1 0, 2475, .inl (nIf fcN))), (aNr, .inl (g.2.1 0, 495, .inl (nIf rowB))), (aNb, .inl (g.2.1 0, 4096, .inl (nIf popN)))] (xpi ((frL (hB b n) (nmI wk L p) 1 nta).2.2) [(aN, .inr (9, [.ref aNs, .ref aNk, .int nkp, .ref aNf, .ref aNr, .ref aNp, .ref aNb, .ref aNa, .ref aNt, .int (nI nts), .ref aNbo, .ref aNsz, .ref aNnu, .int (nI ((frL (hB b n) (nmI wk L p) 1 nta).1)), .int 3, .int (bI (frL (hB b n) (nmI wk L p) 1 nta).2.1), .int ntp, .int (nI p), .int nnw, .int nsn, .int nwn, .ref aNl, .ref aNal, .ref aNlo, .int (nI nac), .ref aNw, .ref aNtr, .ref aNis, .ref aNbg, .ref aNow])), (aNs, .inl (g.2.1 0, 919, .inl (msF gr wk z lk sz br ru ki ma bb ce hd))), (aNt, .inl (g.2.1 0, 60, .inl (nIf tb))), (aNa, .inl (g.2.1 0, 2475, .inl (nIf fcN))), (aNr, .inl (g.2.1 0, 495, .inl (nIf rowB))), (aNb, .inl (g.2.1 0, 4096, .inl (nIf popN)))]) := by
  refine Ct.ofX (lv := [some (.ref aN), none, none]) (by decide) rfl (Nat.le_of_ble_eq_true rfl) (fun κ => ?_)
  generalize hQ : xQ κ g 0 0 _ = Q
  refine x_aload_n dX9_factor_0 rfl ?_
  refine x_get dX9_factor_1 0 15 inX9 fl_X9_135 rfl rfl (by decide) rfl ?_
  refine x_if_eq dX9_factor_4 (fun c4 => ?_) (fun c4 => ?_)
  rotate_left
  · exact absurd c4 (by decide)
  refine x_aload_n dX9_factor_9 rfl ?_
  refine x_cVi0 dX9_factor_10 ml_X9_138 mX9_byteHere (ct_X9_byteHere κ.2.1 g aN aNs aNk aNf aNr aNp aNb aNa aNt aNbo aNsz aNnu aNl aNal aNlo aNw aNtr aNis aNbg aNow nts nta 3 p nac nkp 0 ntp nnw nsn nwn gr wk lk sz br z ru ki ma bb hd ce tb b n (ht) (by omega) (hn) (hb)) [0, 1, 2] rfl rfl 0 rfl rfl rfl (Nat.le_of_ble_eq_true rfl) (by decide) (Nat.le_refl _) (Nat.le_refl _) ?_
  rcases hI_cases (hB b n) nta with ⟨hlt, hh⟩ | ⟨hlt, hh⟩ <;> rw [hh]
  · skip
    refine x_istore_n (lv' := [some (.ref aN), some (.int (nI (hB b n nta))), none]) dX9_factor_13 (xlt rfl) rfl ?_
    refine x_iload_n dX9_factor_14 rfl ?_
    refine x_i2l dX9_factor_15 ?_
    refine x_ldc2 dX9_factor_16 kl_X9_144 ?_
    refine x_ldc2 dX9_factor_19 kl_X9_146 ?_
    refine x_cSi dX9_factor_22 ml_X9_98 mX9_isIn (ct_X9_isIn κ.2.1 g ((nI (hB b n nta)).toInt64) 48 57) rfl (Nat.le_of_ble_eq_true rfl) (by decide) (Nat.le_refl _) (Nat.le_refl _) ?_
    refine x_rei (wI (nI (hB b n nta)) 48 57) (inL_w (nI (hB b n nta)) 48 57 (by first | rfl | decide) (by first | rfl | decide)) ?_
    skip
    refine x_if_eq dX9_factor_25 (fun c25 => ?_) (fun c25 => ?_)
    · have c25 : (wI (nI (hB b n nta)) 48 57) = 0 := c25
      refine x_iload_n dX9_factor_33 rfl ?_
      refine x_bipush 40 dX9_factor_34 (by decide) ?_
      refine x_icmp_ne dX9_factor_36 (fun c36 => ?_) (fun c36 => ?_)
      · have c36 : ¬ ((nI (hB b n nta)) = 40) := c36
        have c36n := mt (nI_eq (a := (hB b n nta)) (b := 40) (by omega) (by omega)).mpr c36
        refine x_aload_n dX9_factor_44 rfl ?_
        refine x_iload_n dX9_factor_45 rfl ?_
        refine x_cVi0 dX9_factor_46 ml_X9_164 mX9_named (ct_named_n κ.2.1 g aN aNs aNk aNf aNr aNp aNb aNa aNt aNbo aNsz aNnu aNl aNal aNlo aNw aNtr aNis aNbg aNow nts nta 3 nac nkp 0 ntp nnw nsn nwn gr wk lk sz br z ru ki ma bb hd ce L p (hB b n nta) (hp) (hwk) (hlat) (hlt)) [0, 1, 3, 4, 5] rfl rfl 0 rfl rfl rfl (Nat.le_of_ble_eq_true rfl) (by decide) (Nat.le_refl _) (Nat.le_refl _) ?_
        have hnn := nmN_le (L := L) hwk hp (nmIx (hB b n nta))
        by_cases hni : nmIx (hB b n nta) < 7
        · rw [if_pos hni]
          refine x_istore_n (lv' := [some (.ref aN), some (.int (nI (hB b n nta))), some (.int (nI (nmN wk L (rowB p) (nmIx (hB b n nta)))))]) dX9_factor_49 (xlt rfl) rfl ?_
          refine x_aload_n dX9_factor_50 rfl ?_
          refine x_iload_n dX9_factor_51 rfl ?_
          refine x_if_ge dX9_factor_52 (fun c52 => ?_) (fun c52 => ?_)
          · have c52 : 0 ≤ (nI (nmN wk L (rowB p) (nmIx (hB b n nta)))) := c52
            have c52n := (nI_leI (a := 0) (b := (nmN wk L (rowB p) (nmIx (hB b n nta)))) (by omega) (by omega)).mp c52
            refine x_iconst 0 dX9_factor_59 (by decide) ?_
            refine x_put (ws' := [(aN, .inr (9, [.ref aNs, .ref aNk, .int nkp, .ref aNf, .ref aNr, .ref aNp, .ref aNb, .ref aNa, .ref aNt, .int (nI nts), .ref aNbo, .ref aNsz, .ref aNnu, .int (nI nta), .int 3, .int 0, .int ntp, .int (nI p), .int nnw, .int nsn, .int nwn, .ref aNl, .ref aNal, .ref aNlo, .int (nI nac), .ref aNw, .ref aNtr, .ref aNis, .ref aNbg, .ref aNow])), (aNs, .inl (g.2.1 0, 919, .inl (msF gr wk z lk sz br ru ki ma bb ce hd))), (aNt, .inl (g.2.1 0, 60, .inl (nIf tb))), (aNa, .inl (g.2.1 0, 2475, .inl (nIf fcN))), (aNr, .inl (g.2.1 0, 495, .inl (nIf rowB))), (aNb, .inl (g.2.1 0, 4096, .inl (nIf popN)))]) dX9_factor_60 0 15 inX9 tyX9_ok nmX9 fl_X9_135 rfl rfl (by decide) rfl (rfl) rfl (xlt rfl) rfl ?_
            refine x_aload_n dX9_factor_63 rfl ?_
            refine x_dup dX9_factor_64 rfl ?_
            refine x_get dX9_factor_65 0 13 inX9 fl_X9_119 rfl rfl (by decide) rfl ?_
            refine x_aload_n dX9_factor_68 rfl ?_
            refine x_get dX9_factor_69 0 15 inX9 fl_X9_135 rfl rfl (by decide) rfl ?_
            refine x_if_eq dX9_factor_72 (fun c72 => ?_) (fun c72 => ?_)
            rotate_left
            · exact absurd c72 (by decide)
            refine x_iconst 1 dX9_factor_79 (by decide) ?_
            refine x_iadd dX9_factor_80 ?_
            refine x_rei (nI (nta + 1)) (nI_addc nta 1 rfl) ?_
            refine x_put (ws' := [(aN, .inr (9, [.ref aNs, .ref aNk, .int nkp, .ref aNf, .ref aNr, .ref aNp, .ref aNb, .ref aNa, .ref aNt, .int (nI nts), .ref aNbo, .ref aNsz, .ref aNnu, .int (nI (nta + 1)), .int 3, .int 0, .int ntp, .int (nI p), .int nnw, .int nsn, .int nwn, .ref aNl, .ref aNal, .ref aNlo, .int (nI nac), .ref aNw, .ref aNtr, .ref aNis, .ref aNbg, .ref aNow])), (aNs, .inl (g.2.1 0, 919, .inl (msF gr wk z lk sz br ru ki ma bb ce hd))), (aNt, .inl (g.2.1 0, 60, .inl (nIf tb))), (aNa, .inl (g.2.1 0, 2475, .inl (nIf fcN))), (aNr, .inl (g.2.1 0, 495, .inl (nIf rowB))), (aNb, .inl (g.2.1 0, 4096, .inl (nIf popN)))]) dX9_factor_81 0 13 inX9 tyX9_ok nmX9 fl_X9_119 rfl rfl (by decide) rfl (rfl) rfl (xlt rfl) rfl ?_
            refine x_iload_n dX9_factor_84 rfl ?_
            rw [← hQ]
            refine x_iret dX9_factor_85 rfl (Nat.le_of_ble_eq_true rfl) (Nat.le_of_ble_eq_true rfl) ?_
            first | (rw [frL, facR, if_neg (by first | exact dgW0 hlt c25 | exact dg_no hlt), if_neg (by omega), if_pos hni]; exact ⟨rfl, rfl⟩) | (rw [frL, facR, if_neg (by first | exact dgW0 hlt c25 | exact dg_no hlt), if_neg (by omega), if_neg (by first | exact hni | exact nmIx_no hlt)]; exact ⟨rfl, rfl⟩)
          · have c52 : ¬ (0 ≤ (nI (nmN wk L (rowB p) (nmIx (hB b n nta))))) := c52
            have c52n := mt (nI_leI (a := 0) (b := (nmN wk L (rowB p) (nmIx (hB b n nta)))) (by omega) (by omega)).mpr c52
            exact absurd c52n (by omega)
        · rw [if_neg hni]
          refine x_istore_n (lv' := [some (.ref aN), some (.int (nI (hB b n nta))), some (.int ((-1)))]) dX9_factor_49 (xlt rfl) rfl ?_
          refine x_aload_n dX9_factor_50 rfl ?_
          refine x_iload_n dX9_factor_51 rfl ?_
          refine x_if_ge dX9_factor_52 (fun c52 => ?_) (fun c52 => ?_)
          · exact absurd c52 (by decide)
          refine x_iconst 1 dX9_factor_55 (by decide) ?_
          refine x_goto dX9_factor_56 ?_
          refine x_put (ws' := [(aN, .inr (9, [.ref aNs, .ref aNk, .int nkp, .ref aNf, .ref aNr, .ref aNp, .ref aNb, .ref aNa, .ref aNt, .int (nI nts), .ref aNbo, .ref aNsz, .ref aNnu, .int (nI nta), .int 3, .int 1, .int ntp, .int (nI p), .int nnw, .int nsn, .int nwn, .ref aNl, .ref aNal, .ref aNlo, .int (nI nac), .ref aNw, .ref aNtr, .ref aNis, .ref aNbg, .ref aNow])), (aNs, .inl (g.2.1 0, 919, .inl (msF gr wk z lk sz br ru ki ma bb ce hd))), (aNt, .inl (g.2.1 0, 60, .inl (nIf tb))), (aNa, .inl (g.2.1 0, 2475, .inl (nIf fcN))), (aNr, .inl (g.2.1 0, 495, .inl (nIf rowB))), (aNb, .inl (g.2.1 0, 4096, .inl (nIf popN)))]) dX9_factor_60 0 15 inX9 tyX9_ok nmX9 fl_X9_135 rfl rfl (by decide) rfl (rfl) rfl (xlt rfl) rfl ?_
          refine x_aload_n dX9_factor_63 rfl ?_
          refine x_dup dX9_factor_64 rfl ?_
          refine x_get dX9_factor_65 0 13 inX9 fl_X9_119 rfl rfl (by decide) rfl ?_
          refine x_aload_n dX9_factor_68 rfl ?_
          refine x_get dX9_factor_69 0 15 inX9 fl_X9_135 rfl rfl (by decide) rfl ?_
          refine x_if_eq dX9_factor_72 (fun c72 => ?_) (fun c72 => ?_)
          · exact absurd c72 (by decide)
          refine x_iconst 0 dX9_factor_75 (by decide) ?_
          refine x_goto dX9_factor_76 ?_
          refine x_iadd dX9_factor_80 ?_
          refine x_rei (nI (nta + 0)) (nI_addc nta 0 rfl) ?_
          refine x_put (ws' := [(aN, .inr (9, [.ref aNs, .ref aNk, .int nkp, .ref aNf, .ref aNr, .ref aNp, .ref aNb, .ref aNa, .ref aNt, .int (nI nts), .ref aNbo, .ref aNsz, .ref aNnu, .int (nI (nta + 0)), .int 3, .int 1, .int ntp, .int (nI p), .int nnw, .int nsn, .int nwn, .ref aNl, .ref aNal, .ref aNlo, .int (nI nac), .ref aNw, .ref aNtr, .ref aNis, .ref aNbg, .ref aNow])), (aNs, .inl (g.2.1 0, 919, .inl (msF gr wk z lk sz br ru ki ma bb ce hd))), (aNt, .inl (g.2.1 0, 60, .inl (nIf tb))), (aNa, .inl (g.2.1 0, 2475, .inl (nIf fcN))), (aNr, .inl (g.2.1 0, 495, .inl (nIf rowB))), (aNb, .inl (g.2.1 0, 4096, .inl (nIf popN)))]) dX9_factor_81 0 13 inX9 tyX9_ok nmX9 fl_X9_119 rfl rfl (by decide) rfl (rfl) rfl (xlt rfl) rfl ?_
          refine x_iload_n dX9_factor_84 rfl ?_
          rw [← hQ]
          refine x_iret dX9_factor_85 rfl (Nat.le_of_ble_eq_true rfl) (Nat.le_of_ble_eq_true rfl) ?_
          first | (rw [frL, facR, if_neg (by first | exact dgW0 hlt c25 | exact dg_no hlt), if_neg (by omega), if_pos hni]; exact ⟨rfl, rfl⟩) | (rw [frL, facR, if_neg (by first | exact dgW0 hlt c25 | exact dg_no hlt), if_neg (by omega), if_neg (by first | exact hni | exact nmIx_no hlt)]; exact ⟨rfl, rfl⟩)
      · have c36 : (nI (hB b n nta)) = 40 := c36
        have c36n := (nI_eq (a := (hB b n nta)) (b := 40) (by omega) (by omega)).mp c36
        refine x_aload_n dX9_factor_39 rfl ?_
        refine x_cVi (ws' := [(aN, .inr (9, [.ref aNs, .ref aNk, .int nkp, .ref aNf, .ref aNr, .ref aNp, .ref aNb, .ref aNa, .ref aNt, .int (nI nts), .ref aNbo, .ref aNsz, .ref aNnu, .int (nI ((hrL (hB b n) (nmI wk L p) 1 nta).1)), .int 3, .int (bI (hrL (hB b n) (nmI wk L p) 1 nta).2.1), .int ntp, .int (nI p), .int nnw, .int nsn, .int nwn, .ref aNl, .ref aNal, .ref aNlo, .int (nI nac), .ref aNw, .ref aNtr, .ref aNis, .ref aNbg, .ref aNow])), (aNs, .inl (g.2.1 0, 919, .inl (msF gr wk z lk sz br ru ki ma bb ce hd))), (aNt, .inl (g.2.1 0, 60, .inl (nIf tb))), (aNa, .inl (g.2.1 0, 2475, .inl (nIf fcN))), (aNr, .inl (g.2.1 0, 495, .inl (nIf rowB))), (aNb, .inl (g.2.1 0, 4096, .inl (nIf popN)))]) dX9_factor_40 ml_X9_161 mX9_choice (ct_ch_1 κ.2.1 g aN aNs aNk aNf aNr aNp aNb aNa aNt aNbo aNsz aNnu aNl aNal aNlo aNw aNtr aNis aNbg aNow nts nta nac nkp ntp nnw nsn nwn gr wk lk sz br z ru ki ma bb hd ce tb b n L p (ht) (by omega) (hn) (hb) (hp) (hwk) (hlat) (c36n)) [0, 1, 2, 3, 4, 5] rfl rfl 0 rfl rfl rfl (Nat.le_of_ble_eq_true rfl) (by decide) (Nat.le_refl _) (Nat.le_refl _) (rfl : [aN, aNs, aNt, aNa, aNr, aNb] = [aN, aNs, aNt, aNa, aNr, aNb]) rfl ?_
        rw [← hQ]
        refine x_iret dX9_factor_43 rfl (Nat.le_of_ble_eq_true rfl) (Nat.le_of_ble_eq_true rfl) ?_
        first | (rw [frL, facR, if_neg (dgW0 hlt c25), if_pos c36n]; exact ⟨rfl, rfl⟩)
    · have c25 : ¬ ((wI (nI (hB b n nta)) 48 57) = 0) := c25
      refine x_aload_n dX9_factor_28 rfl ?_
      refine x_cVi (ws' := [(aN, .inr (9, [.ref aNs, .ref aNk, .int nkp, .ref aNf, .ref aNr, .ref aNp, .ref aNb, .ref aNa, .ref aNt, .int (nI nts), .ref aNbo, .ref aNsz, .ref aNnu, .int (nI ((numI (hB b n) nta).1)), .int 3, .int 0, .int ntp, .int (nI p), .int nnw, .int nsn, .int nwn, .ref aNl, .ref aNal, .ref aNlo, .int (nI nac), .ref aNw, .ref aNtr, .ref aNis, .ref aNbg, .ref aNow])), (aNs, .inl (g.2.1 0, 919, .inl (msF gr wk z lk sz br ru ki ma bb ce hd))), (aNt, .inl (g.2.1 0, 60, .inl (nIf tb))), (aNa, .inl (g.2.1 0, 2475, .inl (nIf fcN))), (aNr, .inl (g.2.1 0, 495, .inl (nIf rowB))), (aNb, .inl (g.2.1 0, 4096, .inl (nIf popN)))]) dX9_factor_29 ml_X9_158 mX9_number (ct_X9_number κ.2.1 g aN aNs aNk aNf aNr aNp aNb aNa aNt aNbo aNsz aNnu aNl aNal aNlo aNw aNtr aNis aNbg aNow nts nta 3 p nac nkp ntp nnw nsn nwn gr wk lk sz br z ru ki ma bb hd ce tb b n (ht) (by omega) (hn) (hb)) [0, 1, 2] rfl rfl 0 rfl rfl rfl (Nat.le_of_ble_eq_true rfl) (by decide) (Nat.le_refl _) (Nat.le_refl _) (rfl : [aN, aNs, aNt] = [aN, aNs, aNt]) rfl ?_
      rw [← hQ]
      refine x_iret dX9_factor_32 rfl (Nat.le_of_ble_eq_true rfl) (Nat.le_of_ble_eq_true rfl) ?_
      first | (rw [frL, facR, if_pos (dgW1 hlt c25)]; exact ⟨rfl, rfl⟩)
  · skip
    refine x_istore_n (lv' := [some (.ref aN), some (.int ((-1))), none]) dX9_factor_13 (xlt rfl) rfl ?_
    refine x_iload_n dX9_factor_14 rfl ?_
    refine x_i2l dX9_factor_15 ?_
    refine x_ldc2 dX9_factor_16 kl_X9_144 ?_
    refine x_ldc2 dX9_factor_19 kl_X9_146 ?_
    refine x_cSi dX9_factor_22 ml_X9_98 mX9_isIn (ct_X9_isIn κ.2.1 g ((-1).toInt64) 48 57) rfl (Nat.le_of_ble_eq_true rfl) (by decide) (Nat.le_refl _) (Nat.le_refl _) ?_
    refine x_rei (wI (-1) 48 57) (inL_w (-1) 48 57 (by first | rfl | decide) (by first | rfl | decide)) ?_
    refine x_rei (0) (by decide) ?_
    refine x_if_eq dX9_factor_25 (fun c25 => ?_) (fun c25 => ?_)
    rotate_left
    · exact absurd c25 (by decide)
    refine x_iload_n dX9_factor_33 rfl ?_
    refine x_bipush 40 dX9_factor_34 (by decide) ?_
    refine x_icmp_ne dX9_factor_36 (fun c36 => ?_) (fun c36 => ?_)
    rotate_left
    · exact absurd c36 (by decide)
    refine x_aload_n dX9_factor_44 rfl ?_
    refine x_iload_n dX9_factor_45 rfl ?_
    refine x_cVi0 dX9_factor_46 ml_X9_164 mX9_named (ct_named_e κ.2.1 g aN aNs aNk aNf aNr aNp aNb aNa aNt aNbo aNsz aNnu aNl aNal aNlo aNw aNtr aNis aNbg aNow nts nta 3 nac nkp 0 ntp nnw nsn nwn gr wk lk sz br z ru ki ma bb hd ce p) [0, 1, 3, 4, 5] rfl rfl 0 rfl rfl rfl (Nat.le_of_ble_eq_true rfl) (by decide) (Nat.le_refl _) (Nat.le_refl _) ?_
    skip
    refine x_istore_n (lv' := [some (.ref aN), some (.int ((-1))), some (.int ((-1)))]) dX9_factor_49 (xlt rfl) rfl ?_
    refine x_aload_n dX9_factor_50 rfl ?_
    refine x_iload_n dX9_factor_51 rfl ?_
    refine x_if_ge dX9_factor_52 (fun c52 => ?_) (fun c52 => ?_)
    · exact absurd c52 (by decide)
    refine x_iconst 1 dX9_factor_55 (by decide) ?_
    refine x_goto dX9_factor_56 ?_
    refine x_put (ws' := [(aN, .inr (9, [.ref aNs, .ref aNk, .int nkp, .ref aNf, .ref aNr, .ref aNp, .ref aNb, .ref aNa, .ref aNt, .int (nI nts), .ref aNbo, .ref aNsz, .ref aNnu, .int (nI nta), .int 3, .int 1, .int ntp, .int (nI p), .int nnw, .int nsn, .int nwn, .ref aNl, .ref aNal, .ref aNlo, .int (nI nac), .ref aNw, .ref aNtr, .ref aNis, .ref aNbg, .ref aNow])), (aNs, .inl (g.2.1 0, 919, .inl (msF gr wk z lk sz br ru ki ma bb ce hd))), (aNt, .inl (g.2.1 0, 60, .inl (nIf tb))), (aNa, .inl (g.2.1 0, 2475, .inl (nIf fcN))), (aNr, .inl (g.2.1 0, 495, .inl (nIf rowB))), (aNb, .inl (g.2.1 0, 4096, .inl (nIf popN)))]) dX9_factor_60 0 15 inX9 tyX9_ok nmX9 fl_X9_135 rfl rfl (by decide) rfl (rfl) rfl (xlt rfl) rfl ?_
    refine x_aload_n dX9_factor_63 rfl ?_
    refine x_dup dX9_factor_64 rfl ?_
    refine x_get dX9_factor_65 0 13 inX9 fl_X9_119 rfl rfl (by decide) rfl ?_
    refine x_aload_n dX9_factor_68 rfl ?_
    refine x_get dX9_factor_69 0 15 inX9 fl_X9_135 rfl rfl (by decide) rfl ?_
    refine x_if_eq dX9_factor_72 (fun c72 => ?_) (fun c72 => ?_)
    · exact absurd c72 (by decide)
    refine x_iconst 0 dX9_factor_75 (by decide) ?_
    refine x_goto dX9_factor_76 ?_
    refine x_iadd dX9_factor_80 ?_
    refine x_rei (nI (nta + 0)) (nI_addc nta 0 rfl) ?_
    refine x_put (ws' := [(aN, .inr (9, [.ref aNs, .ref aNk, .int nkp, .ref aNf, .ref aNr, .ref aNp, .ref aNb, .ref aNa, .ref aNt, .int (nI nts), .ref aNbo, .ref aNsz, .ref aNnu, .int (nI (nta + 0)), .int 3, .int 1, .int ntp, .int (nI p), .int nnw, .int nsn, .int nwn, .ref aNl, .ref aNal, .ref aNlo, .int (nI nac), .ref aNw, .ref aNtr, .ref aNis, .ref aNbg, .ref aNow])), (aNs, .inl (g.2.1 0, 919, .inl (msF gr wk z lk sz br ru ki ma bb ce hd))), (aNt, .inl (g.2.1 0, 60, .inl (nIf tb))), (aNa, .inl (g.2.1 0, 2475, .inl (nIf fcN))), (aNr, .inl (g.2.1 0, 495, .inl (nIf rowB))), (aNb, .inl (g.2.1 0, 4096, .inl (nIf popN)))]) dX9_factor_81 0 13 inX9 tyX9_ok nmX9 fl_X9_119 rfl rfl (by decide) rfl (rfl) rfl (xlt rfl) rfl ?_
    refine x_iload_n dX9_factor_84 rfl ?_
    rw [← hQ]
    refine x_iret dX9_factor_85 rfl (Nat.le_of_ble_eq_true rfl) (Nat.le_of_ble_eq_true rfl) ?_
    first | (rw [frL, facR, if_neg (by first | exact dgW0 hlt c25 | exact dg_no hlt), if_neg (by omega), if_pos hni]; exact ⟨rfl, rfl⟩) | (rw [frL, facR, if_neg (by first | exact dgW0 hlt c25 | exact dg_no hlt), if_neg (by omega), if_neg (by first | exact hni | exact nmIx_no hlt)]; exact ⟨rfl, rfl⟩)

-- == tr_1 ==
set_option maxRecDepth 100000 in
set_option maxHeartbeats 4000000 in
theorem ct_tr_1 (l : Launch) (g : XG) (aN aNs aNk aNf aNr aNp aNb aNa aNt aNbo aNsz aNnu aNl aNal aNlo aNw aNtr aNis aNbg aNow nts nta nac : Nat) (nkp ntp nnw nsn nwn : Int32) (gr wk lk sz br : Nat) (z : Int32) (ru ki ma bb hd : Nat → Nat) (ce : Nat → Int32) (tb b : Nat → Nat) (n L p : Nat) (ht : (ntp = 1 ∧ n = nts ∧ b = tb) ∨ (ntp = 0 ∧ n = sz ∧ b = bb)) (ha : nta ≤ n) (hn : n ≤ 60) (hb : ∀ j, b j < 256) (hp : p < 495) (hwk : wk ≤ 40) (hlat : latI ce wk = nI L) : Ct l g 11 0 0 yX9_term cX9_term 2 (some .int) [.ref aN] [(aN, .inr (9, [.ref aNs, .ref aNk, .int nkp, .ref aNf, .ref aNr, .ref aNp, .ref aNb, .ref aNa, .ref aNt, .int (nI nts), .ref aNbo, .ref aNsz, .ref aNnu, .int (nI nta), .int 3, .int 0, .int ntp, .int (nI p), .int nnw, .int nsn, .int nwn, .ref aNl, .ref aNal, .ref aNlo, .int (nI nac), .ref aNw, .ref aNtr, .ref aNis, .ref aNbg, .ref aNow])), (aNs, .inl (g.2.1 0, 919, .inl (msF gr wk z lk sz br ru ki ma bb ce hd))), (aNt, .inl (g.2.1 0, 60, .inl (nIf tb))), (aNa, .inl (g.2.1 0, 2475, .inl (nIf fcN))), (aNr, .inl (g.2.1 0, 495, .inl (nIf rowB))), (aNb, .inl (g.2.1 0, 4096, .inl (nIf popN)))] (xpi ((trL (hB b n) (nmI wk L p) 1 nta).2.2) [(aN, .inr (9, [.ref aNs, .ref aNk, .int nkp, .ref aNf, .ref aNr, .ref aNp, .ref aNb, .ref aNa, .ref aNt, .int (nI nts), .ref aNbo, .ref aNsz, .ref aNnu, .int (nI ((trL (hB b n) (nmI wk L p) 1 nta).1)), .int 3, .int (bI (trL (hB b n) (nmI wk L p) 1 nta).2.1), .int ntp, .int (nI p), .int nnw, .int nsn, .int nwn, .ref aNl, .ref aNal, .ref aNlo, .int (nI nac), .ref aNw, .ref aNtr, .ref aNis, .ref aNbg, .ref aNow])), (aNs, .inl (g.2.1 0, 919, .inl (msF gr wk z lk sz br ru ki ma bb ce hd))), (aNt, .inl (g.2.1 0, 60, .inl (nIf tb))), (aNa, .inl (g.2.1 0, 2475, .inl (nIf fcN))), (aNr, .inl (g.2.1 0, 495, .inl (nIf rowB))), (aNb, .inl (g.2.1 0, 4096, .inl (nIf popN)))]) := by
  refine Ct.ofX (lv := [some (.ref aN), none]) (by decide) rfl (Nat.le_of_ble_eq_true rfl) (fun κ => ?_)
  generalize hQ : xQ κ g 0 0 _ = Q
  refine x_aload_n dX9_term_0 rfl ?_
  refine x_cVi (ws' := [(aN, .inr (9, [.ref aNs, .ref aNk, .int nkp, .ref aNf, .ref aNr, .ref aNp, .ref aNb, .ref aNa, .ref aNt, .int (nI nts), .ref aNbo, .ref aNsz, .ref aNnu, .int (nI ((frL (hB b n) (nmI wk L p) 1 nta).1)), .int 3, .int (bI (frL (hB b n) (nmI wk L p) 1 nta).2.1), .int ntp, .int (nI p), .int nnw, .int nsn, .int nwn, .ref aNl, .ref aNal, .ref aNlo, .int (nI nac), .ref aNw, .ref aNtr, .ref aNis, .ref aNbg, .ref aNow])), (aNs, .inl (g.2.1 0, 919, .inl (msF gr wk z lk sz br ru ki ma bb ce hd))), (aNt, .inl (g.2.1 0, 60, .inl (nIf tb))), (aNa, .inl (g.2.1 0, 2475, .inl (nIf fcN))), (aNr, .inl (g.2.1 0, 495, .inl (nIf rowB))), (aNb, .inl (g.2.1 0, 4096, .inl (nIf popN)))]) dX9_term_1 ml_X9_167 mX9_factor (ct_fr_1 κ.2.1 g aN aNs aNk aNf aNr aNp aNb aNa aNt aNbo aNsz aNnu aNl aNal aNlo aNw aNtr aNis aNbg aNow nts nta nac nkp ntp nnw nsn nwn gr wk lk sz br z ru ki ma bb hd ce tb b n L p (ht) (by omega) (hn) (hb) (hp) (hwk) (hlat)) [0, 1, 2, 3, 4, 5] rfl rfl 0 rfl rfl rfl (Nat.le_of_ble_eq_true rfl) (by decide) (Nat.le_refl _) (Nat.le_refl _) (rfl : [aN, aNs, aNt, aNa, aNr, aNb] = [aN, aNs, aNt, aNa, aNr, aNb]) rfl ?_
  have hk0 := frL_ok (nv := nmI wk L p) (okH_hB b n) 1 nta ha
  refine x_istore_n (lv' := [some (.ref aN), some (.int ((frL (hB b n) (nmI wk L p) 1 nta).2.2))]) dX9_term_4 (xlt rfl) rfl ?_
  have L5_1 : ∀ (i : Nat), i ≤ 60 → ∀ (qa : Nat), ∀ (qb : Bool), ∀ (qv : Int32), (qa, qb, qv) = itr (tmS (hB b n) (frL (hB b n) (nmI wk L p) 1)) i (frL (hB b n) (nmI wk L p) 1 nta) → qa ≤ n → i ≤ qa → Xs κ g 11 0 0 cX9_term yX9_term (some .int) Q 0 0 5 [some (.ref aN), some (.int qv)] [] [(aN, .inr (9, [.ref aNs, .ref aNk, .int nkp, .ref aNf, .ref aNr, .ref aNp, .ref aNb, .ref aNa, .ref aNt, .int (nI nts), .ref aNbo, .ref aNsz, .ref aNnu, .int (nI qa), .int 3, .int (bI qb), .int ntp, .int (nI p), .int nnw, .int nsn, .int nwn, .ref aNl, .ref aNal, .ref aNlo, .int (nI nac), .ref aNw, .ref aNtr, .ref aNis, .ref aNbg, .ref aNow])), (aNs, .inl (g.2.1 0, 919, .inl (msF gr wk z lk sz br ru ki ma bb ce hd))), (aNt, .inl (g.2.1 0, 60, .inl (nIf tb))), (aNa, .inl (g.2.1 0, 2475, .inl (nIf fcN))), (aNr, .inl (g.2.1 0, 495, .inl (nIf rowB))), (aNb, .inl (g.2.1 0, 4096, .inl (nIf popN)))] := by
    refine upTo 60 (fun i hi5 ih5 => ?_)
    intro qa
    intro qb
    intro qv
    intro hqq hqa hqi
    refine x_aload_n dX9_term_5 rfl ?_
    rcases tk_cases qb (hB b n) qa 42 with ⟨rfl, hq2⟩ | ⟨rfl, hq2⟩ | rfl
    · skip
      refine x_eq (lv' := [some (.ref aN), some (.int qv)]) (st' := [.ref aN]) (ws' := [(aN, .inr (9, [.ref aNs, .ref aNk, .int nkp, .ref aNf, .ref aNr, .ref aNp, .ref aNb, .ref aNa, .ref aNt, .int (nI nts), .ref aNbo, .ref aNsz, .ref aNnu, .int (nI qa), .int 3, .int 0, .int ntp, .int (nI p), .int nnw, .int nsn, .int nwn, .ref aNl, .ref aNal, .ref aNlo, .int (nI nac), .ref aNw, .ref aNtr, .ref aNis, .ref aNbg, .ref aNow])), (aNs, .inl (g.2.1 0, 919, .inl (msF gr wk z lk sz br ru ki ma bb ce hd))), (aNt, .inl (g.2.1 0, 60, .inl (nIf tb))), (aNa, .inl (g.2.1 0, 2475, .inl (nIf fcN))), (aNr, .inl (g.2.1 0, 495, .inl (nIf rowB))), (aNb, .inl (g.2.1 0, 4096, .inl (nIf popN)))]) ?_ rfl rfl rfl
      refine x_bipush 42 dX9_term_6 (by decide) ?_
      refine x_cVi (ws' := [(aN, .inr (9, [.ref aNs, .ref aNk, .int nkp, .ref aNf, .ref aNr, .ref aNp, .ref aNb, .ref aNa, .ref aNt, .int (nI nts), .ref aNbo, .ref aNsz, .ref aNnu, .int (nI (qa + 1)), .int 3, .int 0, .int ntp, .int (nI p), .int nnw, .int nsn, .int nwn, .ref aNl, .ref aNal, .ref aNlo, .int (nI nac), .ref aNw, .ref aNtr, .ref aNis, .ref aNbg, .ref aNow])), (aNs, .inl (g.2.1 0, 919, .inl (msF gr wk z lk sz br ru ki ma bb ce hd))), (aNt, .inl (g.2.1 0, 60, .inl (nIf tb))), (aNa, .inl (g.2.1 0, 2475, .inl (nIf fcN))), (aNr, .inl (g.2.1 0, 495, .inl (nIf rowB))), (aNb, .inl (g.2.1 0, 4096, .inl (nIf popN)))]) dX9_term_8 ml_X9_141 mX9_takes (ct_takes_y κ.2.1 g aN aNs aNk aNf aNr aNp aNb aNa aNt aNbo aNsz aNnu aNl aNal aNlo aNw aNtr aNis aNbg aNow nts qa 3 p nac nkp ntp nnw nsn nwn gr wk lk sz br z ru ki ma bb hd ce tb b n 42 (ht) (by omega) (hn) (hb) (by decide) (hq2)) [0, 1, 2] rfl rfl 0 rfl rfl rfl (Nat.le_of_ble_eq_true rfl) (by decide) (Nat.le_refl _) (Nat.le_refl _) (rfl : [aN, aNs, aNt] = [aN, aNs, aNt]) rfl ?_
      refine x_if_eq dX9_term_11 (fun c11 => ?_) (fun c11 => ?_)
      · exact absurd c11 (by decide)
      refine x_iload_n dX9_term_14 rfl ?_
      have hav := adv_le (okH_hB b n) hq2 (by decide)
      refine x_aload_n dX9_term_15 rfl ?_
      refine x_cVi (ws' := [(aN, .inr (9, [.ref aNs, .ref aNk, .int nkp, .ref aNf, .ref aNr, .ref aNp, .ref aNb, .ref aNa, .ref aNt, .int (nI nts), .ref aNbo, .ref aNsz, .ref aNnu, .int (nI ((frL (hB b n) (nmI wk L p) 1 (qa + 1)).1)), .int 3, .int (bI (frL (hB b n) (nmI wk L p) 1 (qa + 1)).2.1), .int ntp, .int (nI p), .int nnw, .int nsn, .int nwn, .ref aNl, .ref aNal, .ref aNlo, .int (nI nac), .ref aNw, .ref aNtr, .ref aNis, .ref aNbg, .ref aNow])), (aNs, .inl (g.2.1 0, 919, .inl (msF gr wk z lk sz br ru ki ma bb ce hd))), (aNt, .inl (g.2.1 0, 60, .inl (nIf tb))), (aNa, .inl (g.2.1 0, 2475, .inl (nIf fcN))), (aNr, .inl (g.2.1 0, 495, .inl (nIf rowB))), (aNb, .inl (g.2.1 0, 4096, .inl (nIf popN)))]) dX9_term_16 ml_X9_167 mX9_factor (ct_fr_1 κ.2.1 g aN aNs aNk aNf aNr aNp aNb aNa aNt aNbo aNsz aNnu aNl aNal aNlo aNw aNtr aNis aNbg aNow nts (qa + 1) nac nkp ntp nnw nsn nwn gr wk lk sz br z ru ki ma bb hd ce tb b n L p (ht) (by omega) (hn) (hb) (hp) (hwk) (hlat)) [0, 1, 2, 3, 4, 5] rfl rfl 0 rfl rfl rfl (Nat.le_of_ble_eq_true rfl) (by decide) (Nat.le_refl _) (Nat.le_refl _) (rfl : [aN, aNs, aNt, aNa, aNr, aNb] = [aN, aNs, aNt, aNa, aNr, aNb]) rfl ?_
      have hk := frL_ok (nv := nmI wk L p) (okH_hB b n) 1 (qa + 1) hav
      refine x_imul dX9_term_19 ?_
      refine x_istore_n (lv' := [some (.ref aN), some (.int (qv * ((frL (hB b n) (nmI wk L p) 1 (qa + 1)).2.2)))]) dX9_term_20 (xlt rfl) rfl ?_
      refine x_goto dX9_term_21 ?_
      exact ih5 (by omega) ((frL (hB b n) (nmI wk L p) 1 (qa + 1)).1) ((frL (hB b n) (nmI wk L p) 1 (qa + 1)).2.1) _ (by rw [itr, ← hqq]; simp only [tmS, hq2]; rfl) (hk.2) (by have := hk.1; omega)
    · skip
      refine x_eq (lv' := [some (.ref aN), some (.int qv)]) (st' := [.ref aN]) (ws' := [(aN, .inr (9, [.ref aNs, .ref aNk, .int nkp, .ref aNf, .ref aNr, .ref aNp, .ref aNb, .ref aNa, .ref aNt, .int (nI nts), .ref aNbo, .ref aNsz, .ref aNnu, .int (nI qa), .int 3, .int 0, .int ntp, .int (nI p), .int nnw, .int nsn, .int nwn, .ref aNl, .ref aNal, .ref aNlo, .int (nI nac), .ref aNw, .ref aNtr, .ref aNis, .ref aNbg, .ref aNow])), (aNs, .inl (g.2.1 0, 919, .inl (msF gr wk z lk sz br ru ki ma bb ce hd))), (aNt, .inl (g.2.1 0, 60, .inl (nIf tb))), (aNa, .inl (g.2.1 0, 2475, .inl (nIf fcN))), (aNr, .inl (g.2.1 0, 495, .inl (nIf rowB))), (aNb, .inl (g.2.1 0, 4096, .inl (nIf popN)))]) ?_ rfl rfl rfl
      refine x_bipush 42 dX9_term_6 (by decide) ?_
      refine x_cVi0 dX9_term_8 ml_X9_141 mX9_takes (ct_takes_n κ.2.1 g aN aNs aNk aNf aNr aNp aNb aNa aNt aNbo aNsz aNnu aNl aNal aNlo aNw aNtr aNis aNbg aNow nts qa 3 p nac nkp ntp nnw nsn nwn gr wk lk sz br z ru ki ma bb hd ce tb b n 42 (ht) (by omega) (hn) (hb) (by decide) (hq2)) [0, 1, 2] rfl rfl 0 rfl rfl rfl (Nat.le_of_ble_eq_true rfl) (by decide) (Nat.le_refl _) (Nat.le_refl _) ?_
      refine x_if_eq dX9_term_11 (fun c11 => ?_) (fun c11 => ?_)
      rotate_left
      · exact absurd c11 (by decide)
      refine x_iload_n dX9_term_24 rfl ?_
      rw [← hQ]
      refine x_iret dX9_term_25 rfl (Nat.le_of_ble_eq_true rfl) (Nat.le_of_ble_eq_true rfl) ?_
      first | (rw [show trL (hB b n) (nmI wk L p) 1 nta = (qa, true, qv) from itr_fix hqq rfl hi5]; exact ⟨rfl, rfl⟩) | (rw [show trL (hB b n) (nmI wk L p) 1 nta = (qa, false, qv) from itr_fix hqq (by simp [tmS, hq2]) hi5]; exact ⟨rfl, rfl⟩)
    · skip
      refine x_eq (lv' := [some (.ref aN), some (.int qv)]) (st' := [.ref aN]) (ws' := [(aN, .inr (9, [.ref aNs, .ref aNk, .int nkp, .ref aNf, .ref aNr, .ref aNp, .ref aNb, .ref aNa, .ref aNt, .int (nI nts), .ref aNbo, .ref aNsz, .ref aNnu, .int (nI qa), .int 3, .int 1, .int ntp, .int (nI p), .int nnw, .int nsn, .int nwn, .ref aNl, .ref aNal, .ref aNlo, .int (nI nac), .ref aNw, .ref aNtr, .ref aNis, .ref aNbg, .ref aNow])), (aNs, .inl (g.2.1 0, 919, .inl (msF gr wk z lk sz br ru ki ma bb ce hd))), (aNt, .inl (g.2.1 0, 60, .inl (nIf tb))), (aNa, .inl (g.2.1 0, 2475, .inl (nIf fcN))), (aNr, .inl (g.2.1 0, 495, .inl (nIf rowB))), (aNb, .inl (g.2.1 0, 4096, .inl (nIf popN)))]) ?_ rfl rfl rfl
      refine x_bipush 42 dX9_term_6 (by decide) ?_
      refine x_cVi0 dX9_term_8 ml_X9_141 mX9_takes (ct_takes_b κ.2.1 g aN aNs aNk aNf aNr aNp aNb aNa aNt aNbo aNsz aNnu aNl aNal aNlo aNw aNtr aNis aNbg aNow nts qa 3 p nac nkp ntp nnw nsn nwn gr wk lk sz br z ru ki ma bb hd ce tb 42) [0, 1, 2] rfl rfl 0 rfl rfl rfl (Nat.le_of_ble_eq_true rfl) (by decide) (Nat.le_refl _) (Nat.le_refl _) ?_
      refine x_if_eq dX9_term_11 (fun c11 => ?_) (fun c11 => ?_)
      rotate_left
      · exact absurd c11 (by decide)
      refine x_iload_n dX9_term_24 rfl ?_
      rw [← hQ]
      refine x_iret dX9_term_25 rfl (Nat.le_of_ble_eq_true rfl) (Nat.le_of_ble_eq_true rfl) ?_
      first | (rw [show trL (hB b n) (nmI wk L p) 1 nta = (qa, true, qv) from itr_fix hqq rfl hi5]; exact ⟨rfl, rfl⟩) | (rw [show trL (hB b n) (nmI wk L p) 1 nta = (qa, false, qv) from itr_fix hqq (by simp [tmS, hq2]) hi5]; exact ⟨rfl, rfl⟩)
  exact L5_1 0 (Nat.zero_le _) ((frL (hB b n) (nmI wk L p) 1 nta).1) ((frL (hB b n) (nmI wk L p) 1 nta).2.1) _ (rfl) (hk0.2) (Nat.zero_le _)

-- == sr_1 ==
set_option maxRecDepth 100000 in
set_option maxHeartbeats 4000000 in
theorem ct_sr_1 (l : Launch) (g : XG) (aN aNs aNk aNf aNr aNp aNb aNa aNt aNbo aNsz aNnu aNl aNal aNlo aNw aNtr aNis aNbg aNow nts nta nac : Nat) (nkp ntp nnw nsn nwn : Int32) (gr wk lk sz br : Nat) (z : Int32) (ru ki ma bb hd : Nat → Nat) (ce : Nat → Int32) (tb b : Nat → Nat) (n L p : Nat) (ht : (ntp = 1 ∧ n = nts ∧ b = tb) ∨ (ntp = 0 ∧ n = sz ∧ b = bb)) (ha : nta ≤ n) (hn : n ≤ 60) (hb : ∀ j, b j < 256) (hp : p < 495) (hwk : wk ≤ 40) (hlat : latI ce wk = nI L) : Ct l g 12 0 0 yX9_sum cX9_sum 5 (some .int) [.ref aN] [(aN, .inr (9, [.ref aNs, .ref aNk, .int nkp, .ref aNf, .ref aNr, .ref aNp, .ref aNb, .ref aNa, .ref aNt, .int (nI nts), .ref aNbo, .ref aNsz, .ref aNnu, .int (nI nta), .int 3, .int 0, .int ntp, .int (nI p), .int nnw, .int nsn, .int nwn, .ref aNl, .ref aNal, .ref aNlo, .int (nI nac), .ref aNw, .ref aNtr, .ref aNis, .ref aNbg, .ref aNow])), (aNs, .inl (g.2.1 0, 919, .inl (msF gr wk z lk sz br ru ki ma bb ce hd))), (aNt, .inl (g.2.1 0, 60, .inl (nIf tb))), (aNa, .inl (g.2.1 0, 2475, .inl (nIf fcN))), (aNr, .inl (g.2.1 0, 495, .inl (nIf rowB))), (aNb, .inl (g.2.1 0, 4096, .inl (nIf popN)))] (xpi ((srL (hB b n) (nmI wk L p) 1 nta).2.2) [(aN, .inr (9, [.ref aNs, .ref aNk, .int nkp, .ref aNf, .ref aNr, .ref aNp, .ref aNb, .ref aNa, .ref aNt, .int (nI nts), .ref aNbo, .ref aNsz, .ref aNnu, .int (nI ((srL (hB b n) (nmI wk L p) 1 nta).1)), .int 3, .int (bI (srL (hB b n) (nmI wk L p) 1 nta).2.1), .int ntp, .int (nI p), .int nnw, .int nsn, .int nwn, .ref aNl, .ref aNal, .ref aNlo, .int (nI nac), .ref aNw, .ref aNtr, .ref aNis, .ref aNbg, .ref aNow])), (aNs, .inl (g.2.1 0, 919, .inl (msF gr wk z lk sz br ru ki ma bb ce hd))), (aNt, .inl (g.2.1 0, 60, .inl (nIf tb))), (aNa, .inl (g.2.1 0, 2475, .inl (nIf fcN))), (aNr, .inl (g.2.1 0, 495, .inl (nIf rowB))), (aNb, .inl (g.2.1 0, 4096, .inl (nIf popN)))]) := by
  refine Ct.ofX (lv := [some (.ref aN), none, none, none, none]) (by decide) rfl (Nat.le_of_ble_eq_true rfl) (fun κ => ?_)
  generalize hQ : xQ κ g 0 0 _ = Q
  refine x_aload_n dX9_sum_0 rfl ?_
  refine x_cVi (ws' := [(aN, .inr (9, [.ref aNs, .ref aNk, .int nkp, .ref aNf, .ref aNr, .ref aNp, .ref aNb, .ref aNa, .ref aNt, .int (nI nts), .ref aNbo, .ref aNsz, .ref aNnu, .int (nI ((trL (hB b n) (nmI wk L p) 1 nta).1)), .int 3, .int (bI (trL (hB b n) (nmI wk L p) 1 nta).2.1), .int ntp, .int (nI p), .int nnw, .int nsn, .int nwn, .ref aNl, .ref aNal, .ref aNlo, .int (nI nac), .ref aNw, .ref aNtr, .ref aNis, .ref aNbg, .ref aNow])), (aNs, .inl (g.2.1 0, 919, .inl (msF gr wk z lk sz br ru ki ma bb ce hd))), (aNt, .inl (g.2.1 0, 60, .inl (nIf tb))), (aNa, .inl (g.2.1 0, 2475, .inl (nIf fcN))), (aNr, .inl (g.2.1 0, 495, .inl (nIf rowB))), (aNb, .inl (g.2.1 0, 4096, .inl (nIf popN)))]) dX9_sum_1 ml_X9_170 mX9_term (ct_tr_1 κ.2.1 g aN aNs aNk aNf aNr aNp aNb aNa aNt aNbo aNsz aNnu aNl aNal aNlo aNw aNtr aNis aNbg aNow nts nta nac nkp ntp nnw nsn nwn gr wk lk sz br z ru ki ma bb hd ce tb b n L p (ht) (by omega) (hn) (hb) (hp) (hwk) (hlat)) [0, 1, 2, 3, 4, 5] rfl rfl 0 rfl rfl rfl (Nat.le_of_ble_eq_true rfl) (by decide) (Nat.le_refl _) (Nat.le_refl _) (rfl : [aN, aNs, aNt, aNa, aNr, aNb] = [aN, aNs, aNt, aNa, aNr, aNb]) rfl ?_
  have hk0 := trL_ok (nv := nmI wk L p) (okH_hB b n) 1 nta ha
  refine x_istore_n (lv' := [some (.ref aN), some (.int ((trL (hB b n) (nmI wk L p) 1 nta).2.2)), none, none, none]) dX9_sum_4 (xlt rfl) rfl ?_
  refine x_iconst 1 dX9_sum_5 (by decide) ?_
  refine x_istore_n (lv' := [some (.ref aN), some (.int ((trL (hB b n) (nmI wk L p) 1 nta).2.2)), some (.int 1), none, none]) dX9_sum_6 (xlt rfl) rfl ?_
  have L7_1 : ∀ (i : Nat), i ≤ 60 → ∀ (qa : Nat), ∀ (qb : Bool), ∀ (qv : Int32), (qa, qb, qv) = itr (snS (hB b n) (trL (hB b n) (nmI wk L p) 1)) i (trL (hB b n) (nmI wk L p) 1 nta) → qa ≤ n → i ≤ qa → Xs κ g 12 0 0 cX9_sum yX9_sum (some .int) Q 0 0 7 [some (.ref aN), some (.int qv), some (.int 1), none, none] [] [(aN, .inr (9, [.ref aNs, .ref aNk, .int nkp, .ref aNf, .ref aNr, .ref aNp, .ref aNb, .ref aNa, .ref aNt, .int (nI nts), .ref aNbo, .ref aNsz, .ref aNnu, .int (nI qa), .int 3, .int (bI qb), .int ntp, .int (nI p), .int nnw, .int nsn, .int nwn, .ref aNl, .ref aNal, .ref aNlo, .int (nI nac), .ref aNw, .ref aNtr, .ref aNis, .ref aNbg, .ref aNow])), (aNs, .inl (g.2.1 0, 919, .inl (msF gr wk z lk sz br ru ki ma bb ce hd))), (aNt, .inl (g.2.1 0, 60, .inl (nIf tb))), (aNa, .inl (g.2.1 0, 2475, .inl (nIf fcN))), (aNr, .inl (g.2.1 0, 495, .inl (nIf rowB))), (aNb, .inl (g.2.1 0, 4096, .inl (nIf popN)))] := by
    refine upTo 60 (fun i hi7 ih7 => ?_)
    intro qa
    intro qb
    intro qv
    intro hqq hqa hqi
    refine x_iload_n dX9_sum_7 rfl ?_
    refine x_if_eq dX9_sum_8 (fun c8 => ?_) (fun c8 => ?_)
    · exact absurd c8 (by decide)
    rcases sm_cases qb (hB b n) qa with ⟨rfl, hq2⟩ | ⟨rfl, hq2, hq3⟩ | ⟨rfl, hq2, hq3⟩ | rfl
    · skip
      refine x_eq (lv' := [some (.ref aN), some (.int qv), some (.int 1), none, none]) (st' := []) (ws' := [(aN, .inr (9, [.ref aNs, .ref aNk, .int nkp, .ref aNf, .ref aNr, .ref aNp, .ref aNb, .ref aNa, .ref aNt, .int (nI nts), .ref aNbo, .ref aNsz, .ref aNnu, .int (nI qa), .int 3, .int 0, .int ntp, .int (nI p), .int nnw, .int nsn, .int nwn, .ref aNl, .ref aNal, .ref aNlo, .int (nI nac), .ref aNw, .ref aNtr, .ref aNis, .ref aNbg, .ref aNow])), (aNs, .inl (g.2.1 0, 919, .inl (msF gr wk z lk sz br ru ki ma bb ce hd))), (aNt, .inl (g.2.1 0, 60, .inl (nIf tb))), (aNa, .inl (g.2.1 0, 2475, .inl (nIf fcN))), (aNr, .inl (g.2.1 0, 495, .inl (nIf rowB))), (aNb, .inl (g.2.1 0, 4096, .inl (nIf popN)))]) ?_ rfl rfl rfl
      refine x_aload_n dX9_sum_11 rfl ?_
      refine x_bipush 43 dX9_sum_12 (by decide) ?_
      refine x_cVi (ws' := [(aN, .inr (9, [.ref aNs, .ref aNk, .int nkp, .ref aNf, .ref aNr, .ref aNp, .ref aNb, .ref aNa, .ref aNt, .int (nI nts), .ref aNbo, .ref aNsz, .ref aNnu, .int (nI (qa + 1)), .int 3, .int 0, .int ntp, .int (nI p), .int nnw, .int nsn, .int nwn, .ref aNl, .ref aNal, .ref aNlo, .int (nI nac), .ref aNw, .ref aNtr, .ref aNis, .ref aNbg, .ref aNow])), (aNs, .inl (g.2.1 0, 919, .inl (msF gr wk z lk sz br ru ki ma bb ce hd))), (aNt, .inl (g.2.1 0, 60, .inl (nIf tb))), (aNa, .inl (g.2.1 0, 2475, .inl (nIf fcN))), (aNr, .inl (g.2.1 0, 495, .inl (nIf rowB))), (aNb, .inl (g.2.1 0, 4096, .inl (nIf popN)))]) dX9_sum_14 ml_X9_141 mX9_takes (ct_takes_y κ.2.1 g aN aNs aNk aNf aNr aNp aNb aNa aNt aNbo aNsz aNnu aNl aNal aNlo aNw aNtr aNis aNbg aNow nts qa 3 p nac nkp ntp nnw nsn nwn gr wk lk sz br z ru ki ma bb hd ce tb b n 43 (ht) (by omega) (hn) (hb) (by decide) (hq2)) [0, 1, 2] rfl rfl 0 rfl rfl rfl (Nat.le_of_ble_eq_true rfl) (by decide) (Nat.le_refl _) (Nat.le_refl _) (rfl : [aN, aNs, aNt] = [aN, aNs, aNt]) rfl ?_
      refine x_istore_n (lv' := [some (.ref aN), some (.int qv), some (.int 1), some (.int 1), none]) dX9_sum_17 (xlt rfl) rfl ?_
      refine x_iload_n dX9_sum_18 rfl ?_
      refine x_if_ne dX9_sum_19 (fun c19 => ?_) (fun c19 => ?_)
      rotate_left
      · exact absurd c19 (by decide)
      refine x_iconst 1 dX9_sum_31 (by decide) ?_
      refine x_goto dX9_sum_32 ?_
      refine x_istore_n (lv' := [some (.ref aN), some (.int qv), some (.int 1), some (.int 1), none]) dX9_sum_36 (xlt rfl) rfl ?_
      refine x_iload_n dX9_sum_37 rfl ?_
      refine x_if_eq dX9_sum_38 (fun c38 => ?_) (fun c38 => ?_)
      · exact absurd c38 (by decide)
      have hav : qa + 1 ≤ n := by first | exact adv_le (okH_hB b n) hq2 (by decide) | exact adv_le (okH_hB b n) hq3 (by decide)
      refine x_aload_n dX9_sum_41 rfl ?_
      refine x_cVi (ws' := [(aN, .inr (9, [.ref aNs, .ref aNk, .int nkp, .ref aNf, .ref aNr, .ref aNp, .ref aNb, .ref aNa, .ref aNt, .int (nI nts), .ref aNbo, .ref aNsz, .ref aNnu, .int (nI ((trL (hB b n) (nmI wk L p) 1 (qa + 1)).1)), .int 3, .int (bI (trL (hB b n) (nmI wk L p) 1 (qa + 1)).2.1), .int ntp, .int (nI p), .int nnw, .int nsn, .int nwn, .ref aNl, .ref aNal, .ref aNlo, .int (nI nac), .ref aNw, .ref aNtr, .ref aNis, .ref aNbg, .ref aNow])), (aNs, .inl (g.2.1 0, 919, .inl (msF gr wk z lk sz br ru ki ma bb ce hd))), (aNt, .inl (g.2.1 0, 60, .inl (nIf tb))), (aNa, .inl (g.2.1 0, 2475, .inl (nIf fcN))), (aNr, .inl (g.2.1 0, 495, .inl (nIf rowB))), (aNb, .inl (g.2.1 0, 4096, .inl (nIf popN)))]) dX9_sum_42 ml_X9_170 mX9_term (ct_tr_1 κ.2.1 g aN aNs aNk aNf aNr aNp aNb aNa aNt aNbo aNsz aNnu aNl aNal aNlo aNw aNtr aNis aNbg aNow nts (qa + 1) nac nkp ntp nnw nsn nwn gr wk lk sz br z ru ki ma bb hd ce tb b n L p (ht) (by omega) (hn) (hb) (hp) (hwk) (hlat)) [0, 1, 2, 3, 4, 5] rfl rfl 0 rfl rfl rfl (Nat.le_of_ble_eq_true rfl) (by decide) (Nat.le_refl _) (Nat.le_refl _) (rfl : [aN, aNs, aNt, aNa, aNr, aNb] = [aN, aNs, aNt, aNa, aNr, aNb]) rfl ?_
      have hk := trL_ok (nv := nmI wk L p) (okH_hB b n) 1 (qa + 1) hav
      refine x_istore (lv' := [some (.ref aN), some (.int qv), some (.int 1), some (.int 1), some (.int ((trL (hB b n) (nmI wk L p) 1 (qa + 1)).2.2))]) dX9_sum_45 (xlt rfl) rfl ?_
      refine x_iload_n dX9_sum_47 rfl ?_
      refine x_if_eq dX9_sum_48 (fun c48 => ?_) (fun c48 => ?_)
      · exact absurd c48 (by decide)
      refine x_iload_n dX9_sum_51 rfl ?_
      refine x_iload dX9_sum_52 rfl ?_
      refine x_iadd dX9_sum_54 ?_
      refine x_goto dX9_sum_55 ?_
      refine x_istore_n (lv' := [some (.ref aN), some (.int (qv + ((trL (hB b n) (nmI wk L p) 1 (qa + 1)).2.2))), some (.int 1), some (.int 1), some (.int ((trL (hB b n) (nmI wk L p) 1 (qa + 1)).2.2))]) dX9_sum_62 (xlt rfl) rfl ?_
      refine x_goto dX9_sum_63 ?_
      refine x_fgt (lv' := [some (.ref aN), some (.int (qv + ((trL (hB b n) (nmI wk L p) 1 (qa + 1)).2.2))), some (.int 1), none, none]) ⟨Or.inr rfl, Or.inr rfl, Or.inr rfl, Or.inl rfl, Or.inl rfl, trivial⟩ ?_
      exact ih7 (by omega) ((trL (hB b n) (nmI wk L p) 1 (qa + 1)).1) ((trL (hB b n) (nmI wk L p) 1 (qa + 1)).2.1) _ (by rw [itr, ← hqq]; simp only [snS, hq2]; rfl) (hk.2) (by have := hk.1; omega)
    · skip
      refine x_eq (lv' := [some (.ref aN), some (.int qv), some (.int 1), none, none]) (st' := []) (ws' := [(aN, .inr (9, [.ref aNs, .ref aNk, .int nkp, .ref aNf, .ref aNr, .ref aNp, .ref aNb, .ref aNa, .ref aNt, .int (nI nts), .ref aNbo, .ref aNsz, .ref aNnu, .int (nI qa), .int 3, .int 0, .int ntp, .int (nI p), .int nnw, .int nsn, .int nwn, .ref aNl, .ref aNal, .ref aNlo, .int (nI nac), .ref aNw, .ref aNtr, .ref aNis, .ref aNbg, .ref aNow])), (aNs, .inl (g.2.1 0, 919, .inl (msF gr wk z lk sz br ru ki ma bb ce hd))), (aNt, .inl (g.2.1 0, 60, .inl (nIf tb))), (aNa, .inl (g.2.1 0, 2475, .inl (nIf fcN))), (aNr, .inl (g.2.1 0, 495, .inl (nIf rowB))), (aNb, .inl (g.2.1 0, 4096, .inl (nIf popN)))]) ?_ rfl rfl rfl
      refine x_aload_n dX9_sum_11 rfl ?_
      refine x_bipush 43 dX9_sum_12 (by decide) ?_
      refine x_cVi0 dX9_sum_14 ml_X9_141 mX9_takes (ct_takes_n κ.2.1 g aN aNs aNk aNf aNr aNp aNb aNa aNt aNbo aNsz aNnu aNl aNal aNlo aNw aNtr aNis aNbg aNow nts qa 3 p nac nkp ntp nnw nsn nwn gr wk lk sz br z ru ki ma bb hd ce tb b n 43 (ht) (by omega) (hn) (hb) (by decide) (hq2)) [0, 1, 2] rfl rfl 0 rfl rfl rfl (Nat.le_of_ble_eq_true rfl) (by decide) (Nat.le_refl _) (Nat.le_refl _) ?_
      refine x_istore_n (lv' := [some (.ref aN), some (.int qv), some (.int 1), some (.int 0), none]) dX9_sum_17 (xlt rfl) rfl ?_
      refine x_iload_n dX9_sum_18 rfl ?_
      refine x_if_ne dX9_sum_19 (fun c19 => ?_) (fun c19 => ?_)
      · exact absurd c19 (by decide)
      refine x_aload_n dX9_sum_22 rfl ?_
      refine x_bipush 45 dX9_sum_23 (by decide) ?_
      refine x_cVi (ws' := [(aN, .inr (9, [.ref aNs, .ref aNk, .int nkp, .ref aNf, .ref aNr, .ref aNp, .ref aNb, .ref aNa, .ref aNt, .int (nI nts), .ref aNbo, .ref aNsz, .ref aNnu, .int (nI (qa + 1)), .int 3, .int 0, .int ntp, .int (nI p), .int nnw, .int nsn, .int nwn, .ref aNl, .ref aNal, .ref aNlo, .int (nI nac), .ref aNw, .ref aNtr, .ref aNis, .ref aNbg, .ref aNow])), (aNs, .inl (g.2.1 0, 919, .inl (msF gr wk z lk sz br ru ki ma bb ce hd))), (aNt, .inl (g.2.1 0, 60, .inl (nIf tb))), (aNa, .inl (g.2.1 0, 2475, .inl (nIf fcN))), (aNr, .inl (g.2.1 0, 495, .inl (nIf rowB))), (aNb, .inl (g.2.1 0, 4096, .inl (nIf popN)))]) dX9_sum_25 ml_X9_141 mX9_takes (ct_takes_y κ.2.1 g aN aNs aNk aNf aNr aNp aNb aNa aNt aNbo aNsz aNnu aNl aNal aNlo aNw aNtr aNis aNbg aNow nts qa 3 p nac nkp ntp nnw nsn nwn gr wk lk sz br z ru ki ma bb hd ce tb b n 45 (ht) (by omega) (hn) (hb) (by decide) (hq3)) [0, 1, 2] rfl rfl 0 rfl rfl rfl (Nat.le_of_ble_eq_true rfl) (by decide) (Nat.le_refl _) (Nat.le_refl _) (rfl : [aN, aNs, aNt] = [aN, aNs, aNt]) rfl ?_
      refine x_if_eq dX9_sum_28 (fun c28 => ?_) (fun c28 => ?_)
      · exact absurd c28 (by decide)
      refine x_iconst 1 dX9_sum_31 (by decide) ?_
      refine x_goto dX9_sum_32 ?_
      refine x_istore_n (lv' := [some (.ref aN), some (.int qv), some (.int 1), some (.int 0), none]) dX9_sum_36 (xlt rfl) rfl ?_
      refine x_iload_n dX9_sum_37 rfl ?_
      refine x_if_eq dX9_sum_38 (fun c38 => ?_) (fun c38 => ?_)
      · exact absurd c38 (by decide)
      have hav : qa + 1 ≤ n := by first | exact adv_le (okH_hB b n) hq2 (by decide) | exact adv_le (okH_hB b n) hq3 (by decide)
      refine x_aload_n dX9_sum_41 rfl ?_
      refine x_cVi (ws' := [(aN, .inr (9, [.ref aNs, .ref aNk, .int nkp, .ref aNf, .ref aNr, .ref aNp, .ref aNb, .ref aNa, .ref aNt, .int (nI nts), .ref aNbo, .ref aNsz, .ref aNnu, .int (nI ((trL (hB b n) (nmI wk L p) 1 (qa + 1)).1)), .int 3, .int (bI (trL (hB b n) (nmI wk L p) 1 (qa + 1)).2.1), .int ntp, .int (nI p), .int nnw, .int nsn, .int nwn, .ref aNl, .ref aNal, .ref aNlo, .int (nI nac), .ref aNw, .ref aNtr, .ref aNis, .ref aNbg, .ref aNow])), (aNs, .inl (g.2.1 0, 919, .inl (msF gr wk z lk sz br ru ki ma bb ce hd))), (aNt, .inl (g.2.1 0, 60, .inl (nIf tb))), (aNa, .inl (g.2.1 0, 2475, .inl (nIf fcN))), (aNr, .inl (g.2.1 0, 495, .inl (nIf rowB))), (aNb, .inl (g.2.1 0, 4096, .inl (nIf popN)))]) dX9_sum_42 ml_X9_170 mX9_term (ct_tr_1 κ.2.1 g aN aNs aNk aNf aNr aNp aNb aNa aNt aNbo aNsz aNnu aNl aNal aNlo aNw aNtr aNis aNbg aNow nts (qa + 1) nac nkp ntp nnw nsn nwn gr wk lk sz br z ru ki ma bb hd ce tb b n L p (ht) (by omega) (hn) (hb) (hp) (hwk) (hlat)) [0, 1, 2, 3, 4, 5] rfl rfl 0 rfl rfl rfl (Nat.le_of_ble_eq_true rfl) (by decide) (Nat.le_refl _) (Nat.le_refl _) (rfl : [aN, aNs, aNt, aNa, aNr, aNb] = [aN, aNs, aNt, aNa, aNr, aNb]) rfl ?_
      have hk := trL_ok (nv := nmI wk L p) (okH_hB b n) 1 (qa + 1) hav
      refine x_istore (lv' := [some (.ref aN), some (.int qv), some (.int 1), some (.int 0), some (.int ((trL (hB b n) (nmI wk L p) 1 (qa + 1)).2.2))]) dX9_sum_45 (xlt rfl) rfl ?_
      refine x_iload_n dX9_sum_47 rfl ?_
      refine x_if_eq dX9_sum_48 (fun c48 => ?_) (fun c48 => ?_)
      rotate_left
      · exact absurd c48 (by decide)
      refine x_iload_n dX9_sum_58 rfl ?_
      refine x_iload dX9_sum_59 rfl ?_
      refine x_isub dX9_sum_61 ?_
      refine x_istore_n (lv' := [some (.ref aN), some (.int (qv - ((trL (hB b n) (nmI wk L p) 1 (qa + 1)).2.2))), some (.int 1), some (.int 0), some (.int ((trL (hB b n) (nmI wk L p) 1 (qa + 1)).2.2))]) dX9_sum_62 (xlt rfl) rfl ?_
      refine x_goto dX9_sum_63 ?_
      refine x_fgt (lv' := [some (.ref aN), some (.int (qv - ((trL (hB b n) (nmI wk L p) 1 (qa + 1)).2.2))), some (.int 1), none, none]) ⟨Or.inr rfl, Or.inr rfl, Or.inr rfl, Or.inl rfl, Or.inl rfl, trivial⟩ ?_
      exact ih7 (by omega) ((trL (hB b n) (nmI wk L p) 1 (qa + 1)).1) ((trL (hB b n) (nmI wk L p) 1 (qa + 1)).2.1) _ (by rw [itr, ← hqq]; simp only [snS, hq2, hq3]; rfl) (hk.2) (by have := hk.1; omega)
    · skip
      refine x_eq (lv' := [some (.ref aN), some (.int qv), some (.int 1), none, none]) (st' := []) (ws' := [(aN, .inr (9, [.ref aNs, .ref aNk, .int nkp, .ref aNf, .ref aNr, .ref aNp, .ref aNb, .ref aNa, .ref aNt, .int (nI nts), .ref aNbo, .ref aNsz, .ref aNnu, .int (nI qa), .int 3, .int 0, .int ntp, .int (nI p), .int nnw, .int nsn, .int nwn, .ref aNl, .ref aNal, .ref aNlo, .int (nI nac), .ref aNw, .ref aNtr, .ref aNis, .ref aNbg, .ref aNow])), (aNs, .inl (g.2.1 0, 919, .inl (msF gr wk z lk sz br ru ki ma bb ce hd))), (aNt, .inl (g.2.1 0, 60, .inl (nIf tb))), (aNa, .inl (g.2.1 0, 2475, .inl (nIf fcN))), (aNr, .inl (g.2.1 0, 495, .inl (nIf rowB))), (aNb, .inl (g.2.1 0, 4096, .inl (nIf popN)))]) ?_ rfl rfl rfl
      refine x_aload_n dX9_sum_11 rfl ?_
      refine x_bipush 43 dX9_sum_12 (by decide) ?_
      refine x_cVi0 dX9_sum_14 ml_X9_141 mX9_takes (ct_takes_n κ.2.1 g aN aNs aNk aNf aNr aNp aNb aNa aNt aNbo aNsz aNnu aNl aNal aNlo aNw aNtr aNis aNbg aNow nts qa 3 p nac nkp ntp nnw nsn nwn gr wk lk sz br z ru ki ma bb hd ce tb b n 43 (ht) (by omega) (hn) (hb) (by decide) (hq2)) [0, 1, 2] rfl rfl 0 rfl rfl rfl (Nat.le_of_ble_eq_true rfl) (by decide) (Nat.le_refl _) (Nat.le_refl _) ?_
      refine x_istore_n (lv' := [some (.ref aN), some (.int qv), some (.int 1), some (.int 0), none]) dX9_sum_17 (xlt rfl) rfl ?_
      refine x_iload_n dX9_sum_18 rfl ?_
      refine x_if_ne dX9_sum_19 (fun c19 => ?_) (fun c19 => ?_)
      · exact absurd c19 (by decide)
      refine x_aload_n dX9_sum_22 rfl ?_
      refine x_bipush 45 dX9_sum_23 (by decide) ?_
      refine x_cVi0 dX9_sum_25 ml_X9_141 mX9_takes (ct_takes_n κ.2.1 g aN aNs aNk aNf aNr aNp aNb aNa aNt aNbo aNsz aNnu aNl aNal aNlo aNw aNtr aNis aNbg aNow nts qa 3 p nac nkp ntp nnw nsn nwn gr wk lk sz br z ru ki ma bb hd ce tb b n 45 (ht) (by omega) (hn) (hb) (by decide) (hq3)) [0, 1, 2] rfl rfl 0 rfl rfl rfl (Nat.le_of_ble_eq_true rfl) (by decide) (Nat.le_refl _) (Nat.le_refl _) ?_
      refine x_if_eq dX9_sum_28 (fun c28 => ?_) (fun c28 => ?_)
      rotate_left
      · exact absurd c28 (by decide)
      refine x_iconst 0 dX9_sum_35 (by decide) ?_
      refine x_istore_n (lv' := [some (.ref aN), some (.int qv), some (.int 0), some (.int 0), none]) dX9_sum_36 (xlt rfl) rfl ?_
      refine x_iload_n dX9_sum_37 rfl ?_
      refine x_if_eq dX9_sum_38 (fun c38 => ?_) (fun c38 => ?_)
      rotate_left
      · exact absurd c38 (by decide)
      refine x_goto dX9_sum_63 ?_
      refine x_iload_n dX9_sum_7 rfl ?_
      refine x_if_eq dX9_sum_8 (fun c8 => ?_) (fun c8 => ?_)
      rotate_left
      · exact absurd c8 (by decide)
      refine x_iload_n dX9_sum_66 rfl ?_
      rw [← hQ]
      refine x_iret dX9_sum_67 rfl (Nat.le_of_ble_eq_true rfl) (Nat.le_of_ble_eq_true rfl) ?_
      first | (rw [show srL (hB b n) (nmI wk L p) 1 nta = (qa, true, qv) from Eq.trans (congrFun (srL_eq (hB b n) (nmI wk L p) 1) nta) (itr_fix hqq rfl hi7)]; exact ⟨rfl, rfl⟩) | (rw [show srL (hB b n) (nmI wk L p) 1 nta = (qa, false, qv) from Eq.trans (congrFun (srL_eq (hB b n) (nmI wk L p) 1) nta) (itr_fix hqq (by simp [snS, hq2, hq3]) hi7)]; exact ⟨rfl, rfl⟩)
    · skip
      refine x_eq (lv' := [some (.ref aN), some (.int qv), some (.int 1), none, none]) (st' := []) (ws' := [(aN, .inr (9, [.ref aNs, .ref aNk, .int nkp, .ref aNf, .ref aNr, .ref aNp, .ref aNb, .ref aNa, .ref aNt, .int (nI nts), .ref aNbo, .ref aNsz, .ref aNnu, .int (nI qa), .int 3, .int 1, .int ntp, .int (nI p), .int nnw, .int nsn, .int nwn, .ref aNl, .ref aNal, .ref aNlo, .int (nI nac), .ref aNw, .ref aNtr, .ref aNis, .ref aNbg, .ref aNow])), (aNs, .inl (g.2.1 0, 919, .inl (msF gr wk z lk sz br ru ki ma bb ce hd))), (aNt, .inl (g.2.1 0, 60, .inl (nIf tb))), (aNa, .inl (g.2.1 0, 2475, .inl (nIf fcN))), (aNr, .inl (g.2.1 0, 495, .inl (nIf rowB))), (aNb, .inl (g.2.1 0, 4096, .inl (nIf popN)))]) ?_ rfl rfl rfl
      refine x_aload_n dX9_sum_11 rfl ?_
      refine x_bipush 43 dX9_sum_12 (by decide) ?_
      refine x_cVi0 dX9_sum_14 ml_X9_141 mX9_takes (ct_takes_b κ.2.1 g aN aNs aNk aNf aNr aNp aNb aNa aNt aNbo aNsz aNnu aNl aNal aNlo aNw aNtr aNis aNbg aNow nts qa 3 p nac nkp ntp nnw nsn nwn gr wk lk sz br z ru ki ma bb hd ce tb 43) [0, 1, 2] rfl rfl 0 rfl rfl rfl (Nat.le_of_ble_eq_true rfl) (by decide) (Nat.le_refl _) (Nat.le_refl _) ?_
      refine x_istore_n (lv' := [some (.ref aN), some (.int qv), some (.int 1), some (.int 0), none]) dX9_sum_17 (xlt rfl) rfl ?_
      refine x_iload_n dX9_sum_18 rfl ?_
      refine x_if_ne dX9_sum_19 (fun c19 => ?_) (fun c19 => ?_)
      · exact absurd c19 (by decide)
      refine x_aload_n dX9_sum_22 rfl ?_
      refine x_bipush 45 dX9_sum_23 (by decide) ?_
      refine x_cVi0 dX9_sum_25 ml_X9_141 mX9_takes (ct_takes_b κ.2.1 g aN aNs aNk aNf aNr aNp aNb aNa aNt aNbo aNsz aNnu aNl aNal aNlo aNw aNtr aNis aNbg aNow nts qa 3 p nac nkp ntp nnw nsn nwn gr wk lk sz br z ru ki ma bb hd ce tb 45) [0, 1, 2] rfl rfl 0 rfl rfl rfl (Nat.le_of_ble_eq_true rfl) (by decide) (Nat.le_refl _) (Nat.le_refl _) ?_
      refine x_if_eq dX9_sum_28 (fun c28 => ?_) (fun c28 => ?_)
      rotate_left
      · exact absurd c28 (by decide)
      refine x_iconst 0 dX9_sum_35 (by decide) ?_
      refine x_istore_n (lv' := [some (.ref aN), some (.int qv), some (.int 0), some (.int 0), none]) dX9_sum_36 (xlt rfl) rfl ?_
      refine x_iload_n dX9_sum_37 rfl ?_
      refine x_if_eq dX9_sum_38 (fun c38 => ?_) (fun c38 => ?_)
      rotate_left
      · exact absurd c38 (by decide)
      refine x_goto dX9_sum_63 ?_
      refine x_iload_n dX9_sum_7 rfl ?_
      refine x_if_eq dX9_sum_8 (fun c8 => ?_) (fun c8 => ?_)
      rotate_left
      · exact absurd c8 (by decide)
      refine x_iload_n dX9_sum_66 rfl ?_
      rw [← hQ]
      refine x_iret dX9_sum_67 rfl (Nat.le_of_ble_eq_true rfl) (Nat.le_of_ble_eq_true rfl) ?_
      first | (rw [show srL (hB b n) (nmI wk L p) 1 nta = (qa, true, qv) from Eq.trans (congrFun (srL_eq (hB b n) (nmI wk L p) 1) nta) (itr_fix hqq rfl hi7)]; exact ⟨rfl, rfl⟩) | (rw [show srL (hB b n) (nmI wk L p) 1 nta = (qa, false, qv) from Eq.trans (congrFun (srL_eq (hB b n) (nmI wk L p) 1) nta) (itr_fix hqq (by simp [snS, hq2, hq3]) hi7)]; exact ⟨rfl, rfl⟩)
  exact L7_1 0 (Nat.zero_le _) ((trL (hB b n) (nmI wk L p) 1 nta).1) ((trL (hB b n) (nmI wk L p) 1 nta).2.1) _ (rfl) (hk0.2) (Nat.zero_le _)

-- == ch_2 ==
set_option maxRecDepth 100000 in
set_option maxHeartbeats 4000000 in
theorem ct_ch_2 (l : Launch) (g : XG) (aN aNs aNk aNf aNr aNp aNb aNa aNt aNbo aNsz aNnu aNl aNal aNlo aNw aNtr aNis aNbg aNow nts nta nac : Nat) (nkp ntp nnw nsn nwn : Int32) (gr wk lk sz br : Nat) (z : Int32) (ru ki ma bb hd : Nat → Nat) (ce : Nat → Int32) (tb b : Nat → Nat) (n L p : Nat) (ht : (ntp = 1 ∧ n = nts ∧ b = tb) ∨ (ntp = 0 ∧ n = sz ∧ b = bb)) (ha : nta ≤ n) (hn : n ≤ 60) (hb : ∀ j, b j < 256) (hp : p < 495) (hwk : wk ≤ 40) (hlat : latI ce wk = nI L) (hq : hB b n nta = 40) : Ct l g 13 0 0 yX9_choice cX9_choice 4 (some .int) [.ref aN] [(aN, .inr (9, [.ref aNs, .ref aNk, .int nkp, .ref aNf, .ref aNr, .ref aNp, .ref aNb, .ref aNa, .ref aNt, .int (nI nts), .ref aNbo, .ref aNsz, .ref aNnu, .int (nI nta), .int 2, .int 0, .int ntp, .int (nI p), .int nnw, .int nsn, .int nwn, .ref aNl, .ref aNal, .ref aNlo, .int (nI nac), .ref aNw, .ref aNtr, .ref aNis, .ref aNbg, .ref aNow])), (aNs, .inl (g.2.1 0, 919, .inl (msF gr wk z lk sz br ru ki ma bb ce hd))), (aNt, .inl (g.2.1 0, 60, .inl (nIf tb))), (aNa, .inl (g.2.1 0, 2475, .inl (nIf fcN))), (aNr, .inl (g.2.1 0, 495, .inl (nIf rowB))), (aNb, .inl (g.2.1 0, 4096, .inl (nIf popN)))] (xpi ((hrL (hB b n) (nmI wk L p) 2 nta).2.2) [(aN, .inr (9, [.ref aNs, .ref aNk, .int nkp, .ref aNf, .ref aNr, .ref aNp, .ref aNb, .ref aNa, .ref aNt, .int (nI nts), .ref aNbo, .ref aNsz, .ref aNnu, .int (nI ((hrL (hB b n) (nmI wk L p) 2 nta).1)), .int 2, .int (bI (hrL (hB b n) (nmI wk L p) 2 nta).2.1), .int ntp, .int (nI p), .int nnw, .int nsn, .int nwn, .ref aNl, .ref aNal, .ref aNlo, .int (nI nac), .ref aNw, .ref aNtr, .ref aNis, .ref aNbg, .ref aNow])), (aNs, .inl (g.2.1 0, 919, .inl (msF gr wk z lk sz br ru ki ma bb ce hd))), (aNt, .inl (g.2.1 0, 60, .inl (nIf tb))), (aNa, .inl (g.2.1 0, 2475, .inl (nIf fcN))), (aNr, .inl (g.2.1 0, 495, .inl (nIf rowB))), (aNb, .inl (g.2.1 0, 4096, .inl (nIf popN)))]) := by
  refine Ct.ofX (lv := [some (.ref aN), none, none, none]) (by decide) rfl (Nat.le_of_ble_eq_true rfl) (fun κ => ?_)
  generalize hQ : xQ κ g 0 0 _ = Q
  refine x_aload_n dX9_choice_0 rfl ?_
  refine x_get dX9_choice_1 0 14 inX9 fl_X9_148 rfl rfl (by decide) rfl ?_
  refine x_iconst 4 dX9_choice_4 (by decide) ?_
  refine x_icmp_ne dX9_choice_5 (fun c5 => ?_) (fun c5 => ?_)
  rotate_left
  · exact absurd c5 (by decide)
  refine x_aload_n dX9_choice_15 rfl ?_
  refine x_dup dX9_choice_16 rfl ?_
  have hav := adv_le (okH_hB b n) hq (by decide)
  refine x_get dX9_choice_17 0 14 inX9 fl_X9_148 rfl rfl (by decide) rfl ?_
  refine x_iconst 1 dX9_choice_20 (by decide) ?_
  refine x_iadd dX9_choice_21 ?_
  refine x_rei 3 (by decide) ?_
  refine x_put (ws' := [(aN, .inr (9, [.ref aNs, .ref aNk, .int nkp, .ref aNf, .ref aNr, .ref aNp, .ref aNb, .ref aNa, .ref aNt, .int (nI nts), .ref aNbo, .ref aNsz, .ref aNnu, .int (nI nta), .int 3, .int 0, .int ntp, .int (nI p), .int nnw, .int nsn, .int nwn, .ref aNl, .ref aNal, .ref aNlo, .int (nI nac), .ref aNw, .ref aNtr, .ref aNis, .ref aNbg, .ref aNow])), (aNs, .inl (g.2.1 0, 919, .inl (msF gr wk z lk sz br ru ki ma bb ce hd))), (aNt, .inl (g.2.1 0, 60, .inl (nIf tb))), (aNa, .inl (g.2.1 0, 2475, .inl (nIf fcN))), (aNr, .inl (g.2.1 0, 495, .inl (nIf rowB))), (aNb, .inl (g.2.1 0, 4096, .inl (nIf popN)))]) dX9_choice_22 0 14 inX9 tyX9_ok nmX9 fl_X9_148 rfl rfl (by decide) rfl (rfl) rfl (xlt rfl) rfl ?_
  refine x_aload_n dX9_choice_25 rfl ?_
  refine x_dup dX9_choice_26 rfl ?_
  refine x_get dX9_choice_27 0 13 inX9 fl_X9_119 rfl rfl (by decide) rfl ?_
  refine x_iconst 1 dX9_choice_30 (by decide) ?_
  refine x_iadd dX9_choice_31 ?_
  refine x_rei (nI (nta + 1)) (nI_addc nta 1 rfl) ?_
  refine x_put (ws' := [(aN, .inr (9, [.ref aNs, .ref aNk, .int nkp, .ref aNf, .ref aNr, .ref aNp, .ref aNb, .ref aNa, .ref aNt, .int (nI nts), .ref aNbo, .ref aNsz, .ref aNnu, .int (nI (nta + 1)), .int 3, .int 0, .int ntp, .int (nI p), .int nnw, .int nsn, .int nwn, .ref aNl, .ref aNal, .ref aNlo, .int (nI nac), .ref aNw, .ref aNtr, .ref aNis, .ref aNbg, .ref aNow])), (aNs, .inl (g.2.1 0, 919, .inl (msF gr wk z lk sz br ru ki ma bb ce hd))), (aNt, .inl (g.2.1 0, 60, .inl (nIf tb))), (aNa, .inl (g.2.1 0, 2475, .inl (nIf fcN))), (aNr, .inl (g.2.1 0, 495, .inl (nIf rowB))), (aNb, .inl (g.2.1 0, 4096, .inl (nIf popN)))]) dX9_choice_32 0 13 inX9 tyX9_ok nmX9 fl_X9_119 rfl rfl (by decide) rfl (rfl) rfl (xlt rfl) rfl ?_
  refine x_aload_n dX9_choice_35 rfl ?_
  refine x_cVi (ws' := [(aN, .inr (9, [.ref aNs, .ref aNk, .int nkp, .ref aNf, .ref aNr, .ref aNp, .ref aNb, .ref aNa, .ref aNt, .int (nI nts), .ref aNbo, .ref aNsz, .ref aNnu, .int (nI ((srL (hB b n) (nmI wk L p) 1 (nta + 1)).1)), .int 3, .int (bI (srL (hB b n) (nmI wk L p) 1 (nta + 1)).2.1), .int ntp, .int (nI p), .int nnw, .int nsn, .int nwn, .ref aNl, .ref aNal, .ref aNlo, .int (nI nac), .ref aNw, .ref aNtr, .ref aNis, .ref aNbg, .ref aNow])), (aNs, .inl (g.2.1 0, 919, .inl (msF gr wk z lk sz br ru ki ma bb ce hd))), (aNt, .inl (g.2.1 0, 60, .inl (nIf tb))), (aNa, .inl (g.2.1 0, 2475, .inl (nIf fcN))), (aNr, .inl (g.2.1 0, 495, .inl (nIf rowB))), (aNb, .inl (g.2.1 0, 4096, .inl (nIf popN)))]) dX9_choice_36 ml_X9_151 mX9_sum (ct_sr_1 κ.2.1 g aN aNs aNk aNf aNr aNp aNb aNa aNt aNbo aNsz aNnu aNl aNal aNlo aNw aNtr aNis aNbg aNow nts (nta + 1) nac nkp ntp nnw nsn nwn gr wk lk sz br z ru ki ma bb hd ce tb b n L p (ht) (by omega) (hn) (hb) (hp) (hwk) (hlat)) [0, 1, 2, 3, 4, 5] rfl rfl 0 rfl rfl rfl (Nat.le_of_ble_eq_true rfl) (by decide) (Nat.le_refl _) (Nat.le_refl _) (rfl : [aN, aNs, aNt, aNa, aNr, aNb] = [aN, aNs, aNt, aNa, aNr, aNb]) rfl ?_
  have hk1 := srL_ok (nv := nmI wk L p) (okH_hB b n) 1 (nta + 1) hav
  generalize hR1 : srL (hB b n) (nmI wk L p) 1 (nta + 1) = R1 at hk1 ⊢
  obtain ⟨a1, b1, w1⟩ := R1
  dsimp only at hk1
  rcases tk_cases b1 (hB b n) a1 63 with ⟨rfl, hq2⟩ | ⟨rfl, hq2⟩ | rfl
  · skip
    refine x_eq (lv' := [some (.ref aN), none, none, none]) (st' := [.int w1]) (ws' := [(aN, .inr (9, [.ref aNs, .ref aNk, .int nkp, .ref aNf, .ref aNr, .ref aNp, .ref aNb, .ref aNa, .ref aNt, .int (nI nts), .ref aNbo, .ref aNsz, .ref aNnu, .int (nI a1), .int 3, .int 0, .int ntp, .int (nI p), .int nnw, .int nsn, .int nwn, .ref aNl, .ref aNal, .ref aNlo, .int (nI nac), .ref aNw, .ref aNtr, .ref aNis, .ref aNbg, .ref aNow])), (aNs, .inl (g.2.1 0, 919, .inl (msF gr wk z lk sz br ru ki ma bb ce hd))), (aNt, .inl (g.2.1 0, 60, .inl (nIf tb))), (aNa, .inl (g.2.1 0, 2475, .inl (nIf fcN))), (aNr, .inl (g.2.1 0, 495, .inl (nIf rowB))), (aNb, .inl (g.2.1 0, 4096, .inl (nIf popN)))]) ?_ rfl rfl rfl
    refine x_istore_n (lv' := [some (.ref aN), some (.int w1), none, none]) dX9_choice_39 (xlt rfl) rfl ?_
    refine x_aload_n dX9_choice_40 rfl ?_
    refine x_bipush 63 dX9_choice_41 (by decide) ?_
    refine x_cVi (ws' := [(aN, .inr (9, [.ref aNs, .ref aNk, .int nkp, .ref aNf, .ref aNr, .ref aNp, .ref aNb, .ref aNa, .ref aNt, .int (nI nts), .ref aNbo, .ref aNsz, .ref aNnu, .int (nI (a1 + 1)), .int 3, .int 0, .int ntp, .int (nI p), .int nnw, .int nsn, .int nwn, .ref aNl, .ref aNal, .ref aNlo, .int (nI nac), .ref aNw, .ref aNtr, .ref aNis, .ref aNbg, .ref aNow])), (aNs, .inl (g.2.1 0, 919, .inl (msF gr wk z lk sz br ru ki ma bb ce hd))), (aNt, .inl (g.2.1 0, 60, .inl (nIf tb))), (aNa, .inl (g.2.1 0, 2475, .inl (nIf fcN))), (aNr, .inl (g.2.1 0, 495, .inl (nIf rowB))), (aNb, .inl (g.2.1 0, 4096, .inl (nIf popN)))]) dX9_choice_43 ml_X9_141 mX9_takes (ct_takes_y κ.2.1 g aN aNs aNk aNf aNr aNp aNb aNa aNt aNbo aNsz aNnu aNl aNal aNlo aNw aNtr aNis aNbg aNow nts a1 3 p nac nkp ntp nnw nsn nwn gr wk lk sz br z ru ki ma bb hd ce tb b n 63 (ht) (by omega) (hn) (hb) (by decide) (hq2)) [0, 1, 2] rfl rfl 0 rfl rfl rfl (Nat.le_of_ble_eq_true rfl) (by decide) (Nat.le_refl _) (Nat.le_refl _) (rfl : [aN, aNs, aNt] = [aN, aNs, aNt]) rfl ?_
    refine x_if_eq dX9_choice_46 (fun c46 => ?_) (fun c46 => ?_)
    · exact absurd c46 (by decide)
    have hav2 := adv_le (okH_hB b n) hq2 (by decide)
    refine x_aload_n dX9_choice_49 rfl ?_
    refine x_cVi (ws' := [(aN, .inr (9, [.ref aNs, .ref aNk, .int nkp, .ref aNf, .ref aNr, .ref aNp, .ref aNb, .ref aNa, .ref aNt, .int (nI nts), .ref aNbo, .ref aNsz, .ref aNnu, .int (nI ((srL (hB b n) (nmI wk L p) 1 (a1 + 1)).1)), .int 3, .int (bI (srL (hB b n) (nmI wk L p) 1 (a1 + 1)).2.1), .int ntp, .int (nI p), .int nnw, .int nsn, .int nwn, .ref aNl, .ref aNal, .ref aNlo, .int (nI nac), .ref aNw, .ref aNtr, .ref aNis, .ref aNbg, .ref aNow])), (aNs, .inl (g.2.1 0, 919, .inl (msF gr wk z lk sz br ru ki ma bb ce hd))), (aNt, .inl (g.2.1 0, 60, .inl (nIf tb))), (aNa, .inl (g.2.1 0, 2475, .inl (nIf fcN))), (aNr, .inl (g.2.1 0, 495, .inl (nIf rowB))), (aNb, .inl (g.2.1 0, 4096, .inl (nIf popN)))]) dX9_choice_50 ml_X9_151 mX9_sum (ct_sr_1 κ.2.1 g aN aNs aNk aNf aNr aNp aNb aNa aNt aNbo aNsz aNnu aNl aNal aNlo aNw aNtr aNis aNbg aNow nts (a1 + 1) nac nkp ntp nnw nsn nwn gr wk lk sz br z ru ki ma bb hd ce tb b n L p (ht) (by omega) (hn) (hb) (hp) (hwk) (hlat)) [0, 1, 2, 3, 4, 5] rfl rfl 0 rfl rfl rfl (Nat.le_of_ble_eq_true rfl) (by decide) (Nat.le_refl _) (Nat.le_refl _) (rfl : [aN, aNs, aNt, aNa, aNr, aNb] = [aN, aNs, aNt, aNa, aNr, aNb]) rfl ?_
    have hk2 := srL_ok (nv := nmI wk L p) (okH_hB b n) 1 (a1 + 1) hav2
    refine x_istore_n (lv' := [some (.ref aN), some (.int w1), some (.int ((srL (hB b n) (nmI wk L p) 1 (a1 + 1)).2.2)), none]) dX9_choice_53 (xlt rfl) rfl ?_
    refine x_aload_n dX9_choice_54 rfl ?_
    refine x_bipush 58 dX9_choice_55 (by decide) ?_
    refine x_cVv (ws' := [(aN, .inr (9, [.ref aNs, .ref aNk, .int nkp, .ref aNf, .ref aNr, .ref aNp, .ref aNb, .ref aNa, .ref aNt, .int (nI nts), .ref aNbo, .ref aNsz, .ref aNnu, .int (nI ((pasA (hB b n) 58 ((srL (hB b n) (nmI wk L p) 1 (a1 + 1)).2.1) ((srL (hB b n) (nmI wk L p) 1 (a1 + 1)).1)).1)), .int 3, .int (bI (pasA (hB b n) 58 ((srL (hB b n) (nmI wk L p) 1 (a1 + 1)).2.1) ((srL (hB b n) (nmI wk L p) 1 (a1 + 1)).1)).2), .int ntp, .int (nI p), .int nnw, .int nsn, .int nwn, .ref aNl, .ref aNal, .ref aNlo, .int (nI nac), .ref aNw, .ref aNtr, .ref aNis, .ref aNbg, .ref aNow])), (aNs, .inl (g.2.1 0, 919, .inl (msF gr wk z lk sz br ru ki ma bb ce hd))), (aNt, .inl (g.2.1 0, 60, .inl (nIf tb))), (aNa, .inl (g.2.1 0, 2475, .inl (nIf fcN))), (aNr, .inl (g.2.1 0, 495, .inl (nIf rowB))), (aNb, .inl (g.2.1 0, 4096, .inl (nIf popN)))]) dX9_choice_57 ml_X9_154 mX9_must (ct_X9_must κ.2.1 g aN aNs aNk aNf aNr aNp aNb aNa aNt aNbo aNsz aNnu aNl aNal aNlo aNw aNtr aNis aNbg aNow nts ((srL (hB b n) (nmI wk L p) 1 (a1 + 1)).1) 3 p nac nkp ntp nnw nsn nwn gr wk lk sz br z ru ki ma bb hd ce tb b n 58 ((srL (hB b n) (nmI wk L p) 1 (a1 + 1)).2.1) (ht) (by omega) (hn) (hb) (by decide)) [0, 1, 2] rfl rfl 0 rfl rfl rfl (Nat.le_of_ble_eq_true rfl) (by decide) (Nat.le_refl _) (Nat.le_refl _) (rfl : [aN, aNs, aNt] = [aN, aNs, aNt]) rfl ?_
    have hk3 := pasA_le (okH_hB b n) (c := 58) (by decide) (bd := (srL (hB b n) (nmI wk L p) 1 (a1 + 1)).2.1) hk2.2
    generalize hR3 : pasA (hB b n) 58 ((srL (hB b n) (nmI wk L p) 1 (a1 + 1)).2.1) ((srL (hB b n) (nmI wk L p) 1 (a1 + 1)).1) = R3 at hk3 ⊢
    obtain ⟨a3, b3⟩ := R3
    dsimp only at hk3
    cases b3
    · skip
      refine x_eq (lv' := [some (.ref aN), some (.int w1), some (.int ((srL (hB b n) (nmI wk L p) 1 (a1 + 1)).2.2)), none]) (st' := []) (ws' := [(aN, .inr (9, [.ref aNs, .ref aNk, .int nkp, .ref aNf, .ref aNr, .ref aNp, .ref aNb, .ref aNa, .ref aNt, .int (nI nts), .ref aNbo, .ref aNsz, .ref aNnu, .int (nI a3), .int 3, .int 0, .int ntp, .int (nI p), .int nnw, .int nsn, .int nwn, .ref aNl, .ref aNal, .ref aNlo, .int (nI nac), .ref aNw, .ref aNtr, .ref aNis, .ref aNbg, .ref aNow])), (aNs, .inl (g.2.1 0, 919, .inl (msF gr wk z lk sz br ru ki ma bb ce hd))), (aNt, .inl (g.2.1 0, 60, .inl (nIf tb))), (aNa, .inl (g.2.1 0, 2475, .inl (nIf fcN))), (aNr, .inl (g.2.1 0, 495, .inl (nIf rowB))), (aNb, .inl (g.2.1 0, 4096, .inl (nIf popN)))]) ?_ rfl rfl rfl
      refine x_aload_n dX9_choice_60 rfl ?_
      refine x_cVi (ws' := [(aN, .inr (9, [.ref aNs, .ref aNk, .int nkp, .ref aNf, .ref aNr, .ref aNp, .ref aNb, .ref aNa, .ref aNt, .int (nI nts), .ref aNbo, .ref aNsz, .ref aNnu, .int (nI ((srL (hB b n) (nmI wk L p) 1 a3).1)), .int 3, .int (bI (srL (hB b n) (nmI wk L p) 1 a3).2.1), .int ntp, .int (nI p), .int nnw, .int nsn, .int nwn, .ref aNl, .ref aNal, .ref aNlo, .int (nI nac), .ref aNw, .ref aNtr, .ref aNis, .ref aNbg, .ref aNow])), (aNs, .inl (g.2.1 0, 919, .inl (msF gr wk z lk sz br ru ki ma bb ce hd))), (aNt, .inl (g.2.1 0, 60, .inl (nIf tb))), (aNa, .inl (g.2.1 0, 2475, .inl (nIf fcN))), (aNr, .inl (g.2.1 0, 495, .inl (nIf rowB))), (aNb, .inl (g.2.1 0, 4096, .inl (nIf popN)))]) dX9_choice_61 ml_X9_151 mX9_sum (ct_sr_1 κ.2.1 g aN aNs aNk aNf aNr aNp aNb aNa aNt aNbo aNsz aNnu aNl aNal aNlo aNw aNtr aNis aNbg aNow nts a3 nac nkp ntp nnw nsn nwn gr wk lk sz br z ru ki ma bb hd ce tb b n L p (ht) (by omega) (hn) (hb) (hp) (hwk) (hlat)) [0, 1, 2, 3, 4, 5] rfl rfl 0 rfl rfl rfl (Nat.le_of_ble_eq_true rfl) (by decide) (Nat.le_refl _) (Nat.le_refl _) (rfl : [aN, aNs, aNt, aNa, aNr, aNb] = [aN, aNs, aNt, aNa, aNr, aNb]) rfl ?_
      have hk4 := srL_ok (nv := nmI wk L p) (okH_hB b n) 1 a3 hk3
      refine x_istore_n (lv' := [some (.ref aN), some (.int w1), some (.int ((srL (hB b n) (nmI wk L p) 1 (a1 + 1)).2.2)), some (.int ((srL (hB b n) (nmI wk L p) 1 a3).2.2))]) dX9_choice_64 (xlt rfl) rfl ?_
      refine x_iload_n dX9_choice_65 rfl ?_
      have J66_2 : ∀ (v1 : Int32), v1 = (if w1 ≤ 0 then (srL (hB b n) (nmI wk L p) 1 a3).2.2 else (srL (hB b n) (nmI wk L p) 1 (a1 + 1)).2.2) → Xs κ g 13 0 0 cX9_choice yX9_choice (some .int) Q 0 0 74 [some (.ref aN), some (.int w1), some (.int ((srL (hB b n) (nmI wk L p) 1 (a1 + 1)).2.2)), some (.int ((srL (hB b n) (nmI wk L p) 1 a3).2.2))] [.int v1] [(aN, .inr (9, [.ref aNs, .ref aNk, .int nkp, .ref aNf, .ref aNr, .ref aNp, .ref aNb, .ref aNa, .ref aNt, .int (nI nts), .ref aNbo, .ref aNsz, .ref aNnu, .int (nI ((srL (hB b n) (nmI wk L p) 1 a3).1)), .int 3, .int (bI (srL (hB b n) (nmI wk L p) 1 a3).2.1), .int ntp, .int (nI p), .int nnw, .int nsn, .int nwn, .ref aNl, .ref aNal, .ref aNlo, .int (nI nac), .ref aNw, .ref aNtr, .ref aNis, .ref aNbg, .ref aNow])), (aNs, .inl (g.2.1 0, 919, .inl (msF gr wk z lk sz br ru ki ma bb ce hd))), (aNt, .inl (g.2.1 0, 60, .inl (nIf tb))), (aNa, .inl (g.2.1 0, 2475, .inl (nIf fcN))), (aNr, .inl (g.2.1 0, 495, .inl (nIf rowB))), (aNb, .inl (g.2.1 0, 4096, .inl (nIf popN)))] := by
        intro v1 ev1
        refine x_istore_n (lv' := [some (.ref aN), some (.int v1), some (.int ((srL (hB b n) (nmI wk L p) 1 (a1 + 1)).2.2)), some (.int ((srL (hB b n) (nmI wk L p) 1 a3).2.2))]) dX9_choice_74 (xlt rfl) rfl ?_
        refine x_aload_n dX9_choice_75 rfl ?_
        refine x_bipush 41 dX9_choice_76 (by decide) ?_
        refine x_cVv (ws' := [(aN, .inr (9, [.ref aNs, .ref aNk, .int nkp, .ref aNf, .ref aNr, .ref aNp, .ref aNb, .ref aNa, .ref aNt, .int (nI nts), .ref aNbo, .ref aNsz, .ref aNnu, .int (nI ((pasA (hB b n) 41 ((srL (hB b n) (nmI wk L p) 1 a3).2.1) ((srL (hB b n) (nmI wk L p) 1 a3).1)).1)), .int 3, .int (bI (pasA (hB b n) 41 ((srL (hB b n) (nmI wk L p) 1 a3).2.1) ((srL (hB b n) (nmI wk L p) 1 a3).1)).2), .int ntp, .int (nI p), .int nnw, .int nsn, .int nwn, .ref aNl, .ref aNal, .ref aNlo, .int (nI nac), .ref aNw, .ref aNtr, .ref aNis, .ref aNbg, .ref aNow])), (aNs, .inl (g.2.1 0, 919, .inl (msF gr wk z lk sz br ru ki ma bb ce hd))), (aNt, .inl (g.2.1 0, 60, .inl (nIf tb))), (aNa, .inl (g.2.1 0, 2475, .inl (nIf fcN))), (aNr, .inl (g.2.1 0, 495, .inl (nIf rowB))), (aNb, .inl (g.2.1 0, 4096, .inl (nIf popN)))]) dX9_choice_78 ml_X9_154 mX9_must (ct_X9_must κ.2.1 g aN aNs aNk aNf aNr aNp aNb aNa aNt aNbo aNsz aNnu aNl aNal aNlo aNw aNtr aNis aNbg aNow nts ((srL (hB b n) (nmI wk L p) 1 a3).1) 3 p nac nkp ntp nnw nsn nwn gr wk lk sz br z ru ki ma bb hd ce tb b n 41 ((srL (hB b n) (nmI wk L p) 1 a3).2.1) (ht) (by omega) (hn) (hb) (by decide)) [0, 1, 2] rfl rfl 0 rfl rfl rfl (Nat.le_of_ble_eq_true rfl) (by decide) (Nat.le_refl _) (Nat.le_refl _) (rfl : [aN, aNs, aNt] = [aN, aNs, aNt]) rfl ?_
        refine x_aload_n dX9_choice_81 rfl ?_
        refine x_dup dX9_choice_82 rfl ?_
        refine x_get dX9_choice_83 0 14 inX9 fl_X9_148 rfl rfl (by decide) rfl ?_
        refine x_iconst 1 dX9_choice_86 (by decide) ?_
        refine x_isub dX9_choice_87 ?_
        refine x_rei 2 (by decide) ?_
        refine x_put (ws' := [(aN, .inr (9, [.ref aNs, .ref aNk, .int nkp, .ref aNf, .ref aNr, .ref aNp, .ref aNb, .ref aNa, .ref aNt, .int (nI nts), .ref aNbo, .ref aNsz, .ref aNnu, .int (nI ((pasA (hB b n) 41 ((srL (hB b n) (nmI wk L p) 1 a3).2.1) ((srL (hB b n) (nmI wk L p) 1 a3).1)).1)), .int 2, .int (bI (pasA (hB b n) 41 ((srL (hB b n) (nmI wk L p) 1 a3).2.1) ((srL (hB b n) (nmI wk L p) 1 a3).1)).2), .int ntp, .int (nI p), .int nnw, .int nsn, .int nwn, .ref aNl, .ref aNal, .ref aNlo, .int (nI nac), .ref aNw, .ref aNtr, .ref aNis, .ref aNbg, .ref aNow])), (aNs, .inl (g.2.1 0, 919, .inl (msF gr wk z lk sz br ru ki ma bb ce hd))), (aNt, .inl (g.2.1 0, 60, .inl (nIf tb))), (aNa, .inl (g.2.1 0, 2475, .inl (nIf fcN))), (aNr, .inl (g.2.1 0, 495, .inl (nIf rowB))), (aNb, .inl (g.2.1 0, 4096, .inl (nIf popN)))]) dX9_choice_88 0 14 inX9 tyX9_ok nmX9 fl_X9_148 rfl rfl (by decide) rfl (rfl) rfl (xlt rfl) rfl ?_
        refine x_iload_n dX9_choice_91 rfl ?_
        rw [← hQ]
        refine x_iret dX9_choice_92 rfl (Nat.le_of_ble_eq_true rfl) (Nat.le_of_ble_eq_true rfl) ?_
        try simp only [ev1]
        rw [show hrL (hB b n) (nmI wk L p) 2 nta = choR (hB b n) (srL (hB b n) (nmI wk L p) 1) (nta + 1) from rfl]
        first | (rw [choA hR1]; exact ⟨rfl, rfl⟩) | (rw [choB hR1 hq2]; exact ⟨rfl, rfl⟩) | (rw [choC hR1 hq2 hR3]; exact ⟨rfl, rfl⟩) | (rw [choD hR1 hq2 hR3]; exact ⟨rfl, rfl⟩)
      refine x_if_le dX9_choice_66 (fun c66 => ?_) (fun c66 => ?_)
      · have c66 : w1 ≤ 0 := c66
        refine x_iload_n dX9_choice_73 rfl ?_
        exact J66_2 _ (if_pos c66).symm
      · have c66 : ¬ (w1 ≤ 0) := c66
        refine x_iload_n dX9_choice_69 rfl ?_
        refine x_goto dX9_choice_70 ?_
        exact J66_2 _ (if_neg c66).symm
    · skip
      refine x_eq (lv' := [some (.ref aN), some (.int w1), some (.int ((srL (hB b n) (nmI wk L p) 1 (a1 + 1)).2.2)), none]) (st' := []) (ws' := [(aN, .inr (9, [.ref aNs, .ref aNk, .int nkp, .ref aNf, .ref aNr, .ref aNp, .ref aNb, .ref aNa, .ref aNt, .int (nI nts), .ref aNbo, .ref aNsz, .ref aNnu, .int (nI a3), .int 3, .int 1, .int ntp, .int (nI p), .int nnw, .int nsn, .int nwn, .ref aNl, .ref aNal, .ref aNlo, .int (nI nac), .ref aNw, .ref aNtr, .ref aNis, .ref aNbg, .ref aNow])), (aNs, .inl (g.2.1 0, 919, .inl (msF gr wk z lk sz br ru ki ma bb ce hd))), (aNt, .inl (g.2.1 0, 60, .inl (nIf tb))), (aNa, .inl (g.2.1 0, 2475, .inl (nIf fcN))), (aNr, .inl (g.2.1 0, 495, .inl (nIf rowB))), (aNb, .inl (g.2.1 0, 4096, .inl (nIf popN)))]) ?_ rfl rfl rfl
      refine x_aload_n dX9_choice_60 rfl ?_
      refine x_cVi0 dX9_choice_61 ml_X9_151 mX9_sum (ct_sum_b κ.2.1 g aN aNs aNk aNf aNr aNp aNb aNa aNt aNbo aNsz aNnu aNl aNal aNlo aNw aNtr aNis aNbg aNow nts a3 3 nac nkp ntp nnw nsn nwn gr wk lk sz br z ru ki ma bb hd ce tb p) [0, 1, 2, 3, 4, 5] rfl rfl 0 rfl rfl rfl (Nat.le_of_ble_eq_true rfl) (by decide) (Nat.le_refl _) (Nat.le_refl _) ?_
      skip
      refine x_istore_n (lv' := [some (.ref aN), some (.int w1), some (.int ((srL (hB b n) (nmI wk L p) 1 (a1 + 1)).2.2)), some (.int 0)]) dX9_choice_64 (xlt rfl) rfl ?_
      refine x_iload_n dX9_choice_65 rfl ?_
      have J66_4 : ∀ (v3 : Int32), v3 = (if w1 ≤ 0 then 0 else (srL (hB b n) (nmI wk L p) 1 (a1 + 1)).2.2) → Xs κ g 13 0 0 cX9_choice yX9_choice (some .int) Q 0 0 74 [some (.ref aN), some (.int w1), some (.int ((srL (hB b n) (nmI wk L p) 1 (a1 + 1)).2.2)), some (.int 0)] [.int v3] [(aN, .inr (9, [.ref aNs, .ref aNk, .int nkp, .ref aNf, .ref aNr, .ref aNp, .ref aNb, .ref aNa, .ref aNt, .int (nI nts), .ref aNbo, .ref aNsz, .ref aNnu, .int (nI a3), .int 3, .int 1, .int ntp, .int (nI p), .int nnw, .int nsn, .int nwn, .ref aNl, .ref aNal, .ref aNlo, .int (nI nac), .ref aNw, .ref aNtr, .ref aNis, .ref aNbg, .ref aNow])), (aNs, .inl (g.2.1 0, 919, .inl (msF gr wk z lk sz br ru ki ma bb ce hd))), (aNt, .inl (g.2.1 0, 60, .inl (nIf tb))), (aNa, .inl (g.2.1 0, 2475, .inl (nIf fcN))), (aNr, .inl (g.2.1 0, 495, .inl (nIf rowB))), (aNb, .inl (g.2.1 0, 4096, .inl (nIf popN)))] := by
        intro v3 ev3
        refine x_istore_n (lv' := [some (.ref aN), some (.int v3), some (.int ((srL (hB b n) (nmI wk L p) 1 (a1 + 1)).2.2)), some (.int 0)]) dX9_choice_74 (xlt rfl) rfl ?_
        refine x_aload_n dX9_choice_75 rfl ?_
        refine x_bipush 41 dX9_choice_76 (by decide) ?_
        refine x_cVv (ws' := [(aN, .inr (9, [.ref aNs, .ref aNk, .int nkp, .ref aNf, .ref aNr, .ref aNp, .ref aNb, .ref aNa, .ref aNt, .int (nI nts), .ref aNbo, .ref aNsz, .ref aNnu, .int (nI ((pasA (hB b n) 41 true a3).1)), .int 3, .int (bI (pasA (hB b n) 41 true a3).2), .int ntp, .int (nI p), .int nnw, .int nsn, .int nwn, .ref aNl, .ref aNal, .ref aNlo, .int (nI nac), .ref aNw, .ref aNtr, .ref aNis, .ref aNbg, .ref aNow])), (aNs, .inl (g.2.1 0, 919, .inl (msF gr wk z lk sz br ru ki ma bb ce hd))), (aNt, .inl (g.2.1 0, 60, .inl (nIf tb))), (aNa, .inl (g.2.1 0, 2475, .inl (nIf fcN))), (aNr, .inl (g.2.1 0, 495, .inl (nIf rowB))), (aNb, .inl (g.2.1 0, 4096, .inl (nIf popN)))]) dX9_choice_78 ml_X9_154 mX9_must (ct_X9_must κ.2.1 g aN aNs aNk aNf aNr aNp aNb aNa aNt aNbo aNsz aNnu aNl aNal aNlo aNw aNtr aNis aNbg aNow nts a3 3 p nac nkp ntp nnw nsn nwn gr wk lk sz br z ru ki ma bb hd ce tb b n 41 true (ht) (by omega) (hn) (hb) (by decide)) [0, 1, 2] rfl rfl 0 rfl rfl rfl (Nat.le_of_ble_eq_true rfl) (by decide) (Nat.le_refl _) (Nat.le_refl _) (rfl : [aN, aNs, aNt] = [aN, aNs, aNt]) rfl ?_
        refine x_aload_n dX9_choice_81 rfl ?_
        refine x_dup dX9_choice_82 rfl ?_
        refine x_get dX9_choice_83 0 14 inX9 fl_X9_148 rfl rfl (by decide) rfl ?_
        refine x_iconst 1 dX9_choice_86 (by decide) ?_
        refine x_isub dX9_choice_87 ?_
        refine x_rei 2 (by decide) ?_
        refine x_put (ws' := [(aN, .inr (9, [.ref aNs, .ref aNk, .int nkp, .ref aNf, .ref aNr, .ref aNp, .ref aNb, .ref aNa, .ref aNt, .int (nI nts), .ref aNbo, .ref aNsz, .ref aNnu, .int (nI ((pasA (hB b n) 41 true a3).1)), .int 2, .int (bI (pasA (hB b n) 41 true a3).2), .int ntp, .int (nI p), .int nnw, .int nsn, .int nwn, .ref aNl, .ref aNal, .ref aNlo, .int (nI nac), .ref aNw, .ref aNtr, .ref aNis, .ref aNbg, .ref aNow])), (aNs, .inl (g.2.1 0, 919, .inl (msF gr wk z lk sz br ru ki ma bb ce hd))), (aNt, .inl (g.2.1 0, 60, .inl (nIf tb))), (aNa, .inl (g.2.1 0, 2475, .inl (nIf fcN))), (aNr, .inl (g.2.1 0, 495, .inl (nIf rowB))), (aNb, .inl (g.2.1 0, 4096, .inl (nIf popN)))]) dX9_choice_88 0 14 inX9 tyX9_ok nmX9 fl_X9_148 rfl rfl (by decide) rfl (rfl) rfl (xlt rfl) rfl ?_
        refine x_iload_n dX9_choice_91 rfl ?_
        rw [← hQ]
        refine x_iret dX9_choice_92 rfl (Nat.le_of_ble_eq_true rfl) (Nat.le_of_ble_eq_true rfl) ?_
        try simp only [ev3]
        rw [show hrL (hB b n) (nmI wk L p) 2 nta = choR (hB b n) (srL (hB b n) (nmI wk L p) 1) (nta + 1) from rfl]
        first | (rw [choA hR1]; exact ⟨rfl, rfl⟩) | (rw [choB hR1 hq2]; exact ⟨rfl, rfl⟩) | (rw [choC hR1 hq2 hR3]; exact ⟨rfl, rfl⟩) | (rw [choD hR1 hq2 hR3]; exact ⟨rfl, rfl⟩)
      refine x_if_le dX9_choice_66 (fun c66 => ?_) (fun c66 => ?_)
      · have c66 : w1 ≤ 0 := c66
        refine x_iload_n dX9_choice_73 rfl ?_
        exact J66_4 _ (if_pos c66).symm
      · have c66 : ¬ (w1 ≤ 0) := c66
        refine x_iload_n dX9_choice_69 rfl ?_
        refine x_goto dX9_choice_70 ?_
        exact J66_4 _ (if_neg c66).symm
  · skip
    refine x_eq (lv' := [some (.ref aN), none, none, none]) (st' := [.int w1]) (ws' := [(aN, .inr (9, [.ref aNs, .ref aNk, .int nkp, .ref aNf, .ref aNr, .ref aNp, .ref aNb, .ref aNa, .ref aNt, .int (nI nts), .ref aNbo, .ref aNsz, .ref aNnu, .int (nI a1), .int 3, .int 0, .int ntp, .int (nI p), .int nnw, .int nsn, .int nwn, .ref aNl, .ref aNal, .ref aNlo, .int (nI nac), .ref aNw, .ref aNtr, .ref aNis, .ref aNbg, .ref aNow])), (aNs, .inl (g.2.1 0, 919, .inl (msF gr wk z lk sz br ru ki ma bb ce hd))), (aNt, .inl (g.2.1 0, 60, .inl (nIf tb))), (aNa, .inl (g.2.1 0, 2475, .inl (nIf fcN))), (aNr, .inl (g.2.1 0, 495, .inl (nIf rowB))), (aNb, .inl (g.2.1 0, 4096, .inl (nIf popN)))]) ?_ rfl rfl rfl
    refine x_istore_n (lv' := [some (.ref aN), some (.int w1), none, none]) dX9_choice_39 (xlt rfl) rfl ?_
    refine x_aload_n dX9_choice_40 rfl ?_
    refine x_bipush 63 dX9_choice_41 (by decide) ?_
    refine x_cVi0 dX9_choice_43 ml_X9_141 mX9_takes (ct_takes_n κ.2.1 g aN aNs aNk aNf aNr aNp aNb aNa aNt aNbo aNsz aNnu aNl aNal aNlo aNw aNtr aNis aNbg aNow nts a1 3 p nac nkp ntp nnw nsn nwn gr wk lk sz br z ru ki ma bb hd ce tb b n 63 (ht) (by omega) (hn) (hb) (by decide) (hq2)) [0, 1, 2] rfl rfl 0 rfl rfl rfl (Nat.le_of_ble_eq_true rfl) (by decide) (Nat.le_refl _) (Nat.le_refl _) ?_
    refine x_if_eq dX9_choice_46 (fun c46 => ?_) (fun c46 => ?_)
    rotate_left
    · exact absurd c46 (by decide)
    refine x_aload_n dX9_choice_75 rfl ?_
    refine x_bipush 41 dX9_choice_76 (by decide) ?_
    refine x_cVv (ws' := [(aN, .inr (9, [.ref aNs, .ref aNk, .int nkp, .ref aNf, .ref aNr, .ref aNp, .ref aNb, .ref aNa, .ref aNt, .int (nI nts), .ref aNbo, .ref aNsz, .ref aNnu, .int (nI ((pasA (hB b n) 41 false a1).1)), .int 3, .int (bI (pasA (hB b n) 41 false a1).2), .int ntp, .int (nI p), .int nnw, .int nsn, .int nwn, .ref aNl, .ref aNal, .ref aNlo, .int (nI nac), .ref aNw, .ref aNtr, .ref aNis, .ref aNbg, .ref aNow])), (aNs, .inl (g.2.1 0, 919, .inl (msF gr wk z lk sz br ru ki ma bb ce hd))), (aNt, .inl (g.2.1 0, 60, .inl (nIf tb))), (aNa, .inl (g.2.1 0, 2475, .inl (nIf fcN))), (aNr, .inl (g.2.1 0, 495, .inl (nIf rowB))), (aNb, .inl (g.2.1 0, 4096, .inl (nIf popN)))]) dX9_choice_78 ml_X9_154 mX9_must (ct_X9_must κ.2.1 g aN aNs aNk aNf aNr aNp aNb aNa aNt aNbo aNsz aNnu aNl aNal aNlo aNw aNtr aNis aNbg aNow nts a1 3 p nac nkp ntp nnw nsn nwn gr wk lk sz br z ru ki ma bb hd ce tb b n 41 false (ht) (by omega) (hn) (hb) (by decide)) [0, 1, 2] rfl rfl 0 rfl rfl rfl (Nat.le_of_ble_eq_true rfl) (by decide) (Nat.le_refl _) (Nat.le_refl _) (rfl : [aN, aNs, aNt] = [aN, aNs, aNt]) rfl ?_
    refine x_aload_n dX9_choice_81 rfl ?_
    refine x_dup dX9_choice_82 rfl ?_
    refine x_get dX9_choice_83 0 14 inX9 fl_X9_148 rfl rfl (by decide) rfl ?_
    refine x_iconst 1 dX9_choice_86 (by decide) ?_
    refine x_isub dX9_choice_87 ?_
    refine x_rei 2 (by decide) ?_
    refine x_put (ws' := [(aN, .inr (9, [.ref aNs, .ref aNk, .int nkp, .ref aNf, .ref aNr, .ref aNp, .ref aNb, .ref aNa, .ref aNt, .int (nI nts), .ref aNbo, .ref aNsz, .ref aNnu, .int (nI ((pasA (hB b n) 41 false a1).1)), .int 2, .int (bI (pasA (hB b n) 41 false a1).2), .int ntp, .int (nI p), .int nnw, .int nsn, .int nwn, .ref aNl, .ref aNal, .ref aNlo, .int (nI nac), .ref aNw, .ref aNtr, .ref aNis, .ref aNbg, .ref aNow])), (aNs, .inl (g.2.1 0, 919, .inl (msF gr wk z lk sz br ru ki ma bb ce hd))), (aNt, .inl (g.2.1 0, 60, .inl (nIf tb))), (aNa, .inl (g.2.1 0, 2475, .inl (nIf fcN))), (aNr, .inl (g.2.1 0, 495, .inl (nIf rowB))), (aNb, .inl (g.2.1 0, 4096, .inl (nIf popN)))]) dX9_choice_88 0 14 inX9 tyX9_ok nmX9 fl_X9_148 rfl rfl (by decide) rfl (rfl) rfl (xlt rfl) rfl ?_
    refine x_iload_n dX9_choice_91 rfl ?_
    rw [← hQ]
    refine x_iret dX9_choice_92 rfl (Nat.le_of_ble_eq_true rfl) (Nat.le_of_ble_eq_true rfl) ?_
    try simp only []
    rw [show hrL (hB b n) (nmI wk L p) 2 nta = choR (hB b n) (srL (hB b n) (nmI wk L p) 1) (nta + 1) from rfl]
    first | (rw [choA hR1]; exact ⟨rfl, rfl⟩) | (rw [choB hR1 hq2]; exact ⟨rfl, rfl⟩) | (rw [choC hR1 hq2 hR3]; exact ⟨rfl, rfl⟩) | (rw [choD hR1 hq2 hR3]; exact ⟨rfl, rfl⟩)
  · skip
    refine x_eq (lv' := [some (.ref aN), none, none, none]) (st' := [.int w1]) (ws' := [(aN, .inr (9, [.ref aNs, .ref aNk, .int nkp, .ref aNf, .ref aNr, .ref aNp, .ref aNb, .ref aNa, .ref aNt, .int (nI nts), .ref aNbo, .ref aNsz, .ref aNnu, .int (nI a1), .int 3, .int 1, .int ntp, .int (nI p), .int nnw, .int nsn, .int nwn, .ref aNl, .ref aNal, .ref aNlo, .int (nI nac), .ref aNw, .ref aNtr, .ref aNis, .ref aNbg, .ref aNow])), (aNs, .inl (g.2.1 0, 919, .inl (msF gr wk z lk sz br ru ki ma bb ce hd))), (aNt, .inl (g.2.1 0, 60, .inl (nIf tb))), (aNa, .inl (g.2.1 0, 2475, .inl (nIf fcN))), (aNr, .inl (g.2.1 0, 495, .inl (nIf rowB))), (aNb, .inl (g.2.1 0, 4096, .inl (nIf popN)))]) ?_ rfl rfl rfl
    refine x_istore_n (lv' := [some (.ref aN), some (.int w1), none, none]) dX9_choice_39 (xlt rfl) rfl ?_
    refine x_aload_n dX9_choice_40 rfl ?_
    refine x_bipush 63 dX9_choice_41 (by decide) ?_
    refine x_cVi0 dX9_choice_43 ml_X9_141 mX9_takes (ct_takes_b κ.2.1 g aN aNs aNk aNf aNr aNp aNb aNa aNt aNbo aNsz aNnu aNl aNal aNlo aNw aNtr aNis aNbg aNow nts a1 3 p nac nkp ntp nnw nsn nwn gr wk lk sz br z ru ki ma bb hd ce tb 63) [0, 1, 2] rfl rfl 0 rfl rfl rfl (Nat.le_of_ble_eq_true rfl) (by decide) (Nat.le_refl _) (Nat.le_refl _) ?_
    refine x_if_eq dX9_choice_46 (fun c46 => ?_) (fun c46 => ?_)
    rotate_left
    · exact absurd c46 (by decide)
    refine x_aload_n dX9_choice_75 rfl ?_
    refine x_bipush 41 dX9_choice_76 (by decide) ?_
    refine x_cVv (ws' := [(aN, .inr (9, [.ref aNs, .ref aNk, .int nkp, .ref aNf, .ref aNr, .ref aNp, .ref aNb, .ref aNa, .ref aNt, .int (nI nts), .ref aNbo, .ref aNsz, .ref aNnu, .int (nI ((pasA (hB b n) 41 true a1).1)), .int 3, .int (bI (pasA (hB b n) 41 true a1).2), .int ntp, .int (nI p), .int nnw, .int nsn, .int nwn, .ref aNl, .ref aNal, .ref aNlo, .int (nI nac), .ref aNw, .ref aNtr, .ref aNis, .ref aNbg, .ref aNow])), (aNs, .inl (g.2.1 0, 919, .inl (msF gr wk z lk sz br ru ki ma bb ce hd))), (aNt, .inl (g.2.1 0, 60, .inl (nIf tb))), (aNa, .inl (g.2.1 0, 2475, .inl (nIf fcN))), (aNr, .inl (g.2.1 0, 495, .inl (nIf rowB))), (aNb, .inl (g.2.1 0, 4096, .inl (nIf popN)))]) dX9_choice_78 ml_X9_154 mX9_must (ct_X9_must κ.2.1 g aN aNs aNk aNf aNr aNp aNb aNa aNt aNbo aNsz aNnu aNl aNal aNlo aNw aNtr aNis aNbg aNow nts a1 3 p nac nkp ntp nnw nsn nwn gr wk lk sz br z ru ki ma bb hd ce tb b n 41 true (ht) (by omega) (hn) (hb) (by decide)) [0, 1, 2] rfl rfl 0 rfl rfl rfl (Nat.le_of_ble_eq_true rfl) (by decide) (Nat.le_refl _) (Nat.le_refl _) (rfl : [aN, aNs, aNt] = [aN, aNs, aNt]) rfl ?_
    refine x_aload_n dX9_choice_81 rfl ?_
    refine x_dup dX9_choice_82 rfl ?_
    refine x_get dX9_choice_83 0 14 inX9 fl_X9_148 rfl rfl (by decide) rfl ?_
    refine x_iconst 1 dX9_choice_86 (by decide) ?_
    refine x_isub dX9_choice_87 ?_
    refine x_rei 2 (by decide) ?_
    refine x_put (ws' := [(aN, .inr (9, [.ref aNs, .ref aNk, .int nkp, .ref aNf, .ref aNr, .ref aNp, .ref aNb, .ref aNa, .ref aNt, .int (nI nts), .ref aNbo, .ref aNsz, .ref aNnu, .int (nI ((pasA (hB b n) 41 true a1).1)), .int 2, .int (bI (pasA (hB b n) 41 true a1).2), .int ntp, .int (nI p), .int nnw, .int nsn, .int nwn, .ref aNl, .ref aNal, .ref aNlo, .int (nI nac), .ref aNw, .ref aNtr, .ref aNis, .ref aNbg, .ref aNow])), (aNs, .inl (g.2.1 0, 919, .inl (msF gr wk z lk sz br ru ki ma bb ce hd))), (aNt, .inl (g.2.1 0, 60, .inl (nIf tb))), (aNa, .inl (g.2.1 0, 2475, .inl (nIf fcN))), (aNr, .inl (g.2.1 0, 495, .inl (nIf rowB))), (aNb, .inl (g.2.1 0, 4096, .inl (nIf popN)))]) dX9_choice_88 0 14 inX9 tyX9_ok nmX9 fl_X9_148 rfl rfl (by decide) rfl (rfl) rfl (xlt rfl) rfl ?_
    refine x_iload_n dX9_choice_91 rfl ?_
    rw [← hQ]
    refine x_iret dX9_choice_92 rfl (Nat.le_of_ble_eq_true rfl) (Nat.le_of_ble_eq_true rfl) ?_
    try simp only []
    rw [show hrL (hB b n) (nmI wk L p) 2 nta = choR (hB b n) (srL (hB b n) (nmI wk L p) 1) (nta + 1) from rfl]
    first | (rw [choA hR1]; exact ⟨rfl, rfl⟩) | (rw [choB hR1 hq2]; exact ⟨rfl, rfl⟩) | (rw [choC hR1 hq2 hR3]; exact ⟨rfl, rfl⟩) | (rw [choD hR1 hq2 hR3]; exact ⟨rfl, rfl⟩)

-- == fr_2 ==
set_option maxRecDepth 100000 in
set_option maxHeartbeats 4000000 in
theorem ct_fr_2 (l : Launch) (g : XG) (aN aNs aNk aNf aNr aNp aNb aNa aNt aNbo aNsz aNnu aNl aNal aNlo aNw aNtr aNis aNbg aNow nts nta nac : Nat) (nkp ntp nnw nsn nwn : Int32) (gr wk lk sz br : Nat) (z : Int32) (ru ki ma bb hd : Nat → Nat) (ce : Nat → Int32) (tb b : Nat → Nat) (n L p : Nat) (ht : (ntp = 1 ∧ n = nts ∧ b = tb) ∨ (ntp = 0 ∧ n = sz ∧ b = bb)) (ha : nta ≤ n) (hn : n ≤ 60) (hb : ∀ j, b j < 256) (hp : p < 495) (hwk : wk ≤ 40) (hlat : latI ce wk = nI L) : Ct l g 14 0 0 yX9_factor cX9_factor 3 (some .int) [.ref aN] [(aN, .inr (9, [.ref aNs, .ref aNk, .int nkp, .ref aNf, .ref aNr, .ref aNp, .ref aNb, .ref aNa, .ref aNt, .int (nI nts), .ref aNbo, .ref aNsz, .ref aNnu, .int (nI nta), .int 2, .int 0, .int ntp, .int (nI p), .int nnw, .int nsn, .int nwn, .ref aNl, .ref aNal, .ref aNlo, .int (nI nac), .ref aNw, .ref aNtr, .ref aNis, .ref aNbg, .ref aNow])), (aNs, .inl (g.2.1 0, 919, .inl (msF gr wk z lk sz br ru ki ma bb ce hd))), (aNt, .inl (g.2.1 0, 60, .inl (nIf tb))), (aNa, .inl (g.2.1 0, 2475, .inl (nIf fcN))), (aNr, .inl (g.2.1 0, 495, .inl (nIf rowB))), (aNb, .inl (g.2.1 0, 4096, .inl (nIf popN)))] (xpi ((frL (hB b n) (nmI wk L p) 2 nta).2.2) [(aN, .inr (9, [.ref aNs, .ref aNk, .int nkp, .ref aNf, .ref aNr, .ref aNp, .ref aNb, .ref aNa, .ref aNt, .int (nI nts), .ref aNbo, .ref aNsz, .ref aNnu, .int (nI ((frL (hB b n) (nmI wk L p) 2 nta).1)), .int 2, .int (bI (frL (hB b n) (nmI wk L p) 2 nta).2.1), .int ntp, .int (nI p), .int nnw, .int nsn, .int nwn, .ref aNl, .ref aNal, .ref aNlo, .int (nI nac), .ref aNw, .ref aNtr, .ref aNis, .ref aNbg, .ref aNow])), (aNs, .inl (g.2.1 0, 919, .inl (msF gr wk z lk sz br ru ki ma bb ce hd))), (aNt, .inl (g.2.1 0, 60, .inl (nIf tb))), (aNa, .inl (g.2.1 0, 2475, .inl (nIf fcN))), (aNr, .inl (g.2.1 0, 495, .inl (nIf rowB))), (aNb, .inl (g.2.1 0, 4096, .inl (nIf popN)))]) := by
  refine Ct.ofX (lv := [some (.ref aN), none, none]) (by decide) rfl (Nat.le_of_ble_eq_true rfl) (fun κ => ?_)
  generalize hQ : xQ κ g 0 0 _ = Q
  refine x_aload_n dX9_factor_0 rfl ?_
  refine x_get dX9_factor_1 0 15 inX9 fl_X9_135 rfl rfl (by decide) rfl ?_
  refine x_if_eq dX9_factor_4 (fun c4 => ?_) (fun c4 => ?_)
  rotate_left
  · exact absurd c4 (by decide)
  refine x_aload_n dX9_factor_9 rfl ?_
  refine x_cVi0 dX9_factor_10 ml_X9_138 mX9_byteHere (ct_X9_byteHere κ.2.1 g aN aNs aNk aNf aNr aNp aNb aNa aNt aNbo aNsz aNnu aNl aNal aNlo aNw aNtr aNis aNbg aNow nts nta 2 p nac nkp 0 ntp nnw nsn nwn gr wk lk sz br z ru ki ma bb hd ce tb b n (ht) (by omega) (hn) (hb)) [0, 1, 2] rfl rfl 0 rfl rfl rfl (Nat.le_of_ble_eq_true rfl) (by decide) (Nat.le_refl _) (Nat.le_refl _) ?_
  rcases hI_cases (hB b n) nta with ⟨hlt, hh⟩ | ⟨hlt, hh⟩ <;> rw [hh]
  · skip
    refine x_istore_n (lv' := [some (.ref aN), some (.int (nI (hB b n nta))), none]) dX9_factor_13 (xlt rfl) rfl ?_
    refine x_iload_n dX9_factor_14 rfl ?_
    refine x_i2l dX9_factor_15 ?_
    refine x_ldc2 dX9_factor_16 kl_X9_144 ?_
    refine x_ldc2 dX9_factor_19 kl_X9_146 ?_
    refine x_cSi dX9_factor_22 ml_X9_98 mX9_isIn (ct_X9_isIn κ.2.1 g ((nI (hB b n nta)).toInt64) 48 57) rfl (Nat.le_of_ble_eq_true rfl) (by decide) (Nat.le_refl _) (Nat.le_refl _) ?_
    refine x_rei (wI (nI (hB b n nta)) 48 57) (inL_w (nI (hB b n nta)) 48 57 (by first | rfl | decide) (by first | rfl | decide)) ?_
    skip
    refine x_if_eq dX9_factor_25 (fun c25 => ?_) (fun c25 => ?_)
    · have c25 : (wI (nI (hB b n nta)) 48 57) = 0 := c25
      refine x_iload_n dX9_factor_33 rfl ?_
      refine x_bipush 40 dX9_factor_34 (by decide) ?_
      refine x_icmp_ne dX9_factor_36 (fun c36 => ?_) (fun c36 => ?_)
      · have c36 : ¬ ((nI (hB b n nta)) = 40) := c36
        have c36n := mt (nI_eq (a := (hB b n nta)) (b := 40) (by omega) (by omega)).mpr c36
        refine x_aload_n dX9_factor_44 rfl ?_
        refine x_iload_n dX9_factor_45 rfl ?_
        refine x_cVi0 dX9_factor_46 ml_X9_164 mX9_named (ct_named_n κ.2.1 g aN aNs aNk aNf aNr aNp aNb aNa aNt aNbo aNsz aNnu aNl aNal aNlo aNw aNtr aNis aNbg aNow nts nta 2 nac nkp 0 ntp nnw nsn nwn gr wk lk sz br z ru ki ma bb hd ce L p (hB b n nta) (hp) (hwk) (hlat) (hlt)) [0, 1, 3, 4, 5] rfl rfl 0 rfl rfl rfl (Nat.le_of_ble_eq_true rfl) (by decide) (Nat.le_refl _) (Nat.le_refl _) ?_
        have hnn := nmN_le (L := L) hwk hp (nmIx (hB b n nta))
        by_cases hni : nmIx (hB b n nta) < 7
        · rw [if_pos hni]
          refine x_istore_n (lv' := [some (.ref aN), some (.int (nI (hB b n nta))), some (.int (nI (nmN wk L (rowB p) (nmIx (hB b n nta)))))]) dX9_factor_49 (xlt rfl) rfl ?_
          refine x_aload_n dX9_factor_50 rfl ?_
          refine x_iload_n dX9_factor_51 rfl ?_
          refine x_if_ge dX9_factor_52 (fun c52 => ?_) (fun c52 => ?_)
          · have c52 : 0 ≤ (nI (nmN wk L (rowB p) (nmIx (hB b n nta)))) := c52
            have c52n := (nI_leI (a := 0) (b := (nmN wk L (rowB p) (nmIx (hB b n nta)))) (by omega) (by omega)).mp c52
            refine x_iconst 0 dX9_factor_59 (by decide) ?_
            refine x_put (ws' := [(aN, .inr (9, [.ref aNs, .ref aNk, .int nkp, .ref aNf, .ref aNr, .ref aNp, .ref aNb, .ref aNa, .ref aNt, .int (nI nts), .ref aNbo, .ref aNsz, .ref aNnu, .int (nI nta), .int 2, .int 0, .int ntp, .int (nI p), .int nnw, .int nsn, .int nwn, .ref aNl, .ref aNal, .ref aNlo, .int (nI nac), .ref aNw, .ref aNtr, .ref aNis, .ref aNbg, .ref aNow])), (aNs, .inl (g.2.1 0, 919, .inl (msF gr wk z lk sz br ru ki ma bb ce hd))), (aNt, .inl (g.2.1 0, 60, .inl (nIf tb))), (aNa, .inl (g.2.1 0, 2475, .inl (nIf fcN))), (aNr, .inl (g.2.1 0, 495, .inl (nIf rowB))), (aNb, .inl (g.2.1 0, 4096, .inl (nIf popN)))]) dX9_factor_60 0 15 inX9 tyX9_ok nmX9 fl_X9_135 rfl rfl (by decide) rfl (rfl) rfl (xlt rfl) rfl ?_
            refine x_aload_n dX9_factor_63 rfl ?_
            refine x_dup dX9_factor_64 rfl ?_
            refine x_get dX9_factor_65 0 13 inX9 fl_X9_119 rfl rfl (by decide) rfl ?_
            refine x_aload_n dX9_factor_68 rfl ?_
            refine x_get dX9_factor_69 0 15 inX9 fl_X9_135 rfl rfl (by decide) rfl ?_
            refine x_if_eq dX9_factor_72 (fun c72 => ?_) (fun c72 => ?_)
            rotate_left
            · exact absurd c72 (by decide)
            refine x_iconst 1 dX9_factor_79 (by decide) ?_
            refine x_iadd dX9_factor_80 ?_
            refine x_rei (nI (nta + 1)) (nI_addc nta 1 rfl) ?_
            refine x_put (ws' := [(aN, .inr (9, [.ref aNs, .ref aNk, .int nkp, .ref aNf, .ref aNr, .ref aNp, .ref aNb, .ref aNa, .ref aNt, .int (nI nts), .ref aNbo, .ref aNsz, .ref aNnu, .int (nI (nta + 1)), .int 2, .int 0, .int ntp, .int (nI p), .int nnw, .int nsn, .int nwn, .ref aNl, .ref aNal, .ref aNlo, .int (nI nac), .ref aNw, .ref aNtr, .ref aNis, .ref aNbg, .ref aNow])), (aNs, .inl (g.2.1 0, 919, .inl (msF gr wk z lk sz br ru ki ma bb ce hd))), (aNt, .inl (g.2.1 0, 60, .inl (nIf tb))), (aNa, .inl (g.2.1 0, 2475, .inl (nIf fcN))), (aNr, .inl (g.2.1 0, 495, .inl (nIf rowB))), (aNb, .inl (g.2.1 0, 4096, .inl (nIf popN)))]) dX9_factor_81 0 13 inX9 tyX9_ok nmX9 fl_X9_119 rfl rfl (by decide) rfl (rfl) rfl (xlt rfl) rfl ?_
            refine x_iload_n dX9_factor_84 rfl ?_
            rw [← hQ]
            refine x_iret dX9_factor_85 rfl (Nat.le_of_ble_eq_true rfl) (Nat.le_of_ble_eq_true rfl) ?_
            first | (rw [frL, facR, if_neg (by first | exact dgW0 hlt c25 | exact dg_no hlt), if_neg (by omega), if_pos hni]; exact ⟨rfl, rfl⟩) | (rw [frL, facR, if_neg (by first | exact dgW0 hlt c25 | exact dg_no hlt), if_neg (by omega), if_neg (by first | exact hni | exact nmIx_no hlt)]; exact ⟨rfl, rfl⟩)
          · have c52 : ¬ (0 ≤ (nI (nmN wk L (rowB p) (nmIx (hB b n nta))))) := c52
            have c52n := mt (nI_leI (a := 0) (b := (nmN wk L (rowB p) (nmIx (hB b n nta)))) (by omega) (by omega)).mpr c52
            exact absurd c52n (by omega)
        · rw [if_neg hni]
          refine x_istore_n (lv' := [some (.ref aN), some (.int (nI (hB b n nta))), some (.int ((-1)))]) dX9_factor_49 (xlt rfl) rfl ?_
          refine x_aload_n dX9_factor_50 rfl ?_
          refine x_iload_n dX9_factor_51 rfl ?_
          refine x_if_ge dX9_factor_52 (fun c52 => ?_) (fun c52 => ?_)
          · exact absurd c52 (by decide)
          refine x_iconst 1 dX9_factor_55 (by decide) ?_
          refine x_goto dX9_factor_56 ?_
          refine x_put (ws' := [(aN, .inr (9, [.ref aNs, .ref aNk, .int nkp, .ref aNf, .ref aNr, .ref aNp, .ref aNb, .ref aNa, .ref aNt, .int (nI nts), .ref aNbo, .ref aNsz, .ref aNnu, .int (nI nta), .int 2, .int 1, .int ntp, .int (nI p), .int nnw, .int nsn, .int nwn, .ref aNl, .ref aNal, .ref aNlo, .int (nI nac), .ref aNw, .ref aNtr, .ref aNis, .ref aNbg, .ref aNow])), (aNs, .inl (g.2.1 0, 919, .inl (msF gr wk z lk sz br ru ki ma bb ce hd))), (aNt, .inl (g.2.1 0, 60, .inl (nIf tb))), (aNa, .inl (g.2.1 0, 2475, .inl (nIf fcN))), (aNr, .inl (g.2.1 0, 495, .inl (nIf rowB))), (aNb, .inl (g.2.1 0, 4096, .inl (nIf popN)))]) dX9_factor_60 0 15 inX9 tyX9_ok nmX9 fl_X9_135 rfl rfl (by decide) rfl (rfl) rfl (xlt rfl) rfl ?_
          refine x_aload_n dX9_factor_63 rfl ?_
          refine x_dup dX9_factor_64 rfl ?_
          refine x_get dX9_factor_65 0 13 inX9 fl_X9_119 rfl rfl (by decide) rfl ?_
          refine x_aload_n dX9_factor_68 rfl ?_
          refine x_get dX9_factor_69 0 15 inX9 fl_X9_135 rfl rfl (by decide) rfl ?_
          refine x_if_eq dX9_factor_72 (fun c72 => ?_) (fun c72 => ?_)
          · exact absurd c72 (by decide)
          refine x_iconst 0 dX9_factor_75 (by decide) ?_
          refine x_goto dX9_factor_76 ?_
          refine x_iadd dX9_factor_80 ?_
          refine x_rei (nI (nta + 0)) (nI_addc nta 0 rfl) ?_
          refine x_put (ws' := [(aN, .inr (9, [.ref aNs, .ref aNk, .int nkp, .ref aNf, .ref aNr, .ref aNp, .ref aNb, .ref aNa, .ref aNt, .int (nI nts), .ref aNbo, .ref aNsz, .ref aNnu, .int (nI (nta + 0)), .int 2, .int 1, .int ntp, .int (nI p), .int nnw, .int nsn, .int nwn, .ref aNl, .ref aNal, .ref aNlo, .int (nI nac), .ref aNw, .ref aNtr, .ref aNis, .ref aNbg, .ref aNow])), (aNs, .inl (g.2.1 0, 919, .inl (msF gr wk z lk sz br ru ki ma bb ce hd))), (aNt, .inl (g.2.1 0, 60, .inl (nIf tb))), (aNa, .inl (g.2.1 0, 2475, .inl (nIf fcN))), (aNr, .inl (g.2.1 0, 495, .inl (nIf rowB))), (aNb, .inl (g.2.1 0, 4096, .inl (nIf popN)))]) dX9_factor_81 0 13 inX9 tyX9_ok nmX9 fl_X9_119 rfl rfl (by decide) rfl (rfl) rfl (xlt rfl) rfl ?_
          refine x_iload_n dX9_factor_84 rfl ?_
          rw [← hQ]
          refine x_iret dX9_factor_85 rfl (Nat.le_of_ble_eq_true rfl) (Nat.le_of_ble_eq_true rfl) ?_
          first | (rw [frL, facR, if_neg (by first | exact dgW0 hlt c25 | exact dg_no hlt), if_neg (by omega), if_pos hni]; exact ⟨rfl, rfl⟩) | (rw [frL, facR, if_neg (by first | exact dgW0 hlt c25 | exact dg_no hlt), if_neg (by omega), if_neg (by first | exact hni | exact nmIx_no hlt)]; exact ⟨rfl, rfl⟩)
      · have c36 : (nI (hB b n nta)) = 40 := c36
        have c36n := (nI_eq (a := (hB b n nta)) (b := 40) (by omega) (by omega)).mp c36
        refine x_aload_n dX9_factor_39 rfl ?_
        refine x_cVi (ws' := [(aN, .inr (9, [.ref aNs, .ref aNk, .int nkp, .ref aNf, .ref aNr, .ref aNp, .ref aNb, .ref aNa, .ref aNt, .int (nI nts), .ref aNbo, .ref aNsz, .ref aNnu, .int (nI ((hrL (hB b n) (nmI wk L p) 2 nta).1)), .int 2, .int (bI (hrL (hB b n) (nmI wk L p) 2 nta).2.1), .int ntp, .int (nI p), .int nnw, .int nsn, .int nwn, .ref aNl, .ref aNal, .ref aNlo, .int (nI nac), .ref aNw, .ref aNtr, .ref aNis, .ref aNbg, .ref aNow])), (aNs, .inl (g.2.1 0, 919, .inl (msF gr wk z lk sz br ru ki ma bb ce hd))), (aNt, .inl (g.2.1 0, 60, .inl (nIf tb))), (aNa, .inl (g.2.1 0, 2475, .inl (nIf fcN))), (aNr, .inl (g.2.1 0, 495, .inl (nIf rowB))), (aNb, .inl (g.2.1 0, 4096, .inl (nIf popN)))]) dX9_factor_40 ml_X9_161 mX9_choice (ct_ch_2 κ.2.1 g aN aNs aNk aNf aNr aNp aNb aNa aNt aNbo aNsz aNnu aNl aNal aNlo aNw aNtr aNis aNbg aNow nts nta nac nkp ntp nnw nsn nwn gr wk lk sz br z ru ki ma bb hd ce tb b n L p (ht) (by omega) (hn) (hb) (hp) (hwk) (hlat) (c36n)) [0, 1, 2, 3, 4, 5] rfl rfl 0 rfl rfl rfl (Nat.le_of_ble_eq_true rfl) (by decide) (Nat.le_refl _) (Nat.le_refl _) (rfl : [aN, aNs, aNt, aNa, aNr, aNb] = [aN, aNs, aNt, aNa, aNr, aNb]) rfl ?_
        rw [← hQ]
        refine x_iret dX9_factor_43 rfl (Nat.le_of_ble_eq_true rfl) (Nat.le_of_ble_eq_true rfl) ?_
        first | (rw [frL, facR, if_neg (dgW0 hlt c25), if_pos c36n]; exact ⟨rfl, rfl⟩)
    · have c25 : ¬ ((wI (nI (hB b n nta)) 48 57) = 0) := c25
      refine x_aload_n dX9_factor_28 rfl ?_
      refine x_cVi (ws' := [(aN, .inr (9, [.ref aNs, .ref aNk, .int nkp, .ref aNf, .ref aNr, .ref aNp, .ref aNb, .ref aNa, .ref aNt, .int (nI nts), .ref aNbo, .ref aNsz, .ref aNnu, .int (nI ((numI (hB b n) nta).1)), .int 2, .int 0, .int ntp, .int (nI p), .int nnw, .int nsn, .int nwn, .ref aNl, .ref aNal, .ref aNlo, .int (nI nac), .ref aNw, .ref aNtr, .ref aNis, .ref aNbg, .ref aNow])), (aNs, .inl (g.2.1 0, 919, .inl (msF gr wk z lk sz br ru ki ma bb ce hd))), (aNt, .inl (g.2.1 0, 60, .inl (nIf tb))), (aNa, .inl (g.2.1 0, 2475, .inl (nIf fcN))), (aNr, .inl (g.2.1 0, 495, .inl (nIf rowB))), (aNb, .inl (g.2.1 0, 4096, .inl (nIf popN)))]) dX9_factor_29 ml_X9_158 mX9_number (ct_X9_number κ.2.1 g aN aNs aNk aNf aNr aNp aNb aNa aNt aNbo aNsz aNnu aNl aNal aNlo aNw aNtr aNis aNbg aNow nts nta 2 p nac nkp ntp nnw nsn nwn gr wk lk sz br z ru ki ma bb hd ce tb b n (ht) (by omega) (hn) (hb)) [0, 1, 2] rfl rfl 0 rfl rfl rfl (Nat.le_of_ble_eq_true rfl) (by decide) (Nat.le_refl _) (Nat.le_refl _) (rfl : [aN, aNs, aNt] = [aN, aNs, aNt]) rfl ?_
      rw [← hQ]
      refine x_iret dX9_factor_32 rfl (Nat.le_of_ble_eq_true rfl) (Nat.le_of_ble_eq_true rfl) ?_
      first | (rw [frL, facR, if_pos (dgW1 hlt c25)]; exact ⟨rfl, rfl⟩)
  · skip
    refine x_istore_n (lv' := [some (.ref aN), some (.int ((-1))), none]) dX9_factor_13 (xlt rfl) rfl ?_
    refine x_iload_n dX9_factor_14 rfl ?_
    refine x_i2l dX9_factor_15 ?_
    refine x_ldc2 dX9_factor_16 kl_X9_144 ?_
    refine x_ldc2 dX9_factor_19 kl_X9_146 ?_
    refine x_cSi dX9_factor_22 ml_X9_98 mX9_isIn (ct_X9_isIn κ.2.1 g ((-1).toInt64) 48 57) rfl (Nat.le_of_ble_eq_true rfl) (by decide) (Nat.le_refl _) (Nat.le_refl _) ?_
    refine x_rei (wI (-1) 48 57) (inL_w (-1) 48 57 (by first | rfl | decide) (by first | rfl | decide)) ?_
    refine x_rei (0) (by decide) ?_
    refine x_if_eq dX9_factor_25 (fun c25 => ?_) (fun c25 => ?_)
    rotate_left
    · exact absurd c25 (by decide)
    refine x_iload_n dX9_factor_33 rfl ?_
    refine x_bipush 40 dX9_factor_34 (by decide) ?_
    refine x_icmp_ne dX9_factor_36 (fun c36 => ?_) (fun c36 => ?_)
    rotate_left
    · exact absurd c36 (by decide)
    refine x_aload_n dX9_factor_44 rfl ?_
    refine x_iload_n dX9_factor_45 rfl ?_
    refine x_cVi0 dX9_factor_46 ml_X9_164 mX9_named (ct_named_e κ.2.1 g aN aNs aNk aNf aNr aNp aNb aNa aNt aNbo aNsz aNnu aNl aNal aNlo aNw aNtr aNis aNbg aNow nts nta 2 nac nkp 0 ntp nnw nsn nwn gr wk lk sz br z ru ki ma bb hd ce p) [0, 1, 3, 4, 5] rfl rfl 0 rfl rfl rfl (Nat.le_of_ble_eq_true rfl) (by decide) (Nat.le_refl _) (Nat.le_refl _) ?_
    skip
    refine x_istore_n (lv' := [some (.ref aN), some (.int ((-1))), some (.int ((-1)))]) dX9_factor_49 (xlt rfl) rfl ?_
    refine x_aload_n dX9_factor_50 rfl ?_
    refine x_iload_n dX9_factor_51 rfl ?_
    refine x_if_ge dX9_factor_52 (fun c52 => ?_) (fun c52 => ?_)
    · exact absurd c52 (by decide)
    refine x_iconst 1 dX9_factor_55 (by decide) ?_
    refine x_goto dX9_factor_56 ?_
    refine x_put (ws' := [(aN, .inr (9, [.ref aNs, .ref aNk, .int nkp, .ref aNf, .ref aNr, .ref aNp, .ref aNb, .ref aNa, .ref aNt, .int (nI nts), .ref aNbo, .ref aNsz, .ref aNnu, .int (nI nta), .int 2, .int 1, .int ntp, .int (nI p), .int nnw, .int nsn, .int nwn, .ref aNl, .ref aNal, .ref aNlo, .int (nI nac), .ref aNw, .ref aNtr, .ref aNis, .ref aNbg, .ref aNow])), (aNs, .inl (g.2.1 0, 919, .inl (msF gr wk z lk sz br ru ki ma bb ce hd))), (aNt, .inl (g.2.1 0, 60, .inl (nIf tb))), (aNa, .inl (g.2.1 0, 2475, .inl (nIf fcN))), (aNr, .inl (g.2.1 0, 495, .inl (nIf rowB))), (aNb, .inl (g.2.1 0, 4096, .inl (nIf popN)))]) dX9_factor_60 0 15 inX9 tyX9_ok nmX9 fl_X9_135 rfl rfl (by decide) rfl (rfl) rfl (xlt rfl) rfl ?_
    refine x_aload_n dX9_factor_63 rfl ?_
    refine x_dup dX9_factor_64 rfl ?_
    refine x_get dX9_factor_65 0 13 inX9 fl_X9_119 rfl rfl (by decide) rfl ?_
    refine x_aload_n dX9_factor_68 rfl ?_
    refine x_get dX9_factor_69 0 15 inX9 fl_X9_135 rfl rfl (by decide) rfl ?_
    refine x_if_eq dX9_factor_72 (fun c72 => ?_) (fun c72 => ?_)
    · exact absurd c72 (by decide)
    refine x_iconst 0 dX9_factor_75 (by decide) ?_
    refine x_goto dX9_factor_76 ?_
    refine x_iadd dX9_factor_80 ?_
    refine x_rei (nI (nta + 0)) (nI_addc nta 0 rfl) ?_
    refine x_put (ws' := [(aN, .inr (9, [.ref aNs, .ref aNk, .int nkp, .ref aNf, .ref aNr, .ref aNp, .ref aNb, .ref aNa, .ref aNt, .int (nI nts), .ref aNbo, .ref aNsz, .ref aNnu, .int (nI (nta + 0)), .int 2, .int 1, .int ntp, .int (nI p), .int nnw, .int nsn, .int nwn, .ref aNl, .ref aNal, .ref aNlo, .int (nI nac), .ref aNw, .ref aNtr, .ref aNis, .ref aNbg, .ref aNow])), (aNs, .inl (g.2.1 0, 919, .inl (msF gr wk z lk sz br ru ki ma bb ce hd))), (aNt, .inl (g.2.1 0, 60, .inl (nIf tb))), (aNa, .inl (g.2.1 0, 2475, .inl (nIf fcN))), (aNr, .inl (g.2.1 0, 495, .inl (nIf rowB))), (aNb, .inl (g.2.1 0, 4096, .inl (nIf popN)))]) dX9_factor_81 0 13 inX9 tyX9_ok nmX9 fl_X9_119 rfl rfl (by decide) rfl (rfl) rfl (xlt rfl) rfl ?_
    refine x_iload_n dX9_factor_84 rfl ?_
    rw [← hQ]
    refine x_iret dX9_factor_85 rfl (Nat.le_of_ble_eq_true rfl) (Nat.le_of_ble_eq_true rfl) ?_
    first | (rw [frL, facR, if_neg (by first | exact dgW0 hlt c25 | exact dg_no hlt), if_neg (by omega), if_pos hni]; exact ⟨rfl, rfl⟩) | (rw [frL, facR, if_neg (by first | exact dgW0 hlt c25 | exact dg_no hlt), if_neg (by omega), if_neg (by first | exact hni | exact nmIx_no hlt)]; exact ⟨rfl, rfl⟩)

-- == tr_2 ==
set_option maxRecDepth 100000 in
set_option maxHeartbeats 4000000 in
theorem ct_tr_2 (l : Launch) (g : XG) (aN aNs aNk aNf aNr aNp aNb aNa aNt aNbo aNsz aNnu aNl aNal aNlo aNw aNtr aNis aNbg aNow nts nta nac : Nat) (nkp ntp nnw nsn nwn : Int32) (gr wk lk sz br : Nat) (z : Int32) (ru ki ma bb hd : Nat → Nat) (ce : Nat → Int32) (tb b : Nat → Nat) (n L p : Nat) (ht : (ntp = 1 ∧ n = nts ∧ b = tb) ∨ (ntp = 0 ∧ n = sz ∧ b = bb)) (ha : nta ≤ n) (hn : n ≤ 60) (hb : ∀ j, b j < 256) (hp : p < 495) (hwk : wk ≤ 40) (hlat : latI ce wk = nI L) : Ct l g 15 0 0 yX9_term cX9_term 2 (some .int) [.ref aN] [(aN, .inr (9, [.ref aNs, .ref aNk, .int nkp, .ref aNf, .ref aNr, .ref aNp, .ref aNb, .ref aNa, .ref aNt, .int (nI nts), .ref aNbo, .ref aNsz, .ref aNnu, .int (nI nta), .int 2, .int 0, .int ntp, .int (nI p), .int nnw, .int nsn, .int nwn, .ref aNl, .ref aNal, .ref aNlo, .int (nI nac), .ref aNw, .ref aNtr, .ref aNis, .ref aNbg, .ref aNow])), (aNs, .inl (g.2.1 0, 919, .inl (msF gr wk z lk sz br ru ki ma bb ce hd))), (aNt, .inl (g.2.1 0, 60, .inl (nIf tb))), (aNa, .inl (g.2.1 0, 2475, .inl (nIf fcN))), (aNr, .inl (g.2.1 0, 495, .inl (nIf rowB))), (aNb, .inl (g.2.1 0, 4096, .inl (nIf popN)))] (xpi ((trL (hB b n) (nmI wk L p) 2 nta).2.2) [(aN, .inr (9, [.ref aNs, .ref aNk, .int nkp, .ref aNf, .ref aNr, .ref aNp, .ref aNb, .ref aNa, .ref aNt, .int (nI nts), .ref aNbo, .ref aNsz, .ref aNnu, .int (nI ((trL (hB b n) (nmI wk L p) 2 nta).1)), .int 2, .int (bI (trL (hB b n) (nmI wk L p) 2 nta).2.1), .int ntp, .int (nI p), .int nnw, .int nsn, .int nwn, .ref aNl, .ref aNal, .ref aNlo, .int (nI nac), .ref aNw, .ref aNtr, .ref aNis, .ref aNbg, .ref aNow])), (aNs, .inl (g.2.1 0, 919, .inl (msF gr wk z lk sz br ru ki ma bb ce hd))), (aNt, .inl (g.2.1 0, 60, .inl (nIf tb))), (aNa, .inl (g.2.1 0, 2475, .inl (nIf fcN))), (aNr, .inl (g.2.1 0, 495, .inl (nIf rowB))), (aNb, .inl (g.2.1 0, 4096, .inl (nIf popN)))]) := by
  refine Ct.ofX (lv := [some (.ref aN), none]) (by decide) rfl (Nat.le_of_ble_eq_true rfl) (fun κ => ?_)
  generalize hQ : xQ κ g 0 0 _ = Q
  refine x_aload_n dX9_term_0 rfl ?_
  refine x_cVi (ws' := [(aN, .inr (9, [.ref aNs, .ref aNk, .int nkp, .ref aNf, .ref aNr, .ref aNp, .ref aNb, .ref aNa, .ref aNt, .int (nI nts), .ref aNbo, .ref aNsz, .ref aNnu, .int (nI ((frL (hB b n) (nmI wk L p) 2 nta).1)), .int 2, .int (bI (frL (hB b n) (nmI wk L p) 2 nta).2.1), .int ntp, .int (nI p), .int nnw, .int nsn, .int nwn, .ref aNl, .ref aNal, .ref aNlo, .int (nI nac), .ref aNw, .ref aNtr, .ref aNis, .ref aNbg, .ref aNow])), (aNs, .inl (g.2.1 0, 919, .inl (msF gr wk z lk sz br ru ki ma bb ce hd))), (aNt, .inl (g.2.1 0, 60, .inl (nIf tb))), (aNa, .inl (g.2.1 0, 2475, .inl (nIf fcN))), (aNr, .inl (g.2.1 0, 495, .inl (nIf rowB))), (aNb, .inl (g.2.1 0, 4096, .inl (nIf popN)))]) dX9_term_1 ml_X9_167 mX9_factor (ct_fr_2 κ.2.1 g aN aNs aNk aNf aNr aNp aNb aNa aNt aNbo aNsz aNnu aNl aNal aNlo aNw aNtr aNis aNbg aNow nts nta nac nkp ntp nnw nsn nwn gr wk lk sz br z ru ki ma bb hd ce tb b n L p (ht) (by omega) (hn) (hb) (hp) (hwk) (hlat)) [0, 1, 2, 3, 4, 5] rfl rfl 0 rfl rfl rfl (Nat.le_of_ble_eq_true rfl) (by decide) (Nat.le_refl _) (Nat.le_refl _) (rfl : [aN, aNs, aNt, aNa, aNr, aNb] = [aN, aNs, aNt, aNa, aNr, aNb]) rfl ?_
  have hk0 := frL_ok (nv := nmI wk L p) (okH_hB b n) 2 nta ha
  refine x_istore_n (lv' := [some (.ref aN), some (.int ((frL (hB b n) (nmI wk L p) 2 nta).2.2))]) dX9_term_4 (xlt rfl) rfl ?_
  have L5_1 : ∀ (i : Nat), i ≤ 60 → ∀ (qa : Nat), ∀ (qb : Bool), ∀ (qv : Int32), (qa, qb, qv) = itr (tmS (hB b n) (frL (hB b n) (nmI wk L p) 2)) i (frL (hB b n) (nmI wk L p) 2 nta) → qa ≤ n → i ≤ qa → Xs κ g 15 0 0 cX9_term yX9_term (some .int) Q 0 0 5 [some (.ref aN), some (.int qv)] [] [(aN, .inr (9, [.ref aNs, .ref aNk, .int nkp, .ref aNf, .ref aNr, .ref aNp, .ref aNb, .ref aNa, .ref aNt, .int (nI nts), .ref aNbo, .ref aNsz, .ref aNnu, .int (nI qa), .int 2, .int (bI qb), .int ntp, .int (nI p), .int nnw, .int nsn, .int nwn, .ref aNl, .ref aNal, .ref aNlo, .int (nI nac), .ref aNw, .ref aNtr, .ref aNis, .ref aNbg, .ref aNow])), (aNs, .inl (g.2.1 0, 919, .inl (msF gr wk z lk sz br ru ki ma bb ce hd))), (aNt, .inl (g.2.1 0, 60, .inl (nIf tb))), (aNa, .inl (g.2.1 0, 2475, .inl (nIf fcN))), (aNr, .inl (g.2.1 0, 495, .inl (nIf rowB))), (aNb, .inl (g.2.1 0, 4096, .inl (nIf popN)))] := by
    refine upTo 60 (fun i hi5 ih5 => ?_)
    intro qa
    intro qb
    intro qv
    intro hqq hqa hqi
    refine x_aload_n dX9_term_5 rfl ?_
    rcases tk_cases qb (hB b n) qa 42 with ⟨rfl, hq2⟩ | ⟨rfl, hq2⟩ | rfl
    · skip
      refine x_eq (lv' := [some (.ref aN), some (.int qv)]) (st' := [.ref aN]) (ws' := [(aN, .inr (9, [.ref aNs, .ref aNk, .int nkp, .ref aNf, .ref aNr, .ref aNp, .ref aNb, .ref aNa, .ref aNt, .int (nI nts), .ref aNbo, .ref aNsz, .ref aNnu, .int (nI qa), .int 2, .int 0, .int ntp, .int (nI p), .int nnw, .int nsn, .int nwn, .ref aNl, .ref aNal, .ref aNlo, .int (nI nac), .ref aNw, .ref aNtr, .ref aNis, .ref aNbg, .ref aNow])), (aNs, .inl (g.2.1 0, 919, .inl (msF gr wk z lk sz br ru ki ma bb ce hd))), (aNt, .inl (g.2.1 0, 60, .inl (nIf tb))), (aNa, .inl (g.2.1 0, 2475, .inl (nIf fcN))), (aNr, .inl (g.2.1 0, 495, .inl (nIf rowB))), (aNb, .inl (g.2.1 0, 4096, .inl (nIf popN)))]) ?_ rfl rfl rfl
      refine x_bipush 42 dX9_term_6 (by decide) ?_
      refine x_cVi (ws' := [(aN, .inr (9, [.ref aNs, .ref aNk, .int nkp, .ref aNf, .ref aNr, .ref aNp, .ref aNb, .ref aNa, .ref aNt, .int (nI nts), .ref aNbo, .ref aNsz, .ref aNnu, .int (nI (qa + 1)), .int 2, .int 0, .int ntp, .int (nI p), .int nnw, .int nsn, .int nwn, .ref aNl, .ref aNal, .ref aNlo, .int (nI nac), .ref aNw, .ref aNtr, .ref aNis, .ref aNbg, .ref aNow])), (aNs, .inl (g.2.1 0, 919, .inl (msF gr wk z lk sz br ru ki ma bb ce hd))), (aNt, .inl (g.2.1 0, 60, .inl (nIf tb))), (aNa, .inl (g.2.1 0, 2475, .inl (nIf fcN))), (aNr, .inl (g.2.1 0, 495, .inl (nIf rowB))), (aNb, .inl (g.2.1 0, 4096, .inl (nIf popN)))]) dX9_term_8 ml_X9_141 mX9_takes (ct_takes_y κ.2.1 g aN aNs aNk aNf aNr aNp aNb aNa aNt aNbo aNsz aNnu aNl aNal aNlo aNw aNtr aNis aNbg aNow nts qa 2 p nac nkp ntp nnw nsn nwn gr wk lk sz br z ru ki ma bb hd ce tb b n 42 (ht) (by omega) (hn) (hb) (by decide) (hq2)) [0, 1, 2] rfl rfl 0 rfl rfl rfl (Nat.le_of_ble_eq_true rfl) (by decide) (Nat.le_refl _) (Nat.le_refl _) (rfl : [aN, aNs, aNt] = [aN, aNs, aNt]) rfl ?_
      refine x_if_eq dX9_term_11 (fun c11 => ?_) (fun c11 => ?_)
      · exact absurd c11 (by decide)
      refine x_iload_n dX9_term_14 rfl ?_
      have hav := adv_le (okH_hB b n) hq2 (by decide)
      refine x_aload_n dX9_term_15 rfl ?_
      refine x_cVi (ws' := [(aN, .inr (9, [.ref aNs, .ref aNk, .int nkp, .ref aNf, .ref aNr, .ref aNp, .ref aNb, .ref aNa, .ref aNt, .int (nI nts), .ref aNbo, .ref aNsz, .ref aNnu, .int (nI ((frL (hB b n) (nmI wk L p) 2 (qa + 1)).1)), .int 2, .int (bI (frL (hB b n) (nmI wk L p) 2 (qa + 1)).2.1), .int ntp, .int (nI p), .int nnw, .int nsn, .int nwn, .ref aNl, .ref aNal, .ref aNlo, .int (nI nac), .ref aNw, .ref aNtr, .ref aNis, .ref aNbg, .ref aNow])), (aNs, .inl (g.2.1 0, 919, .inl (msF gr wk z lk sz br ru ki ma bb ce hd))), (aNt, .inl (g.2.1 0, 60, .inl (nIf tb))), (aNa, .inl (g.2.1 0, 2475, .inl (nIf fcN))), (aNr, .inl (g.2.1 0, 495, .inl (nIf rowB))), (aNb, .inl (g.2.1 0, 4096, .inl (nIf popN)))]) dX9_term_16 ml_X9_167 mX9_factor (ct_fr_2 κ.2.1 g aN aNs aNk aNf aNr aNp aNb aNa aNt aNbo aNsz aNnu aNl aNal aNlo aNw aNtr aNis aNbg aNow nts (qa + 1) nac nkp ntp nnw nsn nwn gr wk lk sz br z ru ki ma bb hd ce tb b n L p (ht) (by omega) (hn) (hb) (hp) (hwk) (hlat)) [0, 1, 2, 3, 4, 5] rfl rfl 0 rfl rfl rfl (Nat.le_of_ble_eq_true rfl) (by decide) (Nat.le_refl _) (Nat.le_refl _) (rfl : [aN, aNs, aNt, aNa, aNr, aNb] = [aN, aNs, aNt, aNa, aNr, aNb]) rfl ?_
      have hk := frL_ok (nv := nmI wk L p) (okH_hB b n) 2 (qa + 1) hav
      refine x_imul dX9_term_19 ?_
      refine x_istore_n (lv' := [some (.ref aN), some (.int (qv * ((frL (hB b n) (nmI wk L p) 2 (qa + 1)).2.2)))]) dX9_term_20 (xlt rfl) rfl ?_
      refine x_goto dX9_term_21 ?_
      exact ih5 (by omega) ((frL (hB b n) (nmI wk L p) 2 (qa + 1)).1) ((frL (hB b n) (nmI wk L p) 2 (qa + 1)).2.1) _ (by rw [itr, ← hqq]; simp only [tmS, hq2]; rfl) (hk.2) (by have := hk.1; omega)
    · skip
      refine x_eq (lv' := [some (.ref aN), some (.int qv)]) (st' := [.ref aN]) (ws' := [(aN, .inr (9, [.ref aNs, .ref aNk, .int nkp, .ref aNf, .ref aNr, .ref aNp, .ref aNb, .ref aNa, .ref aNt, .int (nI nts), .ref aNbo, .ref aNsz, .ref aNnu, .int (nI qa), .int 2, .int 0, .int ntp, .int (nI p), .int nnw, .int nsn, .int nwn, .ref aNl, .ref aNal, .ref aNlo, .int (nI nac), .ref aNw, .ref aNtr, .ref aNis, .ref aNbg, .ref aNow])), (aNs, .inl (g.2.1 0, 919, .inl (msF gr wk z lk sz br ru ki ma bb ce hd))), (aNt, .inl (g.2.1 0, 60, .inl (nIf tb))), (aNa, .inl (g.2.1 0, 2475, .inl (nIf fcN))), (aNr, .inl (g.2.1 0, 495, .inl (nIf rowB))), (aNb, .inl (g.2.1 0, 4096, .inl (nIf popN)))]) ?_ rfl rfl rfl
      refine x_bipush 42 dX9_term_6 (by decide) ?_
      refine x_cVi0 dX9_term_8 ml_X9_141 mX9_takes (ct_takes_n κ.2.1 g aN aNs aNk aNf aNr aNp aNb aNa aNt aNbo aNsz aNnu aNl aNal aNlo aNw aNtr aNis aNbg aNow nts qa 2 p nac nkp ntp nnw nsn nwn gr wk lk sz br z ru ki ma bb hd ce tb b n 42 (ht) (by omega) (hn) (hb) (by decide) (hq2)) [0, 1, 2] rfl rfl 0 rfl rfl rfl (Nat.le_of_ble_eq_true rfl) (by decide) (Nat.le_refl _) (Nat.le_refl _) ?_
      refine x_if_eq dX9_term_11 (fun c11 => ?_) (fun c11 => ?_)
      rotate_left
      · exact absurd c11 (by decide)
      refine x_iload_n dX9_term_24 rfl ?_
      rw [← hQ]
      refine x_iret dX9_term_25 rfl (Nat.le_of_ble_eq_true rfl) (Nat.le_of_ble_eq_true rfl) ?_
      first | (rw [show trL (hB b n) (nmI wk L p) 2 nta = (qa, true, qv) from itr_fix hqq rfl hi5]; exact ⟨rfl, rfl⟩) | (rw [show trL (hB b n) (nmI wk L p) 2 nta = (qa, false, qv) from itr_fix hqq (by simp [tmS, hq2]) hi5]; exact ⟨rfl, rfl⟩)
    · skip
      refine x_eq (lv' := [some (.ref aN), some (.int qv)]) (st' := [.ref aN]) (ws' := [(aN, .inr (9, [.ref aNs, .ref aNk, .int nkp, .ref aNf, .ref aNr, .ref aNp, .ref aNb, .ref aNa, .ref aNt, .int (nI nts), .ref aNbo, .ref aNsz, .ref aNnu, .int (nI qa), .int 2, .int 1, .int ntp, .int (nI p), .int nnw, .int nsn, .int nwn, .ref aNl, .ref aNal, .ref aNlo, .int (nI nac), .ref aNw, .ref aNtr, .ref aNis, .ref aNbg, .ref aNow])), (aNs, .inl (g.2.1 0, 919, .inl (msF gr wk z lk sz br ru ki ma bb ce hd))), (aNt, .inl (g.2.1 0, 60, .inl (nIf tb))), (aNa, .inl (g.2.1 0, 2475, .inl (nIf fcN))), (aNr, .inl (g.2.1 0, 495, .inl (nIf rowB))), (aNb, .inl (g.2.1 0, 4096, .inl (nIf popN)))]) ?_ rfl rfl rfl
      refine x_bipush 42 dX9_term_6 (by decide) ?_
      refine x_cVi0 dX9_term_8 ml_X9_141 mX9_takes (ct_takes_b κ.2.1 g aN aNs aNk aNf aNr aNp aNb aNa aNt aNbo aNsz aNnu aNl aNal aNlo aNw aNtr aNis aNbg aNow nts qa 2 p nac nkp ntp nnw nsn nwn gr wk lk sz br z ru ki ma bb hd ce tb 42) [0, 1, 2] rfl rfl 0 rfl rfl rfl (Nat.le_of_ble_eq_true rfl) (by decide) (Nat.le_refl _) (Nat.le_refl _) ?_
      refine x_if_eq dX9_term_11 (fun c11 => ?_) (fun c11 => ?_)
      rotate_left
      · exact absurd c11 (by decide)
      refine x_iload_n dX9_term_24 rfl ?_
      rw [← hQ]
      refine x_iret dX9_term_25 rfl (Nat.le_of_ble_eq_true rfl) (Nat.le_of_ble_eq_true rfl) ?_
      first | (rw [show trL (hB b n) (nmI wk L p) 2 nta = (qa, true, qv) from itr_fix hqq rfl hi5]; exact ⟨rfl, rfl⟩) | (rw [show trL (hB b n) (nmI wk L p) 2 nta = (qa, false, qv) from itr_fix hqq (by simp [tmS, hq2]) hi5]; exact ⟨rfl, rfl⟩)
  exact L5_1 0 (Nat.zero_le _) ((frL (hB b n) (nmI wk L p) 2 nta).1) ((frL (hB b n) (nmI wk L p) 2 nta).2.1) _ (rfl) (hk0.2) (Nat.zero_le _)

-- == sr_2 ==
set_option maxRecDepth 100000 in
set_option maxHeartbeats 4000000 in
theorem ct_sr_2 (l : Launch) (g : XG) (aN aNs aNk aNf aNr aNp aNb aNa aNt aNbo aNsz aNnu aNl aNal aNlo aNw aNtr aNis aNbg aNow nts nta nac : Nat) (nkp ntp nnw nsn nwn : Int32) (gr wk lk sz br : Nat) (z : Int32) (ru ki ma bb hd : Nat → Nat) (ce : Nat → Int32) (tb b : Nat → Nat) (n L p : Nat) (ht : (ntp = 1 ∧ n = nts ∧ b = tb) ∨ (ntp = 0 ∧ n = sz ∧ b = bb)) (ha : nta ≤ n) (hn : n ≤ 60) (hb : ∀ j, b j < 256) (hp : p < 495) (hwk : wk ≤ 40) (hlat : latI ce wk = nI L) : Ct l g 16 0 0 yX9_sum cX9_sum 5 (some .int) [.ref aN] [(aN, .inr (9, [.ref aNs, .ref aNk, .int nkp, .ref aNf, .ref aNr, .ref aNp, .ref aNb, .ref aNa, .ref aNt, .int (nI nts), .ref aNbo, .ref aNsz, .ref aNnu, .int (nI nta), .int 2, .int 0, .int ntp, .int (nI p), .int nnw, .int nsn, .int nwn, .ref aNl, .ref aNal, .ref aNlo, .int (nI nac), .ref aNw, .ref aNtr, .ref aNis, .ref aNbg, .ref aNow])), (aNs, .inl (g.2.1 0, 919, .inl (msF gr wk z lk sz br ru ki ma bb ce hd))), (aNt, .inl (g.2.1 0, 60, .inl (nIf tb))), (aNa, .inl (g.2.1 0, 2475, .inl (nIf fcN))), (aNr, .inl (g.2.1 0, 495, .inl (nIf rowB))), (aNb, .inl (g.2.1 0, 4096, .inl (nIf popN)))] (xpi ((srL (hB b n) (nmI wk L p) 2 nta).2.2) [(aN, .inr (9, [.ref aNs, .ref aNk, .int nkp, .ref aNf, .ref aNr, .ref aNp, .ref aNb, .ref aNa, .ref aNt, .int (nI nts), .ref aNbo, .ref aNsz, .ref aNnu, .int (nI ((srL (hB b n) (nmI wk L p) 2 nta).1)), .int 2, .int (bI (srL (hB b n) (nmI wk L p) 2 nta).2.1), .int ntp, .int (nI p), .int nnw, .int nsn, .int nwn, .ref aNl, .ref aNal, .ref aNlo, .int (nI nac), .ref aNw, .ref aNtr, .ref aNis, .ref aNbg, .ref aNow])), (aNs, .inl (g.2.1 0, 919, .inl (msF gr wk z lk sz br ru ki ma bb ce hd))), (aNt, .inl (g.2.1 0, 60, .inl (nIf tb))), (aNa, .inl (g.2.1 0, 2475, .inl (nIf fcN))), (aNr, .inl (g.2.1 0, 495, .inl (nIf rowB))), (aNb, .inl (g.2.1 0, 4096, .inl (nIf popN)))]) := by
  refine Ct.ofX (lv := [some (.ref aN), none, none, none, none]) (by decide) rfl (Nat.le_of_ble_eq_true rfl) (fun κ => ?_)
  generalize hQ : xQ κ g 0 0 _ = Q
  refine x_aload_n dX9_sum_0 rfl ?_
  refine x_cVi (ws' := [(aN, .inr (9, [.ref aNs, .ref aNk, .int nkp, .ref aNf, .ref aNr, .ref aNp, .ref aNb, .ref aNa, .ref aNt, .int (nI nts), .ref aNbo, .ref aNsz, .ref aNnu, .int (nI ((trL (hB b n) (nmI wk L p) 2 nta).1)), .int 2, .int (bI (trL (hB b n) (nmI wk L p) 2 nta).2.1), .int ntp, .int (nI p), .int nnw, .int nsn, .int nwn, .ref aNl, .ref aNal, .ref aNlo, .int (nI nac), .ref aNw, .ref aNtr, .ref aNis, .ref aNbg, .ref aNow])), (aNs, .inl (g.2.1 0, 919, .inl (msF gr wk z lk sz br ru ki ma bb ce hd))), (aNt, .inl (g.2.1 0, 60, .inl (nIf tb))), (aNa, .inl (g.2.1 0, 2475, .inl (nIf fcN))), (aNr, .inl (g.2.1 0, 495, .inl (nIf rowB))), (aNb, .inl (g.2.1 0, 4096, .inl (nIf popN)))]) dX9_sum_1 ml_X9_170 mX9_term (ct_tr_2 κ.2.1 g aN aNs aNk aNf aNr aNp aNb aNa aNt aNbo aNsz aNnu aNl aNal aNlo aNw aNtr aNis aNbg aNow nts nta nac nkp ntp nnw nsn nwn gr wk lk sz br z ru ki ma bb hd ce tb b n L p (ht) (by omega) (hn) (hb) (hp) (hwk) (hlat)) [0, 1, 2, 3, 4, 5] rfl rfl 0 rfl rfl rfl (Nat.le_of_ble_eq_true rfl) (by decide) (Nat.le_refl _) (Nat.le_refl _) (rfl : [aN, aNs, aNt, aNa, aNr, aNb] = [aN, aNs, aNt, aNa, aNr, aNb]) rfl ?_
  have hk0 := trL_ok (nv := nmI wk L p) (okH_hB b n) 2 nta ha
  refine x_istore_n (lv' := [some (.ref aN), some (.int ((trL (hB b n) (nmI wk L p) 2 nta).2.2)), none, none, none]) dX9_sum_4 (xlt rfl) rfl ?_
  refine x_iconst 1 dX9_sum_5 (by decide) ?_
  refine x_istore_n (lv' := [some (.ref aN), some (.int ((trL (hB b n) (nmI wk L p) 2 nta).2.2)), some (.int 1), none, none]) dX9_sum_6 (xlt rfl) rfl ?_
  have L7_1 : ∀ (i : Nat), i ≤ 60 → ∀ (qa : Nat), ∀ (qb : Bool), ∀ (qv : Int32), (qa, qb, qv) = itr (snS (hB b n) (trL (hB b n) (nmI wk L p) 2)) i (trL (hB b n) (nmI wk L p) 2 nta) → qa ≤ n → i ≤ qa → Xs κ g 16 0 0 cX9_sum yX9_sum (some .int) Q 0 0 7 [some (.ref aN), some (.int qv), some (.int 1), none, none] [] [(aN, .inr (9, [.ref aNs, .ref aNk, .int nkp, .ref aNf, .ref aNr, .ref aNp, .ref aNb, .ref aNa, .ref aNt, .int (nI nts), .ref aNbo, .ref aNsz, .ref aNnu, .int (nI qa), .int 2, .int (bI qb), .int ntp, .int (nI p), .int nnw, .int nsn, .int nwn, .ref aNl, .ref aNal, .ref aNlo, .int (nI nac), .ref aNw, .ref aNtr, .ref aNis, .ref aNbg, .ref aNow])), (aNs, .inl (g.2.1 0, 919, .inl (msF gr wk z lk sz br ru ki ma bb ce hd))), (aNt, .inl (g.2.1 0, 60, .inl (nIf tb))), (aNa, .inl (g.2.1 0, 2475, .inl (nIf fcN))), (aNr, .inl (g.2.1 0, 495, .inl (nIf rowB))), (aNb, .inl (g.2.1 0, 4096, .inl (nIf popN)))] := by
    refine upTo 60 (fun i hi7 ih7 => ?_)
    intro qa
    intro qb
    intro qv
    intro hqq hqa hqi
    refine x_iload_n dX9_sum_7 rfl ?_
    refine x_if_eq dX9_sum_8 (fun c8 => ?_) (fun c8 => ?_)
    · exact absurd c8 (by decide)
    rcases sm_cases qb (hB b n) qa with ⟨rfl, hq2⟩ | ⟨rfl, hq2, hq3⟩ | ⟨rfl, hq2, hq3⟩ | rfl
    · skip
      refine x_eq (lv' := [some (.ref aN), some (.int qv), some (.int 1), none, none]) (st' := []) (ws' := [(aN, .inr (9, [.ref aNs, .ref aNk, .int nkp, .ref aNf, .ref aNr, .ref aNp, .ref aNb, .ref aNa, .ref aNt, .int (nI nts), .ref aNbo, .ref aNsz, .ref aNnu, .int (nI qa), .int 2, .int 0, .int ntp, .int (nI p), .int nnw, .int nsn, .int nwn, .ref aNl, .ref aNal, .ref aNlo, .int (nI nac), .ref aNw, .ref aNtr, .ref aNis, .ref aNbg, .ref aNow])), (aNs, .inl (g.2.1 0, 919, .inl (msF gr wk z lk sz br ru ki ma bb ce hd))), (aNt, .inl (g.2.1 0, 60, .inl (nIf tb))), (aNa, .inl (g.2.1 0, 2475, .inl (nIf fcN))), (aNr, .inl (g.2.1 0, 495, .inl (nIf rowB))), (aNb, .inl (g.2.1 0, 4096, .inl (nIf popN)))]) ?_ rfl rfl rfl
      refine x_aload_n dX9_sum_11 rfl ?_
      refine x_bipush 43 dX9_sum_12 (by decide) ?_
      refine x_cVi (ws' := [(aN, .inr (9, [.ref aNs, .ref aNk, .int nkp, .ref aNf, .ref aNr, .ref aNp, .ref aNb, .ref aNa, .ref aNt, .int (nI nts), .ref aNbo, .ref aNsz, .ref aNnu, .int (nI (qa + 1)), .int 2, .int 0, .int ntp, .int (nI p), .int nnw, .int nsn, .int nwn, .ref aNl, .ref aNal, .ref aNlo, .int (nI nac), .ref aNw, .ref aNtr, .ref aNis, .ref aNbg, .ref aNow])), (aNs, .inl (g.2.1 0, 919, .inl (msF gr wk z lk sz br ru ki ma bb ce hd))), (aNt, .inl (g.2.1 0, 60, .inl (nIf tb))), (aNa, .inl (g.2.1 0, 2475, .inl (nIf fcN))), (aNr, .inl (g.2.1 0, 495, .inl (nIf rowB))), (aNb, .inl (g.2.1 0, 4096, .inl (nIf popN)))]) dX9_sum_14 ml_X9_141 mX9_takes (ct_takes_y κ.2.1 g aN aNs aNk aNf aNr aNp aNb aNa aNt aNbo aNsz aNnu aNl aNal aNlo aNw aNtr aNis aNbg aNow nts qa 2 p nac nkp ntp nnw nsn nwn gr wk lk sz br z ru ki ma bb hd ce tb b n 43 (ht) (by omega) (hn) (hb) (by decide) (hq2)) [0, 1, 2] rfl rfl 0 rfl rfl rfl (Nat.le_of_ble_eq_true rfl) (by decide) (Nat.le_refl _) (Nat.le_refl _) (rfl : [aN, aNs, aNt] = [aN, aNs, aNt]) rfl ?_
      refine x_istore_n (lv' := [some (.ref aN), some (.int qv), some (.int 1), some (.int 1), none]) dX9_sum_17 (xlt rfl) rfl ?_
      refine x_iload_n dX9_sum_18 rfl ?_
      refine x_if_ne dX9_sum_19 (fun c19 => ?_) (fun c19 => ?_)
      rotate_left
      · exact absurd c19 (by decide)
      refine x_iconst 1 dX9_sum_31 (by decide) ?_
      refine x_goto dX9_sum_32 ?_
      refine x_istore_n (lv' := [some (.ref aN), some (.int qv), some (.int 1), some (.int 1), none]) dX9_sum_36 (xlt rfl) rfl ?_
      refine x_iload_n dX9_sum_37 rfl ?_
      refine x_if_eq dX9_sum_38 (fun c38 => ?_) (fun c38 => ?_)
      · exact absurd c38 (by decide)
      have hav : qa + 1 ≤ n := by first | exact adv_le (okH_hB b n) hq2 (by decide) | exact adv_le (okH_hB b n) hq3 (by decide)
      refine x_aload_n dX9_sum_41 rfl ?_
      refine x_cVi (ws' := [(aN, .inr (9, [.ref aNs, .ref aNk, .int nkp, .ref aNf, .ref aNr, .ref aNp, .ref aNb, .ref aNa, .ref aNt, .int (nI nts), .ref aNbo, .ref aNsz, .ref aNnu, .int (nI ((trL (hB b n) (nmI wk L p) 2 (qa + 1)).1)), .int 2, .int (bI (trL (hB b n) (nmI wk L p) 2 (qa + 1)).2.1), .int ntp, .int (nI p), .int nnw, .int nsn, .int nwn, .ref aNl, .ref aNal, .ref aNlo, .int (nI nac), .ref aNw, .ref aNtr, .ref aNis, .ref aNbg, .ref aNow])), (aNs, .inl (g.2.1 0, 919, .inl (msF gr wk z lk sz br ru ki ma bb ce hd))), (aNt, .inl (g.2.1 0, 60, .inl (nIf tb))), (aNa, .inl (g.2.1 0, 2475, .inl (nIf fcN))), (aNr, .inl (g.2.1 0, 495, .inl (nIf rowB))), (aNb, .inl (g.2.1 0, 4096, .inl (nIf popN)))]) dX9_sum_42 ml_X9_170 mX9_term (ct_tr_2 κ.2.1 g aN aNs aNk aNf aNr aNp aNb aNa aNt aNbo aNsz aNnu aNl aNal aNlo aNw aNtr aNis aNbg aNow nts (qa + 1) nac nkp ntp nnw nsn nwn gr wk lk sz br z ru ki ma bb hd ce tb b n L p (ht) (by omega) (hn) (hb) (hp) (hwk) (hlat)) [0, 1, 2, 3, 4, 5] rfl rfl 0 rfl rfl rfl (Nat.le_of_ble_eq_true rfl) (by decide) (Nat.le_refl _) (Nat.le_refl _) (rfl : [aN, aNs, aNt, aNa, aNr, aNb] = [aN, aNs, aNt, aNa, aNr, aNb]) rfl ?_
      have hk := trL_ok (nv := nmI wk L p) (okH_hB b n) 2 (qa + 1) hav
      refine x_istore (lv' := [some (.ref aN), some (.int qv), some (.int 1), some (.int 1), some (.int ((trL (hB b n) (nmI wk L p) 2 (qa + 1)).2.2))]) dX9_sum_45 (xlt rfl) rfl ?_
      refine x_iload_n dX9_sum_47 rfl ?_
      refine x_if_eq dX9_sum_48 (fun c48 => ?_) (fun c48 => ?_)
      · exact absurd c48 (by decide)
      refine x_iload_n dX9_sum_51 rfl ?_
      refine x_iload dX9_sum_52 rfl ?_
      refine x_iadd dX9_sum_54 ?_
      refine x_goto dX9_sum_55 ?_
      refine x_istore_n (lv' := [some (.ref aN), some (.int (qv + ((trL (hB b n) (nmI wk L p) 2 (qa + 1)).2.2))), some (.int 1), some (.int 1), some (.int ((trL (hB b n) (nmI wk L p) 2 (qa + 1)).2.2))]) dX9_sum_62 (xlt rfl) rfl ?_
      refine x_goto dX9_sum_63 ?_
      refine x_fgt (lv' := [some (.ref aN), some (.int (qv + ((trL (hB b n) (nmI wk L p) 2 (qa + 1)).2.2))), some (.int 1), none, none]) ⟨Or.inr rfl, Or.inr rfl, Or.inr rfl, Or.inl rfl, Or.inl rfl, trivial⟩ ?_
      exact ih7 (by omega) ((trL (hB b n) (nmI wk L p) 2 (qa + 1)).1) ((trL (hB b n) (nmI wk L p) 2 (qa + 1)).2.1) _ (by rw [itr, ← hqq]; simp only [snS, hq2]; rfl) (hk.2) (by have := hk.1; omega)
    · skip
      refine x_eq (lv' := [some (.ref aN), some (.int qv), some (.int 1), none, none]) (st' := []) (ws' := [(aN, .inr (9, [.ref aNs, .ref aNk, .int nkp, .ref aNf, .ref aNr, .ref aNp, .ref aNb, .ref aNa, .ref aNt, .int (nI nts), .ref aNbo, .ref aNsz, .ref aNnu, .int (nI qa), .int 2, .int 0, .int ntp, .int (nI p), .int nnw, .int nsn, .int nwn, .ref aNl, .ref aNal, .ref aNlo, .int (nI nac), .ref aNw, .ref aNtr, .ref aNis, .ref aNbg, .ref aNow])), (aNs, .inl (g.2.1 0, 919, .inl (msF gr wk z lk sz br ru ki ma bb ce hd))), (aNt, .inl (g.2.1 0, 60, .inl (nIf tb))), (aNa, .inl (g.2.1 0, 2475, .inl (nIf fcN))), (aNr, .inl (g.2.1 0, 495, .inl (nIf rowB))), (aNb, .inl (g.2.1 0, 4096, .inl (nIf popN)))]) ?_ rfl rfl rfl
      refine x_aload_n dX9_sum_11 rfl ?_
      refine x_bipush 43 dX9_sum_12 (by decide) ?_
      refine x_cVi0 dX9_sum_14 ml_X9_141 mX9_takes (ct_takes_n κ.2.1 g aN aNs aNk aNf aNr aNp aNb aNa aNt aNbo aNsz aNnu aNl aNal aNlo aNw aNtr aNis aNbg aNow nts qa 2 p nac nkp ntp nnw nsn nwn gr wk lk sz br z ru ki ma bb hd ce tb b n 43 (ht) (by omega) (hn) (hb) (by decide) (hq2)) [0, 1, 2] rfl rfl 0 rfl rfl rfl (Nat.le_of_ble_eq_true rfl) (by decide) (Nat.le_refl _) (Nat.le_refl _) ?_
      refine x_istore_n (lv' := [some (.ref aN), some (.int qv), some (.int 1), some (.int 0), none]) dX9_sum_17 (xlt rfl) rfl ?_
      refine x_iload_n dX9_sum_18 rfl ?_
      refine x_if_ne dX9_sum_19 (fun c19 => ?_) (fun c19 => ?_)
      · exact absurd c19 (by decide)
      refine x_aload_n dX9_sum_22 rfl ?_
      refine x_bipush 45 dX9_sum_23 (by decide) ?_
      refine x_cVi (ws' := [(aN, .inr (9, [.ref aNs, .ref aNk, .int nkp, .ref aNf, .ref aNr, .ref aNp, .ref aNb, .ref aNa, .ref aNt, .int (nI nts), .ref aNbo, .ref aNsz, .ref aNnu, .int (nI (qa + 1)), .int 2, .int 0, .int ntp, .int (nI p), .int nnw, .int nsn, .int nwn, .ref aNl, .ref aNal, .ref aNlo, .int (nI nac), .ref aNw, .ref aNtr, .ref aNis, .ref aNbg, .ref aNow])), (aNs, .inl (g.2.1 0, 919, .inl (msF gr wk z lk sz br ru ki ma bb ce hd))), (aNt, .inl (g.2.1 0, 60, .inl (nIf tb))), (aNa, .inl (g.2.1 0, 2475, .inl (nIf fcN))), (aNr, .inl (g.2.1 0, 495, .inl (nIf rowB))), (aNb, .inl (g.2.1 0, 4096, .inl (nIf popN)))]) dX9_sum_25 ml_X9_141 mX9_takes (ct_takes_y κ.2.1 g aN aNs aNk aNf aNr aNp aNb aNa aNt aNbo aNsz aNnu aNl aNal aNlo aNw aNtr aNis aNbg aNow nts qa 2 p nac nkp ntp nnw nsn nwn gr wk lk sz br z ru ki ma bb hd ce tb b n 45 (ht) (by omega) (hn) (hb) (by decide) (hq3)) [0, 1, 2] rfl rfl 0 rfl rfl rfl (Nat.le_of_ble_eq_true rfl) (by decide) (Nat.le_refl _) (Nat.le_refl _) (rfl : [aN, aNs, aNt] = [aN, aNs, aNt]) rfl ?_
      refine x_if_eq dX9_sum_28 (fun c28 => ?_) (fun c28 => ?_)
      · exact absurd c28 (by decide)
      refine x_iconst 1 dX9_sum_31 (by decide) ?_
      refine x_goto dX9_sum_32 ?_
      refine x_istore_n (lv' := [some (.ref aN), some (.int qv), some (.int 1), some (.int 0), none]) dX9_sum_36 (xlt rfl) rfl ?_
      refine x_iload_n dX9_sum_37 rfl ?_
      refine x_if_eq dX9_sum_38 (fun c38 => ?_) (fun c38 => ?_)
      · exact absurd c38 (by decide)
      have hav : qa + 1 ≤ n := by first | exact adv_le (okH_hB b n) hq2 (by decide) | exact adv_le (okH_hB b n) hq3 (by decide)
      refine x_aload_n dX9_sum_41 rfl ?_
      refine x_cVi (ws' := [(aN, .inr (9, [.ref aNs, .ref aNk, .int nkp, .ref aNf, .ref aNr, .ref aNp, .ref aNb, .ref aNa, .ref aNt, .int (nI nts), .ref aNbo, .ref aNsz, .ref aNnu, .int (nI ((trL (hB b n) (nmI wk L p) 2 (qa + 1)).1)), .int 2, .int (bI (trL (hB b n) (nmI wk L p) 2 (qa + 1)).2.1), .int ntp, .int (nI p), .int nnw, .int nsn, .int nwn, .ref aNl, .ref aNal, .ref aNlo, .int (nI nac), .ref aNw, .ref aNtr, .ref aNis, .ref aNbg, .ref aNow])), (aNs, .inl (g.2.1 0, 919, .inl (msF gr wk z lk sz br ru ki ma bb ce hd))), (aNt, .inl (g.2.1 0, 60, .inl (nIf tb))), (aNa, .inl (g.2.1 0, 2475, .inl (nIf fcN))), (aNr, .inl (g.2.1 0, 495, .inl (nIf rowB))), (aNb, .inl (g.2.1 0, 4096, .inl (nIf popN)))]) dX9_sum_42 ml_X9_170 mX9_term (ct_tr_2 κ.2.1 g aN aNs aNk aNf aNr aNp aNb aNa aNt aNbo aNsz aNnu aNl aNal aNlo aNw aNtr aNis aNbg aNow nts (qa + 1) nac nkp ntp nnw nsn nwn gr wk lk sz br z ru ki ma bb hd ce tb b n L p (ht) (by omega) (hn) (hb) (hp) (hwk) (hlat)) [0, 1, 2, 3, 4, 5] rfl rfl 0 rfl rfl rfl (Nat.le_of_ble_eq_true rfl) (by decide) (Nat.le_refl _) (Nat.le_refl _) (rfl : [aN, aNs, aNt, aNa, aNr, aNb] = [aN, aNs, aNt, aNa, aNr, aNb]) rfl ?_
      have hk := trL_ok (nv := nmI wk L p) (okH_hB b n) 2 (qa + 1) hav
      refine x_istore (lv' := [some (.ref aN), some (.int qv), some (.int 1), some (.int 0), some (.int ((trL (hB b n) (nmI wk L p) 2 (qa + 1)).2.2))]) dX9_sum_45 (xlt rfl) rfl ?_
      refine x_iload_n dX9_sum_47 rfl ?_
      refine x_if_eq dX9_sum_48 (fun c48 => ?_) (fun c48 => ?_)
      rotate_left
      · exact absurd c48 (by decide)
      refine x_iload_n dX9_sum_58 rfl ?_
      refine x_iload dX9_sum_59 rfl ?_
      refine x_isub dX9_sum_61 ?_
      refine x_istore_n (lv' := [some (.ref aN), some (.int (qv - ((trL (hB b n) (nmI wk L p) 2 (qa + 1)).2.2))), some (.int 1), some (.int 0), some (.int ((trL (hB b n) (nmI wk L p) 2 (qa + 1)).2.2))]) dX9_sum_62 (xlt rfl) rfl ?_
      refine x_goto dX9_sum_63 ?_
      refine x_fgt (lv' := [some (.ref aN), some (.int (qv - ((trL (hB b n) (nmI wk L p) 2 (qa + 1)).2.2))), some (.int 1), none, none]) ⟨Or.inr rfl, Or.inr rfl, Or.inr rfl, Or.inl rfl, Or.inl rfl, trivial⟩ ?_
      exact ih7 (by omega) ((trL (hB b n) (nmI wk L p) 2 (qa + 1)).1) ((trL (hB b n) (nmI wk L p) 2 (qa + 1)).2.1) _ (by rw [itr, ← hqq]; simp only [snS, hq2, hq3]; rfl) (hk.2) (by have := hk.1; omega)
    · skip
      refine x_eq (lv' := [some (.ref aN), some (.int qv), some (.int 1), none, none]) (st' := []) (ws' := [(aN, .inr (9, [.ref aNs, .ref aNk, .int nkp, .ref aNf, .ref aNr, .ref aNp, .ref aNb, .ref aNa, .ref aNt, .int (nI nts), .ref aNbo, .ref aNsz, .ref aNnu, .int (nI qa), .int 2, .int 0, .int ntp, .int (nI p), .int nnw, .int nsn, .int nwn, .ref aNl, .ref aNal, .ref aNlo, .int (nI nac), .ref aNw, .ref aNtr, .ref aNis, .ref aNbg, .ref aNow])), (aNs, .inl (g.2.1 0, 919, .inl (msF gr wk z lk sz br ru ki ma bb ce hd))), (aNt, .inl (g.2.1 0, 60, .inl (nIf tb))), (aNa, .inl (g.2.1 0, 2475, .inl (nIf fcN))), (aNr, .inl (g.2.1 0, 495, .inl (nIf rowB))), (aNb, .inl (g.2.1 0, 4096, .inl (nIf popN)))]) ?_ rfl rfl rfl
      refine x_aload_n dX9_sum_11 rfl ?_
      refine x_bipush 43 dX9_sum_12 (by decide) ?_
      refine x_cVi0 dX9_sum_14 ml_X9_141 mX9_takes (ct_takes_n κ.2.1 g aN aNs aNk aNf aNr aNp aNb aNa aNt aNbo aNsz aNnu aNl aNal aNlo aNw aNtr aNis aNbg aNow nts qa 2 p nac nkp ntp nnw nsn nwn gr wk lk sz br z ru ki ma bb hd ce tb b n 43 (ht) (by omega) (hn) (hb) (by decide) (hq2)) [0, 1, 2] rfl rfl 0 rfl rfl rfl (Nat.le_of_ble_eq_true rfl) (by decide) (Nat.le_refl _) (Nat.le_refl _) ?_
      refine x_istore_n (lv' := [some (.ref aN), some (.int qv), some (.int 1), some (.int 0), none]) dX9_sum_17 (xlt rfl) rfl ?_
      refine x_iload_n dX9_sum_18 rfl ?_
      refine x_if_ne dX9_sum_19 (fun c19 => ?_) (fun c19 => ?_)
      · exact absurd c19 (by decide)
      refine x_aload_n dX9_sum_22 rfl ?_
      refine x_bipush 45 dX9_sum_23 (by decide) ?_
      refine x_cVi0 dX9_sum_25 ml_X9_141 mX9_takes (ct_takes_n κ.2.1 g aN aNs aNk aNf aNr aNp aNb aNa aNt aNbo aNsz aNnu aNl aNal aNlo aNw aNtr aNis aNbg aNow nts qa 2 p nac nkp ntp nnw nsn nwn gr wk lk sz br z ru ki ma bb hd ce tb b n 45 (ht) (by omega) (hn) (hb) (by decide) (hq3)) [0, 1, 2] rfl rfl 0 rfl rfl rfl (Nat.le_of_ble_eq_true rfl) (by decide) (Nat.le_refl _) (Nat.le_refl _) ?_
      refine x_if_eq dX9_sum_28 (fun c28 => ?_) (fun c28 => ?_)
      rotate_left
      · exact absurd c28 (by decide)
      refine x_iconst 0 dX9_sum_35 (by decide) ?_
      refine x_istore_n (lv' := [some (.ref aN), some (.int qv), some (.int 0), some (.int 0), none]) dX9_sum_36 (xlt rfl) rfl ?_
      refine x_iload_n dX9_sum_37 rfl ?_
      refine x_if_eq dX9_sum_38 (fun c38 => ?_) (fun c38 => ?_)
      rotate_left
      · exact absurd c38 (by decide)
      refine x_goto dX9_sum_63 ?_
      refine x_iload_n dX9_sum_7 rfl ?_
      refine x_if_eq dX9_sum_8 (fun c8 => ?_) (fun c8 => ?_)
      rotate_left
      · exact absurd c8 (by decide)
      refine x_iload_n dX9_sum_66 rfl ?_
      rw [← hQ]
      refine x_iret dX9_sum_67 rfl (Nat.le_of_ble_eq_true rfl) (Nat.le_of_ble_eq_true rfl) ?_
      first | (rw [show srL (hB b n) (nmI wk L p) 2 nta = (qa, true, qv) from Eq.trans (congrFun (srL_eq (hB b n) (nmI wk L p) 2) nta) (itr_fix hqq rfl hi7)]; exact ⟨rfl, rfl⟩) | (rw [show srL (hB b n) (nmI wk L p) 2 nta = (qa, false, qv) from Eq.trans (congrFun (srL_eq (hB b n) (nmI wk L p) 2) nta) (itr_fix hqq (by simp [snS, hq2, hq3]) hi7)]; exact ⟨rfl, rfl⟩)
    · skip
      refine x_eq (lv' := [some (.ref aN), some (.int qv), some (.int 1), none, none]) (st' := []) (ws' := [(aN, .inr (9, [.ref aNs, .ref aNk, .int nkp, .ref aNf, .ref aNr, .ref aNp, .ref aNb, .ref aNa, .ref aNt, .int (nI nts), .ref aNbo, .ref aNsz, .ref aNnu, .int (nI qa), .int 2, .int 1, .int ntp, .int (nI p), .int nnw, .int nsn, .int nwn, .ref aNl, .ref aNal, .ref aNlo, .int (nI nac), .ref aNw, .ref aNtr, .ref aNis, .ref aNbg, .ref aNow])), (aNs, .inl (g.2.1 0, 919, .inl (msF gr wk z lk sz br ru ki ma bb ce hd))), (aNt, .inl (g.2.1 0, 60, .inl (nIf tb))), (aNa, .inl (g.2.1 0, 2475, .inl (nIf fcN))), (aNr, .inl (g.2.1 0, 495, .inl (nIf rowB))), (aNb, .inl (g.2.1 0, 4096, .inl (nIf popN)))]) ?_ rfl rfl rfl
      refine x_aload_n dX9_sum_11 rfl ?_
      refine x_bipush 43 dX9_sum_12 (by decide) ?_
      refine x_cVi0 dX9_sum_14 ml_X9_141 mX9_takes (ct_takes_b κ.2.1 g aN aNs aNk aNf aNr aNp aNb aNa aNt aNbo aNsz aNnu aNl aNal aNlo aNw aNtr aNis aNbg aNow nts qa 2 p nac nkp ntp nnw nsn nwn gr wk lk sz br z ru ki ma bb hd ce tb 43) [0, 1, 2] rfl rfl 0 rfl rfl rfl (Nat.le_of_ble_eq_true rfl) (by decide) (Nat.le_refl _) (Nat.le_refl _) ?_
      refine x_istore_n (lv' := [some (.ref aN), some (.int qv), some (.int 1), some (.int 0), none]) dX9_sum_17 (xlt rfl) rfl ?_
      refine x_iload_n dX9_sum_18 rfl ?_
      refine x_if_ne dX9_sum_19 (fun c19 => ?_) (fun c19 => ?_)
      · exact absurd c19 (by decide)
      refine x_aload_n dX9_sum_22 rfl ?_
      refine x_bipush 45 dX9_sum_23 (by decide) ?_
      refine x_cVi0 dX9_sum_25 ml_X9_141 mX9_takes (ct_takes_b κ.2.1 g aN aNs aNk aNf aNr aNp aNb aNa aNt aNbo aNsz aNnu aNl aNal aNlo aNw aNtr aNis aNbg aNow nts qa 2 p nac nkp ntp nnw nsn nwn gr wk lk sz br z ru ki ma bb hd ce tb 45) [0, 1, 2] rfl rfl 0 rfl rfl rfl (Nat.le_of_ble_eq_true rfl) (by decide) (Nat.le_refl _) (Nat.le_refl _) ?_
      refine x_if_eq dX9_sum_28 (fun c28 => ?_) (fun c28 => ?_)
      rotate_left
      · exact absurd c28 (by decide)
      refine x_iconst 0 dX9_sum_35 (by decide) ?_
      refine x_istore_n (lv' := [some (.ref aN), some (.int qv), some (.int 0), some (.int 0), none]) dX9_sum_36 (xlt rfl) rfl ?_
      refine x_iload_n dX9_sum_37 rfl ?_
      refine x_if_eq dX9_sum_38 (fun c38 => ?_) (fun c38 => ?_)
      rotate_left
      · exact absurd c38 (by decide)
      refine x_goto dX9_sum_63 ?_
      refine x_iload_n dX9_sum_7 rfl ?_
      refine x_if_eq dX9_sum_8 (fun c8 => ?_) (fun c8 => ?_)
      rotate_left
      · exact absurd c8 (by decide)
      refine x_iload_n dX9_sum_66 rfl ?_
      rw [← hQ]
      refine x_iret dX9_sum_67 rfl (Nat.le_of_ble_eq_true rfl) (Nat.le_of_ble_eq_true rfl) ?_
      first | (rw [show srL (hB b n) (nmI wk L p) 2 nta = (qa, true, qv) from Eq.trans (congrFun (srL_eq (hB b n) (nmI wk L p) 2) nta) (itr_fix hqq rfl hi7)]; exact ⟨rfl, rfl⟩) | (rw [show srL (hB b n) (nmI wk L p) 2 nta = (qa, false, qv) from Eq.trans (congrFun (srL_eq (hB b n) (nmI wk L p) 2) nta) (itr_fix hqq (by simp [snS, hq2, hq3]) hi7)]; exact ⟨rfl, rfl⟩)
  exact L7_1 0 (Nat.zero_le _) ((trL (hB b n) (nmI wk L p) 2 nta).1) ((trL (hB b n) (nmI wk L p) 2 nta).2.1) _ (rfl) (hk0.2) (Nat.zero_le _)

-- == ch_3 ==
set_option maxRecDepth 100000 in
set_option maxHeartbeats 4000000 in
theorem ct_ch_3 (l : Launch) (g : XG) (aN aNs aNk aNf aNr aNp aNb aNa aNt aNbo aNsz aNnu aNl aNal aNlo aNw aNtr aNis aNbg aNow nts nta nac : Nat) (nkp ntp nnw nsn nwn : Int32) (gr wk lk sz br : Nat) (z : Int32) (ru ki ma bb hd : Nat → Nat) (ce : Nat → Int32) (tb b : Nat → Nat) (n L p : Nat) (ht : (ntp = 1 ∧ n = nts ∧ b = tb) ∨ (ntp = 0 ∧ n = sz ∧ b = bb)) (ha : nta ≤ n) (hn : n ≤ 60) (hb : ∀ j, b j < 256) (hp : p < 495) (hwk : wk ≤ 40) (hlat : latI ce wk = nI L) (hq : hB b n nta = 40) : Ct l g 17 0 0 yX9_choice cX9_choice 4 (some .int) [.ref aN] [(aN, .inr (9, [.ref aNs, .ref aNk, .int nkp, .ref aNf, .ref aNr, .ref aNp, .ref aNb, .ref aNa, .ref aNt, .int (nI nts), .ref aNbo, .ref aNsz, .ref aNnu, .int (nI nta), .int 1, .int 0, .int ntp, .int (nI p), .int nnw, .int nsn, .int nwn, .ref aNl, .ref aNal, .ref aNlo, .int (nI nac), .ref aNw, .ref aNtr, .ref aNis, .ref aNbg, .ref aNow])), (aNs, .inl (g.2.1 0, 919, .inl (msF gr wk z lk sz br ru ki ma bb ce hd))), (aNt, .inl (g.2.1 0, 60, .inl (nIf tb))), (aNa, .inl (g.2.1 0, 2475, .inl (nIf fcN))), (aNr, .inl (g.2.1 0, 495, .inl (nIf rowB))), (aNb, .inl (g.2.1 0, 4096, .inl (nIf popN)))] (xpi ((hrL (hB b n) (nmI wk L p) 3 nta).2.2) [(aN, .inr (9, [.ref aNs, .ref aNk, .int nkp, .ref aNf, .ref aNr, .ref aNp, .ref aNb, .ref aNa, .ref aNt, .int (nI nts), .ref aNbo, .ref aNsz, .ref aNnu, .int (nI ((hrL (hB b n) (nmI wk L p) 3 nta).1)), .int 1, .int (bI (hrL (hB b n) (nmI wk L p) 3 nta).2.1), .int ntp, .int (nI p), .int nnw, .int nsn, .int nwn, .ref aNl, .ref aNal, .ref aNlo, .int (nI nac), .ref aNw, .ref aNtr, .ref aNis, .ref aNbg, .ref aNow])), (aNs, .inl (g.2.1 0, 919, .inl (msF gr wk z lk sz br ru ki ma bb ce hd))), (aNt, .inl (g.2.1 0, 60, .inl (nIf tb))), (aNa, .inl (g.2.1 0, 2475, .inl (nIf fcN))), (aNr, .inl (g.2.1 0, 495, .inl (nIf rowB))), (aNb, .inl (g.2.1 0, 4096, .inl (nIf popN)))]) := by
  refine Ct.ofX (lv := [some (.ref aN), none, none, none]) (by decide) rfl (Nat.le_of_ble_eq_true rfl) (fun κ => ?_)
  generalize hQ : xQ κ g 0 0 _ = Q
  refine x_aload_n dX9_choice_0 rfl ?_
  refine x_get dX9_choice_1 0 14 inX9 fl_X9_148 rfl rfl (by decide) rfl ?_
  refine x_iconst 4 dX9_choice_4 (by decide) ?_
  refine x_icmp_ne dX9_choice_5 (fun c5 => ?_) (fun c5 => ?_)
  rotate_left
  · exact absurd c5 (by decide)
  refine x_aload_n dX9_choice_15 rfl ?_
  refine x_dup dX9_choice_16 rfl ?_
  have hav := adv_le (okH_hB b n) hq (by decide)
  refine x_get dX9_choice_17 0 14 inX9 fl_X9_148 rfl rfl (by decide) rfl ?_
  refine x_iconst 1 dX9_choice_20 (by decide) ?_
  refine x_iadd dX9_choice_21 ?_
  refine x_rei 2 (by decide) ?_
  refine x_put (ws' := [(aN, .inr (9, [.ref aNs, .ref aNk, .int nkp, .ref aNf, .ref aNr, .ref aNp, .ref aNb, .ref aNa, .ref aNt, .int (nI nts), .ref aNbo, .ref aNsz, .ref aNnu, .int (nI nta), .int 2, .int 0, .int ntp, .int (nI p), .int nnw, .int nsn, .int nwn, .ref aNl, .ref aNal, .ref aNlo, .int (nI nac), .ref aNw, .ref aNtr, .ref aNis, .ref aNbg, .ref aNow])), (aNs, .inl (g.2.1 0, 919, .inl (msF gr wk z lk sz br ru ki ma bb ce hd))), (aNt, .inl (g.2.1 0, 60, .inl (nIf tb))), (aNa, .inl (g.2.1 0, 2475, .inl (nIf fcN))), (aNr, .inl (g.2.1 0, 495, .inl (nIf rowB))), (aNb, .inl (g.2.1 0, 4096, .inl (nIf popN)))]) dX9_choice_22 0 14 inX9 tyX9_ok nmX9 fl_X9_148 rfl rfl (by decide) rfl (rfl) rfl (xlt rfl) rfl ?_
  refine x_aload_n dX9_choice_25 rfl ?_
  refine x_dup dX9_choice_26 rfl ?_
  refine x_get dX9_choice_27 0 13 inX9 fl_X9_119 rfl rfl (by decide) rfl ?_
  refine x_iconst 1 dX9_choice_30 (by decide) ?_
  refine x_iadd dX9_choice_31 ?_
  refine x_rei (nI (nta + 1)) (nI_addc nta 1 rfl) ?_
  refine x_put (ws' := [(aN, .inr (9, [.ref aNs, .ref aNk, .int nkp, .ref aNf, .ref aNr, .ref aNp, .ref aNb, .ref aNa, .ref aNt, .int (nI nts), .ref aNbo, .ref aNsz, .ref aNnu, .int (nI (nta + 1)), .int 2, .int 0, .int ntp, .int (nI p), .int nnw, .int nsn, .int nwn, .ref aNl, .ref aNal, .ref aNlo, .int (nI nac), .ref aNw, .ref aNtr, .ref aNis, .ref aNbg, .ref aNow])), (aNs, .inl (g.2.1 0, 919, .inl (msF gr wk z lk sz br ru ki ma bb ce hd))), (aNt, .inl (g.2.1 0, 60, .inl (nIf tb))), (aNa, .inl (g.2.1 0, 2475, .inl (nIf fcN))), (aNr, .inl (g.2.1 0, 495, .inl (nIf rowB))), (aNb, .inl (g.2.1 0, 4096, .inl (nIf popN)))]) dX9_choice_32 0 13 inX9 tyX9_ok nmX9 fl_X9_119 rfl rfl (by decide) rfl (rfl) rfl (xlt rfl) rfl ?_
  refine x_aload_n dX9_choice_35 rfl ?_
  refine x_cVi (ws' := [(aN, .inr (9, [.ref aNs, .ref aNk, .int nkp, .ref aNf, .ref aNr, .ref aNp, .ref aNb, .ref aNa, .ref aNt, .int (nI nts), .ref aNbo, .ref aNsz, .ref aNnu, .int (nI ((srL (hB b n) (nmI wk L p) 2 (nta + 1)).1)), .int 2, .int (bI (srL (hB b n) (nmI wk L p) 2 (nta + 1)).2.1), .int ntp, .int (nI p), .int nnw, .int nsn, .int nwn, .ref aNl, .ref aNal, .ref aNlo, .int (nI nac), .ref aNw, .ref aNtr, .ref aNis, .ref aNbg, .ref aNow])), (aNs, .inl (g.2.1 0, 919, .inl (msF gr wk z lk sz br ru ki ma bb ce hd))), (aNt, .inl (g.2.1 0, 60, .inl (nIf tb))), (aNa, .inl (g.2.1 0, 2475, .inl (nIf fcN))), (aNr, .inl (g.2.1 0, 495, .inl (nIf rowB))), (aNb, .inl (g.2.1 0, 4096, .inl (nIf popN)))]) dX9_choice_36 ml_X9_151 mX9_sum (ct_sr_2 κ.2.1 g aN aNs aNk aNf aNr aNp aNb aNa aNt aNbo aNsz aNnu aNl aNal aNlo aNw aNtr aNis aNbg aNow nts (nta + 1) nac nkp ntp nnw nsn nwn gr wk lk sz br z ru ki ma bb hd ce tb b n L p (ht) (by omega) (hn) (hb) (hp) (hwk) (hlat)) [0, 1, 2, 3, 4, 5] rfl rfl 0 rfl rfl rfl (Nat.le_of_ble_eq_true rfl) (by decide) (Nat.le_refl _) (Nat.le_refl _) (rfl : [aN, aNs, aNt, aNa, aNr, aNb] = [aN, aNs, aNt, aNa, aNr, aNb]) rfl ?_
  have hk1 := srL_ok (nv := nmI wk L p) (okH_hB b n) 2 (nta + 1) hav
  generalize hR1 : srL (hB b n) (nmI wk L p) 2 (nta + 1) = R1 at hk1 ⊢
  obtain ⟨a1, b1, w1⟩ := R1
  dsimp only at hk1
  rcases tk_cases b1 (hB b n) a1 63 with ⟨rfl, hq2⟩ | ⟨rfl, hq2⟩ | rfl
  · skip
    refine x_eq (lv' := [some (.ref aN), none, none, none]) (st' := [.int w1]) (ws' := [(aN, .inr (9, [.ref aNs, .ref aNk, .int nkp, .ref aNf, .ref aNr, .ref aNp, .ref aNb, .ref aNa, .ref aNt, .int (nI nts), .ref aNbo, .ref aNsz, .ref aNnu, .int (nI a1), .int 2, .int 0, .int ntp, .int (nI p), .int nnw, .int nsn, .int nwn, .ref aNl, .ref aNal, .ref aNlo, .int (nI nac), .ref aNw, .ref aNtr, .ref aNis, .ref aNbg, .ref aNow])), (aNs, .inl (g.2.1 0, 919, .inl (msF gr wk z lk sz br ru ki ma bb ce hd))), (aNt, .inl (g.2.1 0, 60, .inl (nIf tb))), (aNa, .inl (g.2.1 0, 2475, .inl (nIf fcN))), (aNr, .inl (g.2.1 0, 495, .inl (nIf rowB))), (aNb, .inl (g.2.1 0, 4096, .inl (nIf popN)))]) ?_ rfl rfl rfl
    refine x_istore_n (lv' := [some (.ref aN), some (.int w1), none, none]) dX9_choice_39 (xlt rfl) rfl ?_
    refine x_aload_n dX9_choice_40 rfl ?_
    refine x_bipush 63 dX9_choice_41 (by decide) ?_
    refine x_cVi (ws' := [(aN, .inr (9, [.ref aNs, .ref aNk, .int nkp, .ref aNf, .ref aNr, .ref aNp, .ref aNb, .ref aNa, .ref aNt, .int (nI nts), .ref aNbo, .ref aNsz, .ref aNnu, .int (nI (a1 + 1)), .int 2, .int 0, .int ntp, .int (nI p), .int nnw, .int nsn, .int nwn, .ref aNl, .ref aNal, .ref aNlo, .int (nI nac), .ref aNw, .ref aNtr, .ref aNis, .ref aNbg, .ref aNow])), (aNs, .inl (g.2.1 0, 919, .inl (msF gr wk z lk sz br ru ki ma bb ce hd))), (aNt, .inl (g.2.1 0, 60, .inl (nIf tb))), (aNa, .inl (g.2.1 0, 2475, .inl (nIf fcN))), (aNr, .inl (g.2.1 0, 495, .inl (nIf rowB))), (aNb, .inl (g.2.1 0, 4096, .inl (nIf popN)))]) dX9_choice_43 ml_X9_141 mX9_takes (ct_takes_y κ.2.1 g aN aNs aNk aNf aNr aNp aNb aNa aNt aNbo aNsz aNnu aNl aNal aNlo aNw aNtr aNis aNbg aNow nts a1 2 p nac nkp ntp nnw nsn nwn gr wk lk sz br z ru ki ma bb hd ce tb b n 63 (ht) (by omega) (hn) (hb) (by decide) (hq2)) [0, 1, 2] rfl rfl 0 rfl rfl rfl (Nat.le_of_ble_eq_true rfl) (by decide) (Nat.le_refl _) (Nat.le_refl _) (rfl : [aN, aNs, aNt] = [aN, aNs, aNt]) rfl ?_
    refine x_if_eq dX9_choice_46 (fun c46 => ?_) (fun c46 => ?_)
    · exact absurd c46 (by decide)
    have hav2 := adv_le (okH_hB b n) hq2 (by decide)
    refine x_aload_n dX9_choice_49 rfl ?_
    refine x_cVi (ws' := [(aN, .inr (9, [.ref aNs, .ref aNk, .int nkp, .ref aNf, .ref aNr, .ref aNp, .ref aNb, .ref aNa, .ref aNt, .int (nI nts), .ref aNbo, .ref aNsz, .ref aNnu, .int (nI ((srL (hB b n) (nmI wk L p) 2 (a1 + 1)).1)), .int 2, .int (bI (srL (hB b n) (nmI wk L p) 2 (a1 + 1)).2.1), .int ntp, .int (nI p), .int nnw, .int nsn, .int nwn, .ref aNl, .ref aNal, .ref aNlo, .int (nI nac), .ref aNw, .ref aNtr, .ref aNis, .ref aNbg, .ref aNow])), (aNs, .inl (g.2.1 0, 919, .inl (msF gr wk z lk sz br ru ki ma bb ce hd))), (aNt, .inl (g.2.1 0, 60, .inl (nIf tb))), (aNa, .inl (g.2.1 0, 2475, .inl (nIf fcN))), (aNr, .inl (g.2.1 0, 495, .inl (nIf rowB))), (aNb, .inl (g.2.1 0, 4096, .inl (nIf popN)))]) dX9_choice_50 ml_X9_151 mX9_sum (ct_sr_2 κ.2.1 g aN aNs aNk aNf aNr aNp aNb aNa aNt aNbo aNsz aNnu aNl aNal aNlo aNw aNtr aNis aNbg aNow nts (a1 + 1) nac nkp ntp nnw nsn nwn gr wk lk sz br z ru ki ma bb hd ce tb b n L p (ht) (by omega) (hn) (hb) (hp) (hwk) (hlat)) [0, 1, 2, 3, 4, 5] rfl rfl 0 rfl rfl rfl (Nat.le_of_ble_eq_true rfl) (by decide) (Nat.le_refl _) (Nat.le_refl _) (rfl : [aN, aNs, aNt, aNa, aNr, aNb] = [aN, aNs, aNt, aNa, aNr, aNb]) rfl ?_
    have hk2 := srL_ok (nv := nmI wk L p) (okH_hB b n) 2 (a1 + 1) hav2
    refine x_istore_n (lv' := [some (.ref aN), some (.int w1), some (.int ((srL (hB b n) (nmI wk L p) 2 (a1 + 1)).2.2)), none]) dX9_choice_53 (xlt rfl) rfl ?_
    refine x_aload_n dX9_choice_54 rfl ?_
    refine x_bipush 58 dX9_choice_55 (by decide) ?_
    refine x_cVv (ws' := [(aN, .inr (9, [.ref aNs, .ref aNk, .int nkp, .ref aNf, .ref aNr, .ref aNp, .ref aNb, .ref aNa, .ref aNt, .int (nI nts), .ref aNbo, .ref aNsz, .ref aNnu, .int (nI ((pasA (hB b n) 58 ((srL (hB b n) (nmI wk L p) 2 (a1 + 1)).2.1) ((srL (hB b n) (nmI wk L p) 2 (a1 + 1)).1)).1)), .int 2, .int (bI (pasA (hB b n) 58 ((srL (hB b n) (nmI wk L p) 2 (a1 + 1)).2.1) ((srL (hB b n) (nmI wk L p) 2 (a1 + 1)).1)).2), .int ntp, .int (nI p), .int nnw, .int nsn, .int nwn, .ref aNl, .ref aNal, .ref aNlo, .int (nI nac), .ref aNw, .ref aNtr, .ref aNis, .ref aNbg, .ref aNow])), (aNs, .inl (g.2.1 0, 919, .inl (msF gr wk z lk sz br ru ki ma bb ce hd))), (aNt, .inl (g.2.1 0, 60, .inl (nIf tb))), (aNa, .inl (g.2.1 0, 2475, .inl (nIf fcN))), (aNr, .inl (g.2.1 0, 495, .inl (nIf rowB))), (aNb, .inl (g.2.1 0, 4096, .inl (nIf popN)))]) dX9_choice_57 ml_X9_154 mX9_must (ct_X9_must κ.2.1 g aN aNs aNk aNf aNr aNp aNb aNa aNt aNbo aNsz aNnu aNl aNal aNlo aNw aNtr aNis aNbg aNow nts ((srL (hB b n) (nmI wk L p) 2 (a1 + 1)).1) 2 p nac nkp ntp nnw nsn nwn gr wk lk sz br z ru ki ma bb hd ce tb b n 58 ((srL (hB b n) (nmI wk L p) 2 (a1 + 1)).2.1) (ht) (by omega) (hn) (hb) (by decide)) [0, 1, 2] rfl rfl 0 rfl rfl rfl (Nat.le_of_ble_eq_true rfl) (by decide) (Nat.le_refl _) (Nat.le_refl _) (rfl : [aN, aNs, aNt] = [aN, aNs, aNt]) rfl ?_
    have hk3 := pasA_le (okH_hB b n) (c := 58) (by decide) (bd := (srL (hB b n) (nmI wk L p) 2 (a1 + 1)).2.1) hk2.2
    generalize hR3 : pasA (hB b n) 58 ((srL (hB b n) (nmI wk L p) 2 (a1 + 1)).2.1) ((srL (hB b n) (nmI wk L p) 2 (a1 + 1)).1) = R3 at hk3 ⊢
    obtain ⟨a3, b3⟩ := R3
    dsimp only at hk3
    cases b3
    · skip
      refine x_eq (lv' := [some (.ref aN), some (.int w1), some (.int ((srL (hB b n) (nmI wk L p) 2 (a1 + 1)).2.2)), none]) (st' := []) (ws' := [(aN, .inr (9, [.ref aNs, .ref aNk, .int nkp, .ref aNf, .ref aNr, .ref aNp, .ref aNb, .ref aNa, .ref aNt, .int (nI nts), .ref aNbo, .ref aNsz, .ref aNnu, .int (nI a3), .int 2, .int 0, .int ntp, .int (nI p), .int nnw, .int nsn, .int nwn, .ref aNl, .ref aNal, .ref aNlo, .int (nI nac), .ref aNw, .ref aNtr, .ref aNis, .ref aNbg, .ref aNow])), (aNs, .inl (g.2.1 0, 919, .inl (msF gr wk z lk sz br ru ki ma bb ce hd))), (aNt, .inl (g.2.1 0, 60, .inl (nIf tb))), (aNa, .inl (g.2.1 0, 2475, .inl (nIf fcN))), (aNr, .inl (g.2.1 0, 495, .inl (nIf rowB))), (aNb, .inl (g.2.1 0, 4096, .inl (nIf popN)))]) ?_ rfl rfl rfl
      refine x_aload_n dX9_choice_60 rfl ?_
      refine x_cVi (ws' := [(aN, .inr (9, [.ref aNs, .ref aNk, .int nkp, .ref aNf, .ref aNr, .ref aNp, .ref aNb, .ref aNa, .ref aNt, .int (nI nts), .ref aNbo, .ref aNsz, .ref aNnu, .int (nI ((srL (hB b n) (nmI wk L p) 2 a3).1)), .int 2, .int (bI (srL (hB b n) (nmI wk L p) 2 a3).2.1), .int ntp, .int (nI p), .int nnw, .int nsn, .int nwn, .ref aNl, .ref aNal, .ref aNlo, .int (nI nac), .ref aNw, .ref aNtr, .ref aNis, .ref aNbg, .ref aNow])), (aNs, .inl (g.2.1 0, 919, .inl (msF gr wk z lk sz br ru ki ma bb ce hd))), (aNt, .inl (g.2.1 0, 60, .inl (nIf tb))), (aNa, .inl (g.2.1 0, 2475, .inl (nIf fcN))), (aNr, .inl (g.2.1 0, 495, .inl (nIf rowB))), (aNb, .inl (g.2.1 0, 4096, .inl (nIf popN)))]) dX9_choice_61 ml_X9_151 mX9_sum (ct_sr_2 κ.2.1 g aN aNs aNk aNf aNr aNp aNb aNa aNt aNbo aNsz aNnu aNl aNal aNlo aNw aNtr aNis aNbg aNow nts a3 nac nkp ntp nnw nsn nwn gr wk lk sz br z ru ki ma bb hd ce tb b n L p (ht) (by omega) (hn) (hb) (hp) (hwk) (hlat)) [0, 1, 2, 3, 4, 5] rfl rfl 0 rfl rfl rfl (Nat.le_of_ble_eq_true rfl) (by decide) (Nat.le_refl _) (Nat.le_refl _) (rfl : [aN, aNs, aNt, aNa, aNr, aNb] = [aN, aNs, aNt, aNa, aNr, aNb]) rfl ?_
      have hk4 := srL_ok (nv := nmI wk L p) (okH_hB b n) 2 a3 hk3
      refine x_istore_n (lv' := [some (.ref aN), some (.int w1), some (.int ((srL (hB b n) (nmI wk L p) 2 (a1 + 1)).2.2)), some (.int ((srL (hB b n) (nmI wk L p) 2 a3).2.2))]) dX9_choice_64 (xlt rfl) rfl ?_
      refine x_iload_n dX9_choice_65 rfl ?_
      have J66_2 : ∀ (v1 : Int32), v1 = (if w1 ≤ 0 then (srL (hB b n) (nmI wk L p) 2 a3).2.2 else (srL (hB b n) (nmI wk L p) 2 (a1 + 1)).2.2) → Xs κ g 17 0 0 cX9_choice yX9_choice (some .int) Q 0 0 74 [some (.ref aN), some (.int w1), some (.int ((srL (hB b n) (nmI wk L p) 2 (a1 + 1)).2.2)), some (.int ((srL (hB b n) (nmI wk L p) 2 a3).2.2))] [.int v1] [(aN, .inr (9, [.ref aNs, .ref aNk, .int nkp, .ref aNf, .ref aNr, .ref aNp, .ref aNb, .ref aNa, .ref aNt, .int (nI nts), .ref aNbo, .ref aNsz, .ref aNnu, .int (nI ((srL (hB b n) (nmI wk L p) 2 a3).1)), .int 2, .int (bI (srL (hB b n) (nmI wk L p) 2 a3).2.1), .int ntp, .int (nI p), .int nnw, .int nsn, .int nwn, .ref aNl, .ref aNal, .ref aNlo, .int (nI nac), .ref aNw, .ref aNtr, .ref aNis, .ref aNbg, .ref aNow])), (aNs, .inl (g.2.1 0, 919, .inl (msF gr wk z lk sz br ru ki ma bb ce hd))), (aNt, .inl (g.2.1 0, 60, .inl (nIf tb))), (aNa, .inl (g.2.1 0, 2475, .inl (nIf fcN))), (aNr, .inl (g.2.1 0, 495, .inl (nIf rowB))), (aNb, .inl (g.2.1 0, 4096, .inl (nIf popN)))] := by
        intro v1 ev1
        refine x_istore_n (lv' := [some (.ref aN), some (.int v1), some (.int ((srL (hB b n) (nmI wk L p) 2 (a1 + 1)).2.2)), some (.int ((srL (hB b n) (nmI wk L p) 2 a3).2.2))]) dX9_choice_74 (xlt rfl) rfl ?_
        refine x_aload_n dX9_choice_75 rfl ?_
        refine x_bipush 41 dX9_choice_76 (by decide) ?_
        refine x_cVv (ws' := [(aN, .inr (9, [.ref aNs, .ref aNk, .int nkp, .ref aNf, .ref aNr, .ref aNp, .ref aNb, .ref aNa, .ref aNt, .int (nI nts), .ref aNbo, .ref aNsz, .ref aNnu, .int (nI ((pasA (hB b n) 41 ((srL (hB b n) (nmI wk L p) 2 a3).2.1) ((srL (hB b n) (nmI wk L p) 2 a3).1)).1)), .int 2, .int (bI (pasA (hB b n) 41 ((srL (hB b n) (nmI wk L p) 2 a3).2.1) ((srL (hB b n) (nmI wk L p) 2 a3).1)).2), .int ntp, .int (nI p), .int nnw, .int nsn, .int nwn, .ref aNl, .ref aNal, .ref aNlo, .int (nI nac), .ref aNw, .ref aNtr, .ref aNis, .ref aNbg, .ref aNow])), (aNs, .inl (g.2.1 0, 919, .inl (msF gr wk z lk sz br ru ki ma bb ce hd))), (aNt, .inl (g.2.1 0, 60, .inl (nIf tb))), (aNa, .inl (g.2.1 0, 2475, .inl (nIf fcN))), (aNr, .inl (g.2.1 0, 495, .inl (nIf rowB))), (aNb, .inl (g.2.1 0, 4096, .inl (nIf popN)))]) dX9_choice_78 ml_X9_154 mX9_must (ct_X9_must κ.2.1 g aN aNs aNk aNf aNr aNp aNb aNa aNt aNbo aNsz aNnu aNl aNal aNlo aNw aNtr aNis aNbg aNow nts ((srL (hB b n) (nmI wk L p) 2 a3).1) 2 p nac nkp ntp nnw nsn nwn gr wk lk sz br z ru ki ma bb hd ce tb b n 41 ((srL (hB b n) (nmI wk L p) 2 a3).2.1) (ht) (by omega) (hn) (hb) (by decide)) [0, 1, 2] rfl rfl 0 rfl rfl rfl (Nat.le_of_ble_eq_true rfl) (by decide) (Nat.le_refl _) (Nat.le_refl _) (rfl : [aN, aNs, aNt] = [aN, aNs, aNt]) rfl ?_
        refine x_aload_n dX9_choice_81 rfl ?_
        refine x_dup dX9_choice_82 rfl ?_
        refine x_get dX9_choice_83 0 14 inX9 fl_X9_148 rfl rfl (by decide) rfl ?_
        refine x_iconst 1 dX9_choice_86 (by decide) ?_
        refine x_isub dX9_choice_87 ?_
        refine x_rei 1 (by decide) ?_
        refine x_put (ws' := [(aN, .inr (9, [.ref aNs, .ref aNk, .int nkp, .ref aNf, .ref aNr, .ref aNp, .ref aNb, .ref aNa, .ref aNt, .int (nI nts), .ref aNbo, .ref aNsz, .ref aNnu, .int (nI ((pasA (hB b n) 41 ((srL (hB b n) (nmI wk L p) 2 a3).2.1) ((srL (hB b n) (nmI wk L p) 2 a3).1)).1)), .int 1, .int (bI (pasA (hB b n) 41 ((srL (hB b n) (nmI wk L p) 2 a3).2.1) ((srL (hB b n) (nmI wk L p) 2 a3).1)).2), .int ntp, .int (nI p), .int nnw, .int nsn, .int nwn, .ref aNl, .ref aNal, .ref aNlo, .int (nI nac), .ref aNw, .ref aNtr, .ref aNis, .ref aNbg, .ref aNow])), (aNs, .inl (g.2.1 0, 919, .inl (msF gr wk z lk sz br ru ki ma bb ce hd))), (aNt, .inl (g.2.1 0, 60, .inl (nIf tb))), (aNa, .inl (g.2.1 0, 2475, .inl (nIf fcN))), (aNr, .inl (g.2.1 0, 495, .inl (nIf rowB))), (aNb, .inl (g.2.1 0, 4096, .inl (nIf popN)))]) dX9_choice_88 0 14 inX9 tyX9_ok nmX9 fl_X9_148 rfl rfl (by decide) rfl (rfl) rfl (xlt rfl) rfl ?_
        refine x_iload_n dX9_choice_91 rfl ?_
        rw [← hQ]
        refine x_iret dX9_choice_92 rfl (Nat.le_of_ble_eq_true rfl) (Nat.le_of_ble_eq_true rfl) ?_
        try simp only [ev1]
        rw [show hrL (hB b n) (nmI wk L p) 3 nta = choR (hB b n) (srL (hB b n) (nmI wk L p) 2) (nta + 1) from rfl]
        first | (rw [choA hR1]; exact ⟨rfl, rfl⟩) | (rw [choB hR1 hq2]; exact ⟨rfl, rfl⟩) | (rw [choC hR1 hq2 hR3]; exact ⟨rfl, rfl⟩) | (rw [choD hR1 hq2 hR3]; exact ⟨rfl, rfl⟩)
      refine x_if_le dX9_choice_66 (fun c66 => ?_) (fun c66 => ?_)
      · have c66 : w1 ≤ 0 := c66
        refine x_iload_n dX9_choice_73 rfl ?_
        exact J66_2 _ (if_pos c66).symm
      · have c66 : ¬ (w1 ≤ 0) := c66
        refine x_iload_n dX9_choice_69 rfl ?_
        refine x_goto dX9_choice_70 ?_
        exact J66_2 _ (if_neg c66).symm
    · skip
      refine x_eq (lv' := [some (.ref aN), some (.int w1), some (.int ((srL (hB b n) (nmI wk L p) 2 (a1 + 1)).2.2)), none]) (st' := []) (ws' := [(aN, .inr (9, [.ref aNs, .ref aNk, .int nkp, .ref aNf, .ref aNr, .ref aNp, .ref aNb, .ref aNa, .ref aNt, .int (nI nts), .ref aNbo, .ref aNsz, .ref aNnu, .int (nI a3), .int 2, .int 1, .int ntp, .int (nI p), .int nnw, .int nsn, .int nwn, .ref aNl, .ref aNal, .ref aNlo, .int (nI nac), .ref aNw, .ref aNtr, .ref aNis, .ref aNbg, .ref aNow])), (aNs, .inl (g.2.1 0, 919, .inl (msF gr wk z lk sz br ru ki ma bb ce hd))), (aNt, .inl (g.2.1 0, 60, .inl (nIf tb))), (aNa, .inl (g.2.1 0, 2475, .inl (nIf fcN))), (aNr, .inl (g.2.1 0, 495, .inl (nIf rowB))), (aNb, .inl (g.2.1 0, 4096, .inl (nIf popN)))]) ?_ rfl rfl rfl
      refine x_aload_n dX9_choice_60 rfl ?_
      refine x_cVi0 dX9_choice_61 ml_X9_151 mX9_sum (ct_sum_b κ.2.1 g aN aNs aNk aNf aNr aNp aNb aNa aNt aNbo aNsz aNnu aNl aNal aNlo aNw aNtr aNis aNbg aNow nts a3 2 nac nkp ntp nnw nsn nwn gr wk lk sz br z ru ki ma bb hd ce tb p) [0, 1, 2, 3, 4, 5] rfl rfl 0 rfl rfl rfl (Nat.le_of_ble_eq_true rfl) (by decide) (Nat.le_refl _) (Nat.le_refl _) ?_
      skip
      refine x_istore_n (lv' := [some (.ref aN), some (.int w1), some (.int ((srL (hB b n) (nmI wk L p) 2 (a1 + 1)).2.2)), some (.int 0)]) dX9_choice_64 (xlt rfl) rfl ?_
      refine x_iload_n dX9_choice_65 rfl ?_
      have J66_4 : ∀ (v3 : Int32), v3 = (if w1 ≤ 0 then 0 else (srL (hB b n) (nmI wk L p) 2 (a1 + 1)).2.2) → Xs κ g 17 0 0 cX9_choice yX9_choice (some .int) Q 0 0 74 [some (.ref aN), some (.int w1), some (.int ((srL (hB b n) (nmI wk L p) 2 (a1 + 1)).2.2)), some (.int 0)] [.int v3] [(aN, .inr (9, [.ref aNs, .ref aNk, .int nkp, .ref aNf, .ref aNr, .ref aNp, .ref aNb, .ref aNa, .ref aNt, .int (nI nts), .ref aNbo, .ref aNsz, .ref aNnu, .int (nI a3), .int 2, .int 1, .int ntp, .int (nI p), .int nnw, .int nsn, .int nwn, .ref aNl, .ref aNal, .ref aNlo, .int (nI nac), .ref aNw, .ref aNtr, .ref aNis, .ref aNbg, .ref aNow])), (aNs, .inl (g.2.1 0, 919, .inl (msF gr wk z lk sz br ru ki ma bb ce hd))), (aNt, .inl (g.2.1 0, 60, .inl (nIf tb))), (aNa, .inl (g.2.1 0, 2475, .inl (nIf fcN))), (aNr, .inl (g.2.1 0, 495, .inl (nIf rowB))), (aNb, .inl (g.2.1 0, 4096, .inl (nIf popN)))] := by
        intro v3 ev3
        refine x_istore_n (lv' := [some (.ref aN), some (.int v3), some (.int ((srL (hB b n) (nmI wk L p) 2 (a1 + 1)).2.2)), some (.int 0)]) dX9_choice_74 (xlt rfl) rfl ?_
        refine x_aload_n dX9_choice_75 rfl ?_
        refine x_bipush 41 dX9_choice_76 (by decide) ?_
        refine x_cVv (ws' := [(aN, .inr (9, [.ref aNs, .ref aNk, .int nkp, .ref aNf, .ref aNr, .ref aNp, .ref aNb, .ref aNa, .ref aNt, .int (nI nts), .ref aNbo, .ref aNsz, .ref aNnu, .int (nI ((pasA (hB b n) 41 true a3).1)), .int 2, .int (bI (pasA (hB b n) 41 true a3).2), .int ntp, .int (nI p), .int nnw, .int nsn, .int nwn, .ref aNl, .ref aNal, .ref aNlo, .int (nI nac), .ref aNw, .ref aNtr, .ref aNis, .ref aNbg, .ref aNow])), (aNs, .inl (g.2.1 0, 919, .inl (msF gr wk z lk sz br ru ki ma bb ce hd))), (aNt, .inl (g.2.1 0, 60, .inl (nIf tb))), (aNa, .inl (g.2.1 0, 2475, .inl (nIf fcN))), (aNr, .inl (g.2.1 0, 495, .inl (nIf rowB))), (aNb, .inl (g.2.1 0, 4096, .inl (nIf popN)))]) dX9_choice_78 ml_X9_154 mX9_must (ct_X9_must κ.2.1 g aN aNs aNk aNf aNr aNp aNb aNa aNt aNbo aNsz aNnu aNl aNal aNlo aNw aNtr aNis aNbg aNow nts a3 2 p nac nkp ntp nnw nsn nwn gr wk lk sz br z ru ki ma bb hd ce tb b n 41 true (ht) (by omega) (hn) (hb) (by decide)) [0, 1, 2] rfl rfl 0 rfl rfl rfl (Nat.le_of_ble_eq_true rfl) (by decide) (Nat.le_refl _) (Nat.le_refl _) (rfl : [aN, aNs, aNt] = [aN, aNs, aNt]) rfl ?_
        refine x_aload_n dX9_choice_81 rfl ?_
        refine x_dup dX9_choice_82 rfl ?_
        refine x_get dX9_choice_83 0 14 inX9 fl_X9_148 rfl rfl (by decide) rfl ?_
        refine x_iconst 1 dX9_choice_86 (by decide) ?_
        refine x_isub dX9_choice_87 ?_
        refine x_rei 1 (by decide) ?_
        refine x_put (ws' := [(aN, .inr (9, [.ref aNs, .ref aNk, .int nkp, .ref aNf, .ref aNr, .ref aNp, .ref aNb, .ref aNa, .ref aNt, .int (nI nts), .ref aNbo, .ref aNsz, .ref aNnu, .int (nI ((pasA (hB b n) 41 true a3).1)), .int 1, .int (bI (pasA (hB b n) 41 true a3).2), .int ntp, .int (nI p), .int nnw, .int nsn, .int nwn, .ref aNl, .ref aNal, .ref aNlo, .int (nI nac), .ref aNw, .ref aNtr, .ref aNis, .ref aNbg, .ref aNow])), (aNs, .inl (g.2.1 0, 919, .inl (msF gr wk z lk sz br ru ki ma bb ce hd))), (aNt, .inl (g.2.1 0, 60, .inl (nIf tb))), (aNa, .inl (g.2.1 0, 2475, .inl (nIf fcN))), (aNr, .inl (g.2.1 0, 495, .inl (nIf rowB))), (aNb, .inl (g.2.1 0, 4096, .inl (nIf popN)))]) dX9_choice_88 0 14 inX9 tyX9_ok nmX9 fl_X9_148 rfl rfl (by decide) rfl (rfl) rfl (xlt rfl) rfl ?_
        refine x_iload_n dX9_choice_91 rfl ?_
        rw [← hQ]
        refine x_iret dX9_choice_92 rfl (Nat.le_of_ble_eq_true rfl) (Nat.le_of_ble_eq_true rfl) ?_
        try simp only [ev3]
        rw [show hrL (hB b n) (nmI wk L p) 3 nta = choR (hB b n) (srL (hB b n) (nmI wk L p) 2) (nta + 1) from rfl]
        first | (rw [choA hR1]; exact ⟨rfl, rfl⟩) | (rw [choB hR1 hq2]; exact ⟨rfl, rfl⟩) | (rw [choC hR1 hq2 hR3]; exact ⟨rfl, rfl⟩) | (rw [choD hR1 hq2 hR3]; exact ⟨rfl, rfl⟩)
      refine x_if_le dX9_choice_66 (fun c66 => ?_) (fun c66 => ?_)
      · have c66 : w1 ≤ 0 := c66
        refine x_iload_n dX9_choice_73 rfl ?_
        exact J66_4 _ (if_pos c66).symm
      · have c66 : ¬ (w1 ≤ 0) := c66
        refine x_iload_n dX9_choice_69 rfl ?_
        refine x_goto dX9_choice_70 ?_
        exact J66_4 _ (if_neg c66).symm
  · skip
    refine x_eq (lv' := [some (.ref aN), none, none, none]) (st' := [.int w1]) (ws' := [(aN, .inr (9, [.ref aNs, .ref aNk, .int nkp, .ref aNf, .ref aNr, .ref aNp, .ref aNb, .ref aNa, .ref aNt, .int (nI nts), .ref aNbo, .ref aNsz, .ref aNnu, .int (nI a1), .int 2, .int 0, .int ntp, .int (nI p), .int nnw, .int nsn, .int nwn, .ref aNl, .ref aNal, .ref aNlo, .int (nI nac), .ref aNw, .ref aNtr, .ref aNis, .ref aNbg, .ref aNow])), (aNs, .inl (g.2.1 0, 919, .inl (msF gr wk z lk sz br ru ki ma bb ce hd))), (aNt, .inl (g.2.1 0, 60, .inl (nIf tb))), (aNa, .inl (g.2.1 0, 2475, .inl (nIf fcN))), (aNr, .inl (g.2.1 0, 495, .inl (nIf rowB))), (aNb, .inl (g.2.1 0, 4096, .inl (nIf popN)))]) ?_ rfl rfl rfl
    refine x_istore_n (lv' := [some (.ref aN), some (.int w1), none, none]) dX9_choice_39 (xlt rfl) rfl ?_
    refine x_aload_n dX9_choice_40 rfl ?_
    refine x_bipush 63 dX9_choice_41 (by decide) ?_
    refine x_cVi0 dX9_choice_43 ml_X9_141 mX9_takes (ct_takes_n κ.2.1 g aN aNs aNk aNf aNr aNp aNb aNa aNt aNbo aNsz aNnu aNl aNal aNlo aNw aNtr aNis aNbg aNow nts a1 2 p nac nkp ntp nnw nsn nwn gr wk lk sz br z ru ki ma bb hd ce tb b n 63 (ht) (by omega) (hn) (hb) (by decide) (hq2)) [0, 1, 2] rfl rfl 0 rfl rfl rfl (Nat.le_of_ble_eq_true rfl) (by decide) (Nat.le_refl _) (Nat.le_refl _) ?_
    refine x_if_eq dX9_choice_46 (fun c46 => ?_) (fun c46 => ?_)
    rotate_left
    · exact absurd c46 (by decide)
    refine x_aload_n dX9_choice_75 rfl ?_
    refine x_bipush 41 dX9_choice_76 (by decide) ?_
    refine x_cVv (ws' := [(aN, .inr (9, [.ref aNs, .ref aNk, .int nkp, .ref aNf, .ref aNr, .ref aNp, .ref aNb, .ref aNa, .ref aNt, .int (nI nts), .ref aNbo, .ref aNsz, .ref aNnu, .int (nI ((pasA (hB b n) 41 false a1).1)), .int 2, .int (bI (pasA (hB b n) 41 false a1).2), .int ntp, .int (nI p), .int nnw, .int nsn, .int nwn, .ref aNl, .ref aNal, .ref aNlo, .int (nI nac), .ref aNw, .ref aNtr, .ref aNis, .ref aNbg, .ref aNow])), (aNs, .inl (g.2.1 0, 919, .inl (msF gr wk z lk sz br ru ki ma bb ce hd))), (aNt, .inl (g.2.1 0, 60, .inl (nIf tb))), (aNa, .inl (g.2.1 0, 2475, .inl (nIf fcN))), (aNr, .inl (g.2.1 0, 495, .inl (nIf rowB))), (aNb, .inl (g.2.1 0, 4096, .inl (nIf popN)))]) dX9_choice_78 ml_X9_154 mX9_must (ct_X9_must κ.2.1 g aN aNs aNk aNf aNr aNp aNb aNa aNt aNbo aNsz aNnu aNl aNal aNlo aNw aNtr aNis aNbg aNow nts a1 2 p nac nkp ntp nnw nsn nwn gr wk lk sz br z ru ki ma bb hd ce tb b n 41 false (ht) (by omega) (hn) (hb) (by decide)) [0, 1, 2] rfl rfl 0 rfl rfl rfl (Nat.le_of_ble_eq_true rfl) (by decide) (Nat.le_refl _) (Nat.le_refl _) (rfl : [aN, aNs, aNt] = [aN, aNs, aNt]) rfl ?_
    refine x_aload_n dX9_choice_81 rfl ?_
    refine x_dup dX9_choice_82 rfl ?_
    refine x_get dX9_choice_83 0 14 inX9 fl_X9_148 rfl rfl (by decide) rfl ?_
    refine x_iconst 1 dX9_choice_86 (by decide) ?_
    refine x_isub dX9_choice_87 ?_
    refine x_rei 1 (by decide) ?_
    refine x_put (ws' := [(aN, .inr (9, [.ref aNs, .ref aNk, .int nkp, .ref aNf, .ref aNr, .ref aNp, .ref aNb, .ref aNa, .ref aNt, .int (nI nts), .ref aNbo, .ref aNsz, .ref aNnu, .int (nI ((pasA (hB b n) 41 false a1).1)), .int 1, .int (bI (pasA (hB b n) 41 false a1).2), .int ntp, .int (nI p), .int nnw, .int nsn, .int nwn, .ref aNl, .ref aNal, .ref aNlo, .int (nI nac), .ref aNw, .ref aNtr, .ref aNis, .ref aNbg, .ref aNow])), (aNs, .inl (g.2.1 0, 919, .inl (msF gr wk z lk sz br ru ki ma bb ce hd))), (aNt, .inl (g.2.1 0, 60, .inl (nIf tb))), (aNa, .inl (g.2.1 0, 2475, .inl (nIf fcN))), (aNr, .inl (g.2.1 0, 495, .inl (nIf rowB))), (aNb, .inl (g.2.1 0, 4096, .inl (nIf popN)))]) dX9_choice_88 0 14 inX9 tyX9_ok nmX9 fl_X9_148 rfl rfl (by decide) rfl (rfl) rfl (xlt rfl) rfl ?_
    refine x_iload_n dX9_choice_91 rfl ?_
    rw [← hQ]
    refine x_iret dX9_choice_92 rfl (Nat.le_of_ble_eq_true rfl) (Nat.le_of_ble_eq_true rfl) ?_
    try simp only []
    rw [show hrL (hB b n) (nmI wk L p) 3 nta = choR (hB b n) (srL (hB b n) (nmI wk L p) 2) (nta + 1) from rfl]
    first | (rw [choA hR1]; exact ⟨rfl, rfl⟩) | (rw [choB hR1 hq2]; exact ⟨rfl, rfl⟩) | (rw [choC hR1 hq2 hR3]; exact ⟨rfl, rfl⟩) | (rw [choD hR1 hq2 hR3]; exact ⟨rfl, rfl⟩)
  · skip
    refine x_eq (lv' := [some (.ref aN), none, none, none]) (st' := [.int w1]) (ws' := [(aN, .inr (9, [.ref aNs, .ref aNk, .int nkp, .ref aNf, .ref aNr, .ref aNp, .ref aNb, .ref aNa, .ref aNt, .int (nI nts), .ref aNbo, .ref aNsz, .ref aNnu, .int (nI a1), .int 2, .int 1, .int ntp, .int (nI p), .int nnw, .int nsn, .int nwn, .ref aNl, .ref aNal, .ref aNlo, .int (nI nac), .ref aNw, .ref aNtr, .ref aNis, .ref aNbg, .ref aNow])), (aNs, .inl (g.2.1 0, 919, .inl (msF gr wk z lk sz br ru ki ma bb ce hd))), (aNt, .inl (g.2.1 0, 60, .inl (nIf tb))), (aNa, .inl (g.2.1 0, 2475, .inl (nIf fcN))), (aNr, .inl (g.2.1 0, 495, .inl (nIf rowB))), (aNb, .inl (g.2.1 0, 4096, .inl (nIf popN)))]) ?_ rfl rfl rfl
    refine x_istore_n (lv' := [some (.ref aN), some (.int w1), none, none]) dX9_choice_39 (xlt rfl) rfl ?_
    refine x_aload_n dX9_choice_40 rfl ?_
    refine x_bipush 63 dX9_choice_41 (by decide) ?_
    refine x_cVi0 dX9_choice_43 ml_X9_141 mX9_takes (ct_takes_b κ.2.1 g aN aNs aNk aNf aNr aNp aNb aNa aNt aNbo aNsz aNnu aNl aNal aNlo aNw aNtr aNis aNbg aNow nts a1 2 p nac nkp ntp nnw nsn nwn gr wk lk sz br z ru ki ma bb hd ce tb 63) [0, 1, 2] rfl rfl 0 rfl rfl rfl (Nat.le_of_ble_eq_true rfl) (by decide) (Nat.le_refl _) (Nat.le_refl _) ?_
    refine x_if_eq dX9_choice_46 (fun c46 => ?_) (fun c46 => ?_)
    rotate_left
    · exact absurd c46 (by decide)
    refine x_aload_n dX9_choice_75 rfl ?_
    refine x_bipush 41 dX9_choice_76 (by decide) ?_
    refine x_cVv (ws' := [(aN, .inr (9, [.ref aNs, .ref aNk, .int nkp, .ref aNf, .ref aNr, .ref aNp, .ref aNb, .ref aNa, .ref aNt, .int (nI nts), .ref aNbo, .ref aNsz, .ref aNnu, .int (nI ((pasA (hB b n) 41 true a1).1)), .int 2, .int (bI (pasA (hB b n) 41 true a1).2), .int ntp, .int (nI p), .int nnw, .int nsn, .int nwn, .ref aNl, .ref aNal, .ref aNlo, .int (nI nac), .ref aNw, .ref aNtr, .ref aNis, .ref aNbg, .ref aNow])), (aNs, .inl (g.2.1 0, 919, .inl (msF gr wk z lk sz br ru ki ma bb ce hd))), (aNt, .inl (g.2.1 0, 60, .inl (nIf tb))), (aNa, .inl (g.2.1 0, 2475, .inl (nIf fcN))), (aNr, .inl (g.2.1 0, 495, .inl (nIf rowB))), (aNb, .inl (g.2.1 0, 4096, .inl (nIf popN)))]) dX9_choice_78 ml_X9_154 mX9_must (ct_X9_must κ.2.1 g aN aNs aNk aNf aNr aNp aNb aNa aNt aNbo aNsz aNnu aNl aNal aNlo aNw aNtr aNis aNbg aNow nts a1 2 p nac nkp ntp nnw nsn nwn gr wk lk sz br z ru ki ma bb hd ce tb b n 41 true (ht) (by omega) (hn) (hb) (by decide)) [0, 1, 2] rfl rfl 0 rfl rfl rfl (Nat.le_of_ble_eq_true rfl) (by decide) (Nat.le_refl _) (Nat.le_refl _) (rfl : [aN, aNs, aNt] = [aN, aNs, aNt]) rfl ?_
    refine x_aload_n dX9_choice_81 rfl ?_
    refine x_dup dX9_choice_82 rfl ?_
    refine x_get dX9_choice_83 0 14 inX9 fl_X9_148 rfl rfl (by decide) rfl ?_
    refine x_iconst 1 dX9_choice_86 (by decide) ?_
    refine x_isub dX9_choice_87 ?_
    refine x_rei 1 (by decide) ?_
    refine x_put (ws' := [(aN, .inr (9, [.ref aNs, .ref aNk, .int nkp, .ref aNf, .ref aNr, .ref aNp, .ref aNb, .ref aNa, .ref aNt, .int (nI nts), .ref aNbo, .ref aNsz, .ref aNnu, .int (nI ((pasA (hB b n) 41 true a1).1)), .int 1, .int (bI (pasA (hB b n) 41 true a1).2), .int ntp, .int (nI p), .int nnw, .int nsn, .int nwn, .ref aNl, .ref aNal, .ref aNlo, .int (nI nac), .ref aNw, .ref aNtr, .ref aNis, .ref aNbg, .ref aNow])), (aNs, .inl (g.2.1 0, 919, .inl (msF gr wk z lk sz br ru ki ma bb ce hd))), (aNt, .inl (g.2.1 0, 60, .inl (nIf tb))), (aNa, .inl (g.2.1 0, 2475, .inl (nIf fcN))), (aNr, .inl (g.2.1 0, 495, .inl (nIf rowB))), (aNb, .inl (g.2.1 0, 4096, .inl (nIf popN)))]) dX9_choice_88 0 14 inX9 tyX9_ok nmX9 fl_X9_148 rfl rfl (by decide) rfl (rfl) rfl (xlt rfl) rfl ?_
    refine x_iload_n dX9_choice_91 rfl ?_
    rw [← hQ]
    refine x_iret dX9_choice_92 rfl (Nat.le_of_ble_eq_true rfl) (Nat.le_of_ble_eq_true rfl) ?_
    try simp only []
    rw [show hrL (hB b n) (nmI wk L p) 3 nta = choR (hB b n) (srL (hB b n) (nmI wk L p) 2) (nta + 1) from rfl]
    first | (rw [choA hR1]; exact ⟨rfl, rfl⟩) | (rw [choB hR1 hq2]; exact ⟨rfl, rfl⟩) | (rw [choC hR1 hq2 hR3]; exact ⟨rfl, rfl⟩) | (rw [choD hR1 hq2 hR3]; exact ⟨rfl, rfl⟩)

-- == fr_3 ==
set_option maxRecDepth 100000 in
set_option maxHeartbeats 4000000 in
theorem ct_fr_3 (l : Launch) (g : XG) (aN aNs aNk aNf aNr aNp aNb aNa aNt aNbo aNsz aNnu aNl aNal aNlo aNw aNtr aNis aNbg aNow nts nta nac : Nat) (nkp ntp nnw nsn nwn : Int32) (gr wk lk sz br : Nat) (z : Int32) (ru ki ma bb hd : Nat → Nat) (ce : Nat → Int32) (tb b : Nat → Nat) (n L p : Nat) (ht : (ntp = 1 ∧ n = nts ∧ b = tb) ∨ (ntp = 0 ∧ n = sz ∧ b = bb)) (ha : nta ≤ n) (hn : n ≤ 60) (hb : ∀ j, b j < 256) (hp : p < 495) (hwk : wk ≤ 40) (hlat : latI ce wk = nI L) : Ct l g 18 0 0 yX9_factor cX9_factor 3 (some .int) [.ref aN] [(aN, .inr (9, [.ref aNs, .ref aNk, .int nkp, .ref aNf, .ref aNr, .ref aNp, .ref aNb, .ref aNa, .ref aNt, .int (nI nts), .ref aNbo, .ref aNsz, .ref aNnu, .int (nI nta), .int 1, .int 0, .int ntp, .int (nI p), .int nnw, .int nsn, .int nwn, .ref aNl, .ref aNal, .ref aNlo, .int (nI nac), .ref aNw, .ref aNtr, .ref aNis, .ref aNbg, .ref aNow])), (aNs, .inl (g.2.1 0, 919, .inl (msF gr wk z lk sz br ru ki ma bb ce hd))), (aNt, .inl (g.2.1 0, 60, .inl (nIf tb))), (aNa, .inl (g.2.1 0, 2475, .inl (nIf fcN))), (aNr, .inl (g.2.1 0, 495, .inl (nIf rowB))), (aNb, .inl (g.2.1 0, 4096, .inl (nIf popN)))] (xpi ((frL (hB b n) (nmI wk L p) 3 nta).2.2) [(aN, .inr (9, [.ref aNs, .ref aNk, .int nkp, .ref aNf, .ref aNr, .ref aNp, .ref aNb, .ref aNa, .ref aNt, .int (nI nts), .ref aNbo, .ref aNsz, .ref aNnu, .int (nI ((frL (hB b n) (nmI wk L p) 3 nta).1)), .int 1, .int (bI (frL (hB b n) (nmI wk L p) 3 nta).2.1), .int ntp, .int (nI p), .int nnw, .int nsn, .int nwn, .ref aNl, .ref aNal, .ref aNlo, .int (nI nac), .ref aNw, .ref aNtr, .ref aNis, .ref aNbg, .ref aNow])), (aNs, .inl (g.2.1 0, 919, .inl (msF gr wk z lk sz br ru ki ma bb ce hd))), (aNt, .inl (g.2.1 0, 60, .inl (nIf tb))), (aNa, .inl (g.2.1 0, 2475, .inl (nIf fcN))), (aNr, .inl (g.2.1 0, 495, .inl (nIf rowB))), (aNb, .inl (g.2.1 0, 4096, .inl (nIf popN)))]) := by
  refine Ct.ofX (lv := [some (.ref aN), none, none]) (by decide) rfl (Nat.le_of_ble_eq_true rfl) (fun κ => ?_)
  generalize hQ : xQ κ g 0 0 _ = Q
  refine x_aload_n dX9_factor_0 rfl ?_
  refine x_get dX9_factor_1 0 15 inX9 fl_X9_135 rfl rfl (by decide) rfl ?_
  refine x_if_eq dX9_factor_4 (fun c4 => ?_) (fun c4 => ?_)
  rotate_left
  · exact absurd c4 (by decide)
  refine x_aload_n dX9_factor_9 rfl ?_
  refine x_cVi0 dX9_factor_10 ml_X9_138 mX9_byteHere (ct_X9_byteHere κ.2.1 g aN aNs aNk aNf aNr aNp aNb aNa aNt aNbo aNsz aNnu aNl aNal aNlo aNw aNtr aNis aNbg aNow nts nta 1 p nac nkp 0 ntp nnw nsn nwn gr wk lk sz br z ru ki ma bb hd ce tb b n (ht) (by omega) (hn) (hb)) [0, 1, 2] rfl rfl 0 rfl rfl rfl (Nat.le_of_ble_eq_true rfl) (by decide) (Nat.le_refl _) (Nat.le_refl _) ?_
  rcases hI_cases (hB b n) nta with ⟨hlt, hh⟩ | ⟨hlt, hh⟩ <;> rw [hh]
  · skip
    refine x_istore_n (lv' := [some (.ref aN), some (.int (nI (hB b n nta))), none]) dX9_factor_13 (xlt rfl) rfl ?_
    refine x_iload_n dX9_factor_14 rfl ?_
    refine x_i2l dX9_factor_15 ?_
    refine x_ldc2 dX9_factor_16 kl_X9_144 ?_
    refine x_ldc2 dX9_factor_19 kl_X9_146 ?_
    refine x_cSi dX9_factor_22 ml_X9_98 mX9_isIn (ct_X9_isIn κ.2.1 g ((nI (hB b n nta)).toInt64) 48 57) rfl (Nat.le_of_ble_eq_true rfl) (by decide) (Nat.le_refl _) (Nat.le_refl _) ?_
    refine x_rei (wI (nI (hB b n nta)) 48 57) (inL_w (nI (hB b n nta)) 48 57 (by first | rfl | decide) (by first | rfl | decide)) ?_
    skip
    refine x_if_eq dX9_factor_25 (fun c25 => ?_) (fun c25 => ?_)
    · have c25 : (wI (nI (hB b n nta)) 48 57) = 0 := c25
      refine x_iload_n dX9_factor_33 rfl ?_
      refine x_bipush 40 dX9_factor_34 (by decide) ?_
      refine x_icmp_ne dX9_factor_36 (fun c36 => ?_) (fun c36 => ?_)
      · have c36 : ¬ ((nI (hB b n nta)) = 40) := c36
        have c36n := mt (nI_eq (a := (hB b n nta)) (b := 40) (by omega) (by omega)).mpr c36
        refine x_aload_n dX9_factor_44 rfl ?_
        refine x_iload_n dX9_factor_45 rfl ?_
        refine x_cVi0 dX9_factor_46 ml_X9_164 mX9_named (ct_named_n κ.2.1 g aN aNs aNk aNf aNr aNp aNb aNa aNt aNbo aNsz aNnu aNl aNal aNlo aNw aNtr aNis aNbg aNow nts nta 1 nac nkp 0 ntp nnw nsn nwn gr wk lk sz br z ru ki ma bb hd ce L p (hB b n nta) (hp) (hwk) (hlat) (hlt)) [0, 1, 3, 4, 5] rfl rfl 0 rfl rfl rfl (Nat.le_of_ble_eq_true rfl) (by decide) (Nat.le_refl _) (Nat.le_refl _) ?_
        have hnn := nmN_le (L := L) hwk hp (nmIx (hB b n nta))
        by_cases hni : nmIx (hB b n nta) < 7
        · rw [if_pos hni]
          refine x_istore_n (lv' := [some (.ref aN), some (.int (nI (hB b n nta))), some (.int (nI (nmN wk L (rowB p) (nmIx (hB b n nta)))))]) dX9_factor_49 (xlt rfl) rfl ?_
          refine x_aload_n dX9_factor_50 rfl ?_
          refine x_iload_n dX9_factor_51 rfl ?_
          refine x_if_ge dX9_factor_52 (fun c52 => ?_) (fun c52 => ?_)
          · have c52 : 0 ≤ (nI (nmN wk L (rowB p) (nmIx (hB b n nta)))) := c52
            have c52n := (nI_leI (a := 0) (b := (nmN wk L (rowB p) (nmIx (hB b n nta)))) (by omega) (by omega)).mp c52
            refine x_iconst 0 dX9_factor_59 (by decide) ?_
            refine x_put (ws' := [(aN, .inr (9, [.ref aNs, .ref aNk, .int nkp, .ref aNf, .ref aNr, .ref aNp, .ref aNb, .ref aNa, .ref aNt, .int (nI nts), .ref aNbo, .ref aNsz, .ref aNnu, .int (nI nta), .int 1, .int 0, .int ntp, .int (nI p), .int nnw, .int nsn, .int nwn, .ref aNl, .ref aNal, .ref aNlo, .int (nI nac), .ref aNw, .ref aNtr, .ref aNis, .ref aNbg, .ref aNow])), (aNs, .inl (g.2.1 0, 919, .inl (msF gr wk z lk sz br ru ki ma bb ce hd))), (aNt, .inl (g.2.1 0, 60, .inl (nIf tb))), (aNa, .inl (g.2.1 0, 2475, .inl (nIf fcN))), (aNr, .inl (g.2.1 0, 495, .inl (nIf rowB))), (aNb, .inl (g.2.1 0, 4096, .inl (nIf popN)))]) dX9_factor_60 0 15 inX9 tyX9_ok nmX9 fl_X9_135 rfl rfl (by decide) rfl (rfl) rfl (xlt rfl) rfl ?_
            refine x_aload_n dX9_factor_63 rfl ?_
            refine x_dup dX9_factor_64 rfl ?_
            refine x_get dX9_factor_65 0 13 inX9 fl_X9_119 rfl rfl (by decide) rfl ?_
            refine x_aload_n dX9_factor_68 rfl ?_
            refine x_get dX9_factor_69 0 15 inX9 fl_X9_135 rfl rfl (by decide) rfl ?_
            refine x_if_eq dX9_factor_72 (fun c72 => ?_) (fun c72 => ?_)
            rotate_left
            · exact absurd c72 (by decide)
            refine x_iconst 1 dX9_factor_79 (by decide) ?_
            refine x_iadd dX9_factor_80 ?_
            refine x_rei (nI (nta + 1)) (nI_addc nta 1 rfl) ?_
            refine x_put (ws' := [(aN, .inr (9, [.ref aNs, .ref aNk, .int nkp, .ref aNf, .ref aNr, .ref aNp, .ref aNb, .ref aNa, .ref aNt, .int (nI nts), .ref aNbo, .ref aNsz, .ref aNnu, .int (nI (nta + 1)), .int 1, .int 0, .int ntp, .int (nI p), .int nnw, .int nsn, .int nwn, .ref aNl, .ref aNal, .ref aNlo, .int (nI nac), .ref aNw, .ref aNtr, .ref aNis, .ref aNbg, .ref aNow])), (aNs, .inl (g.2.1 0, 919, .inl (msF gr wk z lk sz br ru ki ma bb ce hd))), (aNt, .inl (g.2.1 0, 60, .inl (nIf tb))), (aNa, .inl (g.2.1 0, 2475, .inl (nIf fcN))), (aNr, .inl (g.2.1 0, 495, .inl (nIf rowB))), (aNb, .inl (g.2.1 0, 4096, .inl (nIf popN)))]) dX9_factor_81 0 13 inX9 tyX9_ok nmX9 fl_X9_119 rfl rfl (by decide) rfl (rfl) rfl (xlt rfl) rfl ?_
            refine x_iload_n dX9_factor_84 rfl ?_
            rw [← hQ]
            refine x_iret dX9_factor_85 rfl (Nat.le_of_ble_eq_true rfl) (Nat.le_of_ble_eq_true rfl) ?_
            first | (rw [frL, facR, if_neg (by first | exact dgW0 hlt c25 | exact dg_no hlt), if_neg (by omega), if_pos hni]; exact ⟨rfl, rfl⟩) | (rw [frL, facR, if_neg (by first | exact dgW0 hlt c25 | exact dg_no hlt), if_neg (by omega), if_neg (by first | exact hni | exact nmIx_no hlt)]; exact ⟨rfl, rfl⟩)
          · have c52 : ¬ (0 ≤ (nI (nmN wk L (rowB p) (nmIx (hB b n nta))))) := c52
            have c52n := mt (nI_leI (a := 0) (b := (nmN wk L (rowB p) (nmIx (hB b n nta)))) (by omega) (by omega)).mpr c52
            exact absurd c52n (by omega)
        · rw [if_neg hni]
          refine x_istore_n (lv' := [some (.ref aN), some (.int (nI (hB b n nta))), some (.int ((-1)))]) dX9_factor_49 (xlt rfl) rfl ?_
          refine x_aload_n dX9_factor_50 rfl ?_
          refine x_iload_n dX9_factor_51 rfl ?_
          refine x_if_ge dX9_factor_52 (fun c52 => ?_) (fun c52 => ?_)
          · exact absurd c52 (by decide)
          refine x_iconst 1 dX9_factor_55 (by decide) ?_
          refine x_goto dX9_factor_56 ?_
          refine x_put (ws' := [(aN, .inr (9, [.ref aNs, .ref aNk, .int nkp, .ref aNf, .ref aNr, .ref aNp, .ref aNb, .ref aNa, .ref aNt, .int (nI nts), .ref aNbo, .ref aNsz, .ref aNnu, .int (nI nta), .int 1, .int 1, .int ntp, .int (nI p), .int nnw, .int nsn, .int nwn, .ref aNl, .ref aNal, .ref aNlo, .int (nI nac), .ref aNw, .ref aNtr, .ref aNis, .ref aNbg, .ref aNow])), (aNs, .inl (g.2.1 0, 919, .inl (msF gr wk z lk sz br ru ki ma bb ce hd))), (aNt, .inl (g.2.1 0, 60, .inl (nIf tb))), (aNa, .inl (g.2.1 0, 2475, .inl (nIf fcN))), (aNr, .inl (g.2.1 0, 495, .inl (nIf rowB))), (aNb, .inl (g.2.1 0, 4096, .inl (nIf popN)))]) dX9_factor_60 0 15 inX9 tyX9_ok nmX9 fl_X9_135 rfl rfl (by decide) rfl (rfl) rfl (xlt rfl) rfl ?_
          refine x_aload_n dX9_factor_63 rfl ?_
          refine x_dup dX9_factor_64 rfl ?_
          refine x_get dX9_factor_65 0 13 inX9 fl_X9_119 rfl rfl (by decide) rfl ?_
          refine x_aload_n dX9_factor_68 rfl ?_
          refine x_get dX9_factor_69 0 15 inX9 fl_X9_135 rfl rfl (by decide) rfl ?_
          refine x_if_eq dX9_factor_72 (fun c72 => ?_) (fun c72 => ?_)
          · exact absurd c72 (by decide)
          refine x_iconst 0 dX9_factor_75 (by decide) ?_
          refine x_goto dX9_factor_76 ?_
          refine x_iadd dX9_factor_80 ?_
          refine x_rei (nI (nta + 0)) (nI_addc nta 0 rfl) ?_
          refine x_put (ws' := [(aN, .inr (9, [.ref aNs, .ref aNk, .int nkp, .ref aNf, .ref aNr, .ref aNp, .ref aNb, .ref aNa, .ref aNt, .int (nI nts), .ref aNbo, .ref aNsz, .ref aNnu, .int (nI (nta + 0)), .int 1, .int 1, .int ntp, .int (nI p), .int nnw, .int nsn, .int nwn, .ref aNl, .ref aNal, .ref aNlo, .int (nI nac), .ref aNw, .ref aNtr, .ref aNis, .ref aNbg, .ref aNow])), (aNs, .inl (g.2.1 0, 919, .inl (msF gr wk z lk sz br ru ki ma bb ce hd))), (aNt, .inl (g.2.1 0, 60, .inl (nIf tb))), (aNa, .inl (g.2.1 0, 2475, .inl (nIf fcN))), (aNr, .inl (g.2.1 0, 495, .inl (nIf rowB))), (aNb, .inl (g.2.1 0, 4096, .inl (nIf popN)))]) dX9_factor_81 0 13 inX9 tyX9_ok nmX9 fl_X9_119 rfl rfl (by decide) rfl (rfl) rfl (xlt rfl) rfl ?_
          refine x_iload_n dX9_factor_84 rfl ?_
          rw [← hQ]
          refine x_iret dX9_factor_85 rfl (Nat.le_of_ble_eq_true rfl) (Nat.le_of_ble_eq_true rfl) ?_
          first | (rw [frL, facR, if_neg (by first | exact dgW0 hlt c25 | exact dg_no hlt), if_neg (by omega), if_pos hni]; exact ⟨rfl, rfl⟩) | (rw [frL, facR, if_neg (by first | exact dgW0 hlt c25 | exact dg_no hlt), if_neg (by omega), if_neg (by first | exact hni | exact nmIx_no hlt)]; exact ⟨rfl, rfl⟩)
      · have c36 : (nI (hB b n nta)) = 40 := c36
        have c36n := (nI_eq (a := (hB b n nta)) (b := 40) (by omega) (by omega)).mp c36
        refine x_aload_n dX9_factor_39 rfl ?_
        refine x_cVi (ws' := [(aN, .inr (9, [.ref aNs, .ref aNk, .int nkp, .ref aNf, .ref aNr, .ref aNp, .ref aNb, .ref aNa, .ref aNt, .int (nI nts), .ref aNbo, .ref aNsz, .ref aNnu, .int (nI ((hrL (hB b n) (nmI wk L p) 3 nta).1)), .int 1, .int (bI (hrL (hB b n) (nmI wk L p) 3 nta).2.1), .int ntp, .int (nI p), .int nnw, .int nsn, .int nwn, .ref aNl, .ref aNal, .ref aNlo, .int (nI nac), .ref aNw, .ref aNtr, .ref aNis, .ref aNbg, .ref aNow])), (aNs, .inl (g.2.1 0, 919, .inl (msF gr wk z lk sz br ru ki ma bb ce hd))), (aNt, .inl (g.2.1 0, 60, .inl (nIf tb))), (aNa, .inl (g.2.1 0, 2475, .inl (nIf fcN))), (aNr, .inl (g.2.1 0, 495, .inl (nIf rowB))), (aNb, .inl (g.2.1 0, 4096, .inl (nIf popN)))]) dX9_factor_40 ml_X9_161 mX9_choice (ct_ch_3 κ.2.1 g aN aNs aNk aNf aNr aNp aNb aNa aNt aNbo aNsz aNnu aNl aNal aNlo aNw aNtr aNis aNbg aNow nts nta nac nkp ntp nnw nsn nwn gr wk lk sz br z ru ki ma bb hd ce tb b n L p (ht) (by omega) (hn) (hb) (hp) (hwk) (hlat) (c36n)) [0, 1, 2, 3, 4, 5] rfl rfl 0 rfl rfl rfl (Nat.le_of_ble_eq_true rfl) (by decide) (Nat.le_refl _) (Nat.le_refl _) (rfl : [aN, aNs, aNt, aNa, aNr, aNb] = [aN, aNs, aNt, aNa, aNr, aNb]) rfl ?_
        rw [← hQ]
        refine x_iret dX9_factor_43 rfl (Nat.le_of_ble_eq_true rfl) (Nat.le_of_ble_eq_true rfl) ?_
        first | (rw [frL, facR, if_neg (dgW0 hlt c25), if_pos c36n]; exact ⟨rfl, rfl⟩)
    · have c25 : ¬ ((wI (nI (hB b n nta)) 48 57) = 0) := c25
      refine x_aload_n dX9_factor_28 rfl ?_
      refine x_cVi (ws' := [(aN, .inr (9, [.ref aNs, .ref aNk, .int nkp, .ref aNf, .ref aNr, .ref aNp, .ref aNb, .ref aNa, .ref aNt, .int (nI nts), .ref aNbo, .ref aNsz, .ref aNnu, .int (nI ((numI (hB b n) nta).1)), .int 1, .int 0, .int ntp, .int (nI p), .int nnw, .int nsn, .int nwn, .ref aNl, .ref aNal, .ref aNlo, .int (nI nac), .ref aNw, .ref aNtr, .ref aNis, .ref aNbg, .ref aNow])), (aNs, .inl (g.2.1 0, 919, .inl (msF gr wk z lk sz br ru ki ma bb ce hd))), (aNt, .inl (g.2.1 0, 60, .inl (nIf tb))), (aNa, .inl (g.2.1 0, 2475, .inl (nIf fcN))), (aNr, .inl (g.2.1 0, 495, .inl (nIf rowB))), (aNb, .inl (g.2.1 0, 4096, .inl (nIf popN)))]) dX9_factor_29 ml_X9_158 mX9_number (ct_X9_number κ.2.1 g aN aNs aNk aNf aNr aNp aNb aNa aNt aNbo aNsz aNnu aNl aNal aNlo aNw aNtr aNis aNbg aNow nts nta 1 p nac nkp ntp nnw nsn nwn gr wk lk sz br z ru ki ma bb hd ce tb b n (ht) (by omega) (hn) (hb)) [0, 1, 2] rfl rfl 0 rfl rfl rfl (Nat.le_of_ble_eq_true rfl) (by decide) (Nat.le_refl _) (Nat.le_refl _) (rfl : [aN, aNs, aNt] = [aN, aNs, aNt]) rfl ?_
      rw [← hQ]
      refine x_iret dX9_factor_32 rfl (Nat.le_of_ble_eq_true rfl) (Nat.le_of_ble_eq_true rfl) ?_
      first | (rw [frL, facR, if_pos (dgW1 hlt c25)]; exact ⟨rfl, rfl⟩)
  · skip
    refine x_istore_n (lv' := [some (.ref aN), some (.int ((-1))), none]) dX9_factor_13 (xlt rfl) rfl ?_
    refine x_iload_n dX9_factor_14 rfl ?_
    refine x_i2l dX9_factor_15 ?_
    refine x_ldc2 dX9_factor_16 kl_X9_144 ?_
    refine x_ldc2 dX9_factor_19 kl_X9_146 ?_
    refine x_cSi dX9_factor_22 ml_X9_98 mX9_isIn (ct_X9_isIn κ.2.1 g ((-1).toInt64) 48 57) rfl (Nat.le_of_ble_eq_true rfl) (by decide) (Nat.le_refl _) (Nat.le_refl _) ?_
    refine x_rei (wI (-1) 48 57) (inL_w (-1) 48 57 (by first | rfl | decide) (by first | rfl | decide)) ?_
    refine x_rei (0) (by decide) ?_
    refine x_if_eq dX9_factor_25 (fun c25 => ?_) (fun c25 => ?_)
    rotate_left
    · exact absurd c25 (by decide)
    refine x_iload_n dX9_factor_33 rfl ?_
    refine x_bipush 40 dX9_factor_34 (by decide) ?_
    refine x_icmp_ne dX9_factor_36 (fun c36 => ?_) (fun c36 => ?_)
    rotate_left
    · exact absurd c36 (by decide)
    refine x_aload_n dX9_factor_44 rfl ?_
    refine x_iload_n dX9_factor_45 rfl ?_
    refine x_cVi0 dX9_factor_46 ml_X9_164 mX9_named (ct_named_e κ.2.1 g aN aNs aNk aNf aNr aNp aNb aNa aNt aNbo aNsz aNnu aNl aNal aNlo aNw aNtr aNis aNbg aNow nts nta 1 nac nkp 0 ntp nnw nsn nwn gr wk lk sz br z ru ki ma bb hd ce p) [0, 1, 3, 4, 5] rfl rfl 0 rfl rfl rfl (Nat.le_of_ble_eq_true rfl) (by decide) (Nat.le_refl _) (Nat.le_refl _) ?_
    skip
    refine x_istore_n (lv' := [some (.ref aN), some (.int ((-1))), some (.int ((-1)))]) dX9_factor_49 (xlt rfl) rfl ?_
    refine x_aload_n dX9_factor_50 rfl ?_
    refine x_iload_n dX9_factor_51 rfl ?_
    refine x_if_ge dX9_factor_52 (fun c52 => ?_) (fun c52 => ?_)
    · exact absurd c52 (by decide)
    refine x_iconst 1 dX9_factor_55 (by decide) ?_
    refine x_goto dX9_factor_56 ?_
    refine x_put (ws' := [(aN, .inr (9, [.ref aNs, .ref aNk, .int nkp, .ref aNf, .ref aNr, .ref aNp, .ref aNb, .ref aNa, .ref aNt, .int (nI nts), .ref aNbo, .ref aNsz, .ref aNnu, .int (nI nta), .int 1, .int 1, .int ntp, .int (nI p), .int nnw, .int nsn, .int nwn, .ref aNl, .ref aNal, .ref aNlo, .int (nI nac), .ref aNw, .ref aNtr, .ref aNis, .ref aNbg, .ref aNow])), (aNs, .inl (g.2.1 0, 919, .inl (msF gr wk z lk sz br ru ki ma bb ce hd))), (aNt, .inl (g.2.1 0, 60, .inl (nIf tb))), (aNa, .inl (g.2.1 0, 2475, .inl (nIf fcN))), (aNr, .inl (g.2.1 0, 495, .inl (nIf rowB))), (aNb, .inl (g.2.1 0, 4096, .inl (nIf popN)))]) dX9_factor_60 0 15 inX9 tyX9_ok nmX9 fl_X9_135 rfl rfl (by decide) rfl (rfl) rfl (xlt rfl) rfl ?_
    refine x_aload_n dX9_factor_63 rfl ?_
    refine x_dup dX9_factor_64 rfl ?_
    refine x_get dX9_factor_65 0 13 inX9 fl_X9_119 rfl rfl (by decide) rfl ?_
    refine x_aload_n dX9_factor_68 rfl ?_
    refine x_get dX9_factor_69 0 15 inX9 fl_X9_135 rfl rfl (by decide) rfl ?_
    refine x_if_eq dX9_factor_72 (fun c72 => ?_) (fun c72 => ?_)
    · exact absurd c72 (by decide)
    refine x_iconst 0 dX9_factor_75 (by decide) ?_
    refine x_goto dX9_factor_76 ?_
    refine x_iadd dX9_factor_80 ?_
    refine x_rei (nI (nta + 0)) (nI_addc nta 0 rfl) ?_
    refine x_put (ws' := [(aN, .inr (9, [.ref aNs, .ref aNk, .int nkp, .ref aNf, .ref aNr, .ref aNp, .ref aNb, .ref aNa, .ref aNt, .int (nI nts), .ref aNbo, .ref aNsz, .ref aNnu, .int (nI (nta + 0)), .int 1, .int 1, .int ntp, .int (nI p), .int nnw, .int nsn, .int nwn, .ref aNl, .ref aNal, .ref aNlo, .int (nI nac), .ref aNw, .ref aNtr, .ref aNis, .ref aNbg, .ref aNow])), (aNs, .inl (g.2.1 0, 919, .inl (msF gr wk z lk sz br ru ki ma bb ce hd))), (aNt, .inl (g.2.1 0, 60, .inl (nIf tb))), (aNa, .inl (g.2.1 0, 2475, .inl (nIf fcN))), (aNr, .inl (g.2.1 0, 495, .inl (nIf rowB))), (aNb, .inl (g.2.1 0, 4096, .inl (nIf popN)))]) dX9_factor_81 0 13 inX9 tyX9_ok nmX9 fl_X9_119 rfl rfl (by decide) rfl (rfl) rfl (xlt rfl) rfl ?_
    refine x_iload_n dX9_factor_84 rfl ?_
    rw [← hQ]
    refine x_iret dX9_factor_85 rfl (Nat.le_of_ble_eq_true rfl) (Nat.le_of_ble_eq_true rfl) ?_
    first | (rw [frL, facR, if_neg (by first | exact dgW0 hlt c25 | exact dg_no hlt), if_neg (by omega), if_pos hni]; exact ⟨rfl, rfl⟩) | (rw [frL, facR, if_neg (by first | exact dgW0 hlt c25 | exact dg_no hlt), if_neg (by omega), if_neg (by first | exact hni | exact nmIx_no hlt)]; exact ⟨rfl, rfl⟩)

-- == tr_3 ==
set_option maxRecDepth 100000 in
set_option maxHeartbeats 4000000 in
theorem ct_tr_3 (l : Launch) (g : XG) (aN aNs aNk aNf aNr aNp aNb aNa aNt aNbo aNsz aNnu aNl aNal aNlo aNw aNtr aNis aNbg aNow nts nta nac : Nat) (nkp ntp nnw nsn nwn : Int32) (gr wk lk sz br : Nat) (z : Int32) (ru ki ma bb hd : Nat → Nat) (ce : Nat → Int32) (tb b : Nat → Nat) (n L p : Nat) (ht : (ntp = 1 ∧ n = nts ∧ b = tb) ∨ (ntp = 0 ∧ n = sz ∧ b = bb)) (ha : nta ≤ n) (hn : n ≤ 60) (hb : ∀ j, b j < 256) (hp : p < 495) (hwk : wk ≤ 40) (hlat : latI ce wk = nI L) : Ct l g 19 0 0 yX9_term cX9_term 2 (some .int) [.ref aN] [(aN, .inr (9, [.ref aNs, .ref aNk, .int nkp, .ref aNf, .ref aNr, .ref aNp, .ref aNb, .ref aNa, .ref aNt, .int (nI nts), .ref aNbo, .ref aNsz, .ref aNnu, .int (nI nta), .int 1, .int 0, .int ntp, .int (nI p), .int nnw, .int nsn, .int nwn, .ref aNl, .ref aNal, .ref aNlo, .int (nI nac), .ref aNw, .ref aNtr, .ref aNis, .ref aNbg, .ref aNow])), (aNs, .inl (g.2.1 0, 919, .inl (msF gr wk z lk sz br ru ki ma bb ce hd))), (aNt, .inl (g.2.1 0, 60, .inl (nIf tb))), (aNa, .inl (g.2.1 0, 2475, .inl (nIf fcN))), (aNr, .inl (g.2.1 0, 495, .inl (nIf rowB))), (aNb, .inl (g.2.1 0, 4096, .inl (nIf popN)))] (xpi ((trL (hB b n) (nmI wk L p) 3 nta).2.2) [(aN, .inr (9, [.ref aNs, .ref aNk, .int nkp, .ref aNf, .ref aNr, .ref aNp, .ref aNb, .ref aNa, .ref aNt, .int (nI nts), .ref aNbo, .ref aNsz, .ref aNnu, .int (nI ((trL (hB b n) (nmI wk L p) 3 nta).1)), .int 1, .int (bI (trL (hB b n) (nmI wk L p) 3 nta).2.1), .int ntp, .int (nI p), .int nnw, .int nsn, .int nwn, .ref aNl, .ref aNal, .ref aNlo, .int (nI nac), .ref aNw, .ref aNtr, .ref aNis, .ref aNbg, .ref aNow])), (aNs, .inl (g.2.1 0, 919, .inl (msF gr wk z lk sz br ru ki ma bb ce hd))), (aNt, .inl (g.2.1 0, 60, .inl (nIf tb))), (aNa, .inl (g.2.1 0, 2475, .inl (nIf fcN))), (aNr, .inl (g.2.1 0, 495, .inl (nIf rowB))), (aNb, .inl (g.2.1 0, 4096, .inl (nIf popN)))]) := by
  refine Ct.ofX (lv := [some (.ref aN), none]) (by decide) rfl (Nat.le_of_ble_eq_true rfl) (fun κ => ?_)
  generalize hQ : xQ κ g 0 0 _ = Q
  refine x_aload_n dX9_term_0 rfl ?_
  refine x_cVi (ws' := [(aN, .inr (9, [.ref aNs, .ref aNk, .int nkp, .ref aNf, .ref aNr, .ref aNp, .ref aNb, .ref aNa, .ref aNt, .int (nI nts), .ref aNbo, .ref aNsz, .ref aNnu, .int (nI ((frL (hB b n) (nmI wk L p) 3 nta).1)), .int 1, .int (bI (frL (hB b n) (nmI wk L p) 3 nta).2.1), .int ntp, .int (nI p), .int nnw, .int nsn, .int nwn, .ref aNl, .ref aNal, .ref aNlo, .int (nI nac), .ref aNw, .ref aNtr, .ref aNis, .ref aNbg, .ref aNow])), (aNs, .inl (g.2.1 0, 919, .inl (msF gr wk z lk sz br ru ki ma bb ce hd))), (aNt, .inl (g.2.1 0, 60, .inl (nIf tb))), (aNa, .inl (g.2.1 0, 2475, .inl (nIf fcN))), (aNr, .inl (g.2.1 0, 495, .inl (nIf rowB))), (aNb, .inl (g.2.1 0, 4096, .inl (nIf popN)))]) dX9_term_1 ml_X9_167 mX9_factor (ct_fr_3 κ.2.1 g aN aNs aNk aNf aNr aNp aNb aNa aNt aNbo aNsz aNnu aNl aNal aNlo aNw aNtr aNis aNbg aNow nts nta nac nkp ntp nnw nsn nwn gr wk lk sz br z ru ki ma bb hd ce tb b n L p (ht) (by omega) (hn) (hb) (hp) (hwk) (hlat)) [0, 1, 2, 3, 4, 5] rfl rfl 0 rfl rfl rfl (Nat.le_of_ble_eq_true rfl) (by decide) (Nat.le_refl _) (Nat.le_refl _) (rfl : [aN, aNs, aNt, aNa, aNr, aNb] = [aN, aNs, aNt, aNa, aNr, aNb]) rfl ?_
  have hk0 := frL_ok (nv := nmI wk L p) (okH_hB b n) 3 nta ha
  refine x_istore_n (lv' := [some (.ref aN), some (.int ((frL (hB b n) (nmI wk L p) 3 nta).2.2))]) dX9_term_4 (xlt rfl) rfl ?_
  have L5_1 : ∀ (i : Nat), i ≤ 60 → ∀ (qa : Nat), ∀ (qb : Bool), ∀ (qv : Int32), (qa, qb, qv) = itr (tmS (hB b n) (frL (hB b n) (nmI wk L p) 3)) i (frL (hB b n) (nmI wk L p) 3 nta) → qa ≤ n → i ≤ qa → Xs κ g 19 0 0 cX9_term yX9_term (some .int) Q 0 0 5 [some (.ref aN), some (.int qv)] [] [(aN, .inr (9, [.ref aNs, .ref aNk, .int nkp, .ref aNf, .ref aNr, .ref aNp, .ref aNb, .ref aNa, .ref aNt, .int (nI nts), .ref aNbo, .ref aNsz, .ref aNnu, .int (nI qa), .int 1, .int (bI qb), .int ntp, .int (nI p), .int nnw, .int nsn, .int nwn, .ref aNl, .ref aNal, .ref aNlo, .int (nI nac), .ref aNw, .ref aNtr, .ref aNis, .ref aNbg, .ref aNow])), (aNs, .inl (g.2.1 0, 919, .inl (msF gr wk z lk sz br ru ki ma bb ce hd))), (aNt, .inl (g.2.1 0, 60, .inl (nIf tb))), (aNa, .inl (g.2.1 0, 2475, .inl (nIf fcN))), (aNr, .inl (g.2.1 0, 495, .inl (nIf rowB))), (aNb, .inl (g.2.1 0, 4096, .inl (nIf popN)))] := by
    refine upTo 60 (fun i hi5 ih5 => ?_)
    intro qa
    intro qb
    intro qv
    intro hqq hqa hqi
    refine x_aload_n dX9_term_5 rfl ?_
    rcases tk_cases qb (hB b n) qa 42 with ⟨rfl, hq2⟩ | ⟨rfl, hq2⟩ | rfl
    · skip
      refine x_eq (lv' := [some (.ref aN), some (.int qv)]) (st' := [.ref aN]) (ws' := [(aN, .inr (9, [.ref aNs, .ref aNk, .int nkp, .ref aNf, .ref aNr, .ref aNp, .ref aNb, .ref aNa, .ref aNt, .int (nI nts), .ref aNbo, .ref aNsz, .ref aNnu, .int (nI qa), .int 1, .int 0, .int ntp, .int (nI p), .int nnw, .int nsn, .int nwn, .ref aNl, .ref aNal, .ref aNlo, .int (nI nac), .ref aNw, .ref aNtr, .ref aNis, .ref aNbg, .ref aNow])), (aNs, .inl (g.2.1 0, 919, .inl (msF gr wk z lk sz br ru ki ma bb ce hd))), (aNt, .inl (g.2.1 0, 60, .inl (nIf tb))), (aNa, .inl (g.2.1 0, 2475, .inl (nIf fcN))), (aNr, .inl (g.2.1 0, 495, .inl (nIf rowB))), (aNb, .inl (g.2.1 0, 4096, .inl (nIf popN)))]) ?_ rfl rfl rfl
      refine x_bipush 42 dX9_term_6 (by decide) ?_
      refine x_cVi (ws' := [(aN, .inr (9, [.ref aNs, .ref aNk, .int nkp, .ref aNf, .ref aNr, .ref aNp, .ref aNb, .ref aNa, .ref aNt, .int (nI nts), .ref aNbo, .ref aNsz, .ref aNnu, .int (nI (qa + 1)), .int 1, .int 0, .int ntp, .int (nI p), .int nnw, .int nsn, .int nwn, .ref aNl, .ref aNal, .ref aNlo, .int (nI nac), .ref aNw, .ref aNtr, .ref aNis, .ref aNbg, .ref aNow])), (aNs, .inl (g.2.1 0, 919, .inl (msF gr wk z lk sz br ru ki ma bb ce hd))), (aNt, .inl (g.2.1 0, 60, .inl (nIf tb))), (aNa, .inl (g.2.1 0, 2475, .inl (nIf fcN))), (aNr, .inl (g.2.1 0, 495, .inl (nIf rowB))), (aNb, .inl (g.2.1 0, 4096, .inl (nIf popN)))]) dX9_term_8 ml_X9_141 mX9_takes (ct_takes_y κ.2.1 g aN aNs aNk aNf aNr aNp aNb aNa aNt aNbo aNsz aNnu aNl aNal aNlo aNw aNtr aNis aNbg aNow nts qa 1 p nac nkp ntp nnw nsn nwn gr wk lk sz br z ru ki ma bb hd ce tb b n 42 (ht) (by omega) (hn) (hb) (by decide) (hq2)) [0, 1, 2] rfl rfl 0 rfl rfl rfl (Nat.le_of_ble_eq_true rfl) (by decide) (Nat.le_refl _) (Nat.le_refl _) (rfl : [aN, aNs, aNt] = [aN, aNs, aNt]) rfl ?_
      refine x_if_eq dX9_term_11 (fun c11 => ?_) (fun c11 => ?_)
      · exact absurd c11 (by decide)
      refine x_iload_n dX9_term_14 rfl ?_
      have hav := adv_le (okH_hB b n) hq2 (by decide)
      refine x_aload_n dX9_term_15 rfl ?_
      refine x_cVi (ws' := [(aN, .inr (9, [.ref aNs, .ref aNk, .int nkp, .ref aNf, .ref aNr, .ref aNp, .ref aNb, .ref aNa, .ref aNt, .int (nI nts), .ref aNbo, .ref aNsz, .ref aNnu, .int (nI ((frL (hB b n) (nmI wk L p) 3 (qa + 1)).1)), .int 1, .int (bI (frL (hB b n) (nmI wk L p) 3 (qa + 1)).2.1), .int ntp, .int (nI p), .int nnw, .int nsn, .int nwn, .ref aNl, .ref aNal, .ref aNlo, .int (nI nac), .ref aNw, .ref aNtr, .ref aNis, .ref aNbg, .ref aNow])), (aNs, .inl (g.2.1 0, 919, .inl (msF gr wk z lk sz br ru ki ma bb ce hd))), (aNt, .inl (g.2.1 0, 60, .inl (nIf tb))), (aNa, .inl (g.2.1 0, 2475, .inl (nIf fcN))), (aNr, .inl (g.2.1 0, 495, .inl (nIf rowB))), (aNb, .inl (g.2.1 0, 4096, .inl (nIf popN)))]) dX9_term_16 ml_X9_167 mX9_factor (ct_fr_3 κ.2.1 g aN aNs aNk aNf aNr aNp aNb aNa aNt aNbo aNsz aNnu aNl aNal aNlo aNw aNtr aNis aNbg aNow nts (qa + 1) nac nkp ntp nnw nsn nwn gr wk lk sz br z ru ki ma bb hd ce tb b n L p (ht) (by omega) (hn) (hb) (hp) (hwk) (hlat)) [0, 1, 2, 3, 4, 5] rfl rfl 0 rfl rfl rfl (Nat.le_of_ble_eq_true rfl) (by decide) (Nat.le_refl _) (Nat.le_refl _) (rfl : [aN, aNs, aNt, aNa, aNr, aNb] = [aN, aNs, aNt, aNa, aNr, aNb]) rfl ?_
      have hk := frL_ok (nv := nmI wk L p) (okH_hB b n) 3 (qa + 1) hav
      refine x_imul dX9_term_19 ?_
      refine x_istore_n (lv' := [some (.ref aN), some (.int (qv * ((frL (hB b n) (nmI wk L p) 3 (qa + 1)).2.2)))]) dX9_term_20 (xlt rfl) rfl ?_
      refine x_goto dX9_term_21 ?_
      exact ih5 (by omega) ((frL (hB b n) (nmI wk L p) 3 (qa + 1)).1) ((frL (hB b n) (nmI wk L p) 3 (qa + 1)).2.1) _ (by rw [itr, ← hqq]; simp only [tmS, hq2]; rfl) (hk.2) (by have := hk.1; omega)
    · skip
      refine x_eq (lv' := [some (.ref aN), some (.int qv)]) (st' := [.ref aN]) (ws' := [(aN, .inr (9, [.ref aNs, .ref aNk, .int nkp, .ref aNf, .ref aNr, .ref aNp, .ref aNb, .ref aNa, .ref aNt, .int (nI nts), .ref aNbo, .ref aNsz, .ref aNnu, .int (nI qa), .int 1, .int 0, .int ntp, .int (nI p), .int nnw, .int nsn, .int nwn, .ref aNl, .ref aNal, .ref aNlo, .int (nI nac), .ref aNw, .ref aNtr, .ref aNis, .ref aNbg, .ref aNow])), (aNs, .inl (g.2.1 0, 919, .inl (msF gr wk z lk sz br ru ki ma bb ce hd))), (aNt, .inl (g.2.1 0, 60, .inl (nIf tb))), (aNa, .inl (g.2.1 0, 2475, .inl (nIf fcN))), (aNr, .inl (g.2.1 0, 495, .inl (nIf rowB))), (aNb, .inl (g.2.1 0, 4096, .inl (nIf popN)))]) ?_ rfl rfl rfl
      refine x_bipush 42 dX9_term_6 (by decide) ?_
      refine x_cVi0 dX9_term_8 ml_X9_141 mX9_takes (ct_takes_n κ.2.1 g aN aNs aNk aNf aNr aNp aNb aNa aNt aNbo aNsz aNnu aNl aNal aNlo aNw aNtr aNis aNbg aNow nts qa 1 p nac nkp ntp nnw nsn nwn gr wk lk sz br z ru ki ma bb hd ce tb b n 42 (ht) (by omega) (hn) (hb) (by decide) (hq2)) [0, 1, 2] rfl rfl 0 rfl rfl rfl (Nat.le_of_ble_eq_true rfl) (by decide) (Nat.le_refl _) (Nat.le_refl _) ?_
      refine x_if_eq dX9_term_11 (fun c11 => ?_) (fun c11 => ?_)
      rotate_left
      · exact absurd c11 (by decide)
      refine x_iload_n dX9_term_24 rfl ?_
      rw [← hQ]
      refine x_iret dX9_term_25 rfl (Nat.le_of_ble_eq_true rfl) (Nat.le_of_ble_eq_true rfl) ?_
      first | (rw [show trL (hB b n) (nmI wk L p) 3 nta = (qa, true, qv) from itr_fix hqq rfl hi5]; exact ⟨rfl, rfl⟩) | (rw [show trL (hB b n) (nmI wk L p) 3 nta = (qa, false, qv) from itr_fix hqq (by simp [tmS, hq2]) hi5]; exact ⟨rfl, rfl⟩)
    · skip
      refine x_eq (lv' := [some (.ref aN), some (.int qv)]) (st' := [.ref aN]) (ws' := [(aN, .inr (9, [.ref aNs, .ref aNk, .int nkp, .ref aNf, .ref aNr, .ref aNp, .ref aNb, .ref aNa, .ref aNt, .int (nI nts), .ref aNbo, .ref aNsz, .ref aNnu, .int (nI qa), .int 1, .int 1, .int ntp, .int (nI p), .int nnw, .int nsn, .int nwn, .ref aNl, .ref aNal, .ref aNlo, .int (nI nac), .ref aNw, .ref aNtr, .ref aNis, .ref aNbg, .ref aNow])), (aNs, .inl (g.2.1 0, 919, .inl (msF gr wk z lk sz br ru ki ma bb ce hd))), (aNt, .inl (g.2.1 0, 60, .inl (nIf tb))), (aNa, .inl (g.2.1 0, 2475, .inl (nIf fcN))), (aNr, .inl (g.2.1 0, 495, .inl (nIf rowB))), (aNb, .inl (g.2.1 0, 4096, .inl (nIf popN)))]) ?_ rfl rfl rfl
      refine x_bipush 42 dX9_term_6 (by decide) ?_
      refine x_cVi0 dX9_term_8 ml_X9_141 mX9_takes (ct_takes_b κ.2.1 g aN aNs aNk aNf aNr aNp aNb aNa aNt aNbo aNsz aNnu aNl aNal aNlo aNw aNtr aNis aNbg aNow nts qa 1 p nac nkp ntp nnw nsn nwn gr wk lk sz br z ru ki ma bb hd ce tb 42) [0, 1, 2] rfl rfl 0 rfl rfl rfl (Nat.le_of_ble_eq_true rfl) (by decide) (Nat.le_refl _) (Nat.le_refl _) ?_
      refine x_if_eq dX9_term_11 (fun c11 => ?_) (fun c11 => ?_)
      rotate_left
      · exact absurd c11 (by decide)
      refine x_iload_n dX9_term_24 rfl ?_
      rw [← hQ]
      refine x_iret dX9_term_25 rfl (Nat.le_of_ble_eq_true rfl) (Nat.le_of_ble_eq_true rfl) ?_
      first | (rw [show trL (hB b n) (nmI wk L p) 3 nta = (qa, true, qv) from itr_fix hqq rfl hi5]; exact ⟨rfl, rfl⟩) | (rw [show trL (hB b n) (nmI wk L p) 3 nta = (qa, false, qv) from itr_fix hqq (by simp [tmS, hq2]) hi5]; exact ⟨rfl, rfl⟩)
  exact L5_1 0 (Nat.zero_le _) ((frL (hB b n) (nmI wk L p) 3 nta).1) ((frL (hB b n) (nmI wk L p) 3 nta).2.1) _ (rfl) (hk0.2) (Nat.zero_le _)

-- == sr_3 ==
set_option maxRecDepth 100000 in
set_option maxHeartbeats 4000000 in
theorem ct_sr_3 (l : Launch) (g : XG) (aN aNs aNk aNf aNr aNp aNb aNa aNt aNbo aNsz aNnu aNl aNal aNlo aNw aNtr aNis aNbg aNow nts nta nac : Nat) (nkp ntp nnw nsn nwn : Int32) (gr wk lk sz br : Nat) (z : Int32) (ru ki ma bb hd : Nat → Nat) (ce : Nat → Int32) (tb b : Nat → Nat) (n L p : Nat) (ht : (ntp = 1 ∧ n = nts ∧ b = tb) ∨ (ntp = 0 ∧ n = sz ∧ b = bb)) (ha : nta ≤ n) (hn : n ≤ 60) (hb : ∀ j, b j < 256) (hp : p < 495) (hwk : wk ≤ 40) (hlat : latI ce wk = nI L) : Ct l g 20 0 0 yX9_sum cX9_sum 5 (some .int) [.ref aN] [(aN, .inr (9, [.ref aNs, .ref aNk, .int nkp, .ref aNf, .ref aNr, .ref aNp, .ref aNb, .ref aNa, .ref aNt, .int (nI nts), .ref aNbo, .ref aNsz, .ref aNnu, .int (nI nta), .int 1, .int 0, .int ntp, .int (nI p), .int nnw, .int nsn, .int nwn, .ref aNl, .ref aNal, .ref aNlo, .int (nI nac), .ref aNw, .ref aNtr, .ref aNis, .ref aNbg, .ref aNow])), (aNs, .inl (g.2.1 0, 919, .inl (msF gr wk z lk sz br ru ki ma bb ce hd))), (aNt, .inl (g.2.1 0, 60, .inl (nIf tb))), (aNa, .inl (g.2.1 0, 2475, .inl (nIf fcN))), (aNr, .inl (g.2.1 0, 495, .inl (nIf rowB))), (aNb, .inl (g.2.1 0, 4096, .inl (nIf popN)))] (xpi ((srL (hB b n) (nmI wk L p) 3 nta).2.2) [(aN, .inr (9, [.ref aNs, .ref aNk, .int nkp, .ref aNf, .ref aNr, .ref aNp, .ref aNb, .ref aNa, .ref aNt, .int (nI nts), .ref aNbo, .ref aNsz, .ref aNnu, .int (nI ((srL (hB b n) (nmI wk L p) 3 nta).1)), .int 1, .int (bI (srL (hB b n) (nmI wk L p) 3 nta).2.1), .int ntp, .int (nI p), .int nnw, .int nsn, .int nwn, .ref aNl, .ref aNal, .ref aNlo, .int (nI nac), .ref aNw, .ref aNtr, .ref aNis, .ref aNbg, .ref aNow])), (aNs, .inl (g.2.1 0, 919, .inl (msF gr wk z lk sz br ru ki ma bb ce hd))), (aNt, .inl (g.2.1 0, 60, .inl (nIf tb))), (aNa, .inl (g.2.1 0, 2475, .inl (nIf fcN))), (aNr, .inl (g.2.1 0, 495, .inl (nIf rowB))), (aNb, .inl (g.2.1 0, 4096, .inl (nIf popN)))]) := by
  refine Ct.ofX (lv := [some (.ref aN), none, none, none, none]) (by decide) rfl (Nat.le_of_ble_eq_true rfl) (fun κ => ?_)
  generalize hQ : xQ κ g 0 0 _ = Q
  refine x_aload_n dX9_sum_0 rfl ?_
  refine x_cVi (ws' := [(aN, .inr (9, [.ref aNs, .ref aNk, .int nkp, .ref aNf, .ref aNr, .ref aNp, .ref aNb, .ref aNa, .ref aNt, .int (nI nts), .ref aNbo, .ref aNsz, .ref aNnu, .int (nI ((trL (hB b n) (nmI wk L p) 3 nta).1)), .int 1, .int (bI (trL (hB b n) (nmI wk L p) 3 nta).2.1), .int ntp, .int (nI p), .int nnw, .int nsn, .int nwn, .ref aNl, .ref aNal, .ref aNlo, .int (nI nac), .ref aNw, .ref aNtr, .ref aNis, .ref aNbg, .ref aNow])), (aNs, .inl (g.2.1 0, 919, .inl (msF gr wk z lk sz br ru ki ma bb ce hd))), (aNt, .inl (g.2.1 0, 60, .inl (nIf tb))), (aNa, .inl (g.2.1 0, 2475, .inl (nIf fcN))), (aNr, .inl (g.2.1 0, 495, .inl (nIf rowB))), (aNb, .inl (g.2.1 0, 4096, .inl (nIf popN)))]) dX9_sum_1 ml_X9_170 mX9_term (ct_tr_3 κ.2.1 g aN aNs aNk aNf aNr aNp aNb aNa aNt aNbo aNsz aNnu aNl aNal aNlo aNw aNtr aNis aNbg aNow nts nta nac nkp ntp nnw nsn nwn gr wk lk sz br z ru ki ma bb hd ce tb b n L p (ht) (by omega) (hn) (hb) (hp) (hwk) (hlat)) [0, 1, 2, 3, 4, 5] rfl rfl 0 rfl rfl rfl (Nat.le_of_ble_eq_true rfl) (by decide) (Nat.le_refl _) (Nat.le_refl _) (rfl : [aN, aNs, aNt, aNa, aNr, aNb] = [aN, aNs, aNt, aNa, aNr, aNb]) rfl ?_
  have hk0 := trL_ok (nv := nmI wk L p) (okH_hB b n) 3 nta ha
  refine x_istore_n (lv' := [some (.ref aN), some (.int ((trL (hB b n) (nmI wk L p) 3 nta).2.2)), none, none, none]) dX9_sum_4 (xlt rfl) rfl ?_
  refine x_iconst 1 dX9_sum_5 (by decide) ?_
  refine x_istore_n (lv' := [some (.ref aN), some (.int ((trL (hB b n) (nmI wk L p) 3 nta).2.2)), some (.int 1), none, none]) dX9_sum_6 (xlt rfl) rfl ?_
  have L7_1 : ∀ (i : Nat), i ≤ 60 → ∀ (qa : Nat), ∀ (qb : Bool), ∀ (qv : Int32), (qa, qb, qv) = itr (snS (hB b n) (trL (hB b n) (nmI wk L p) 3)) i (trL (hB b n) (nmI wk L p) 3 nta) → qa ≤ n → i ≤ qa → Xs κ g 20 0 0 cX9_sum yX9_sum (some .int) Q 0 0 7 [some (.ref aN), some (.int qv), some (.int 1), none, none] [] [(aN, .inr (9, [.ref aNs, .ref aNk, .int nkp, .ref aNf, .ref aNr, .ref aNp, .ref aNb, .ref aNa, .ref aNt, .int (nI nts), .ref aNbo, .ref aNsz, .ref aNnu, .int (nI qa), .int 1, .int (bI qb), .int ntp, .int (nI p), .int nnw, .int nsn, .int nwn, .ref aNl, .ref aNal, .ref aNlo, .int (nI nac), .ref aNw, .ref aNtr, .ref aNis, .ref aNbg, .ref aNow])), (aNs, .inl (g.2.1 0, 919, .inl (msF gr wk z lk sz br ru ki ma bb ce hd))), (aNt, .inl (g.2.1 0, 60, .inl (nIf tb))), (aNa, .inl (g.2.1 0, 2475, .inl (nIf fcN))), (aNr, .inl (g.2.1 0, 495, .inl (nIf rowB))), (aNb, .inl (g.2.1 0, 4096, .inl (nIf popN)))] := by
    refine upTo 60 (fun i hi7 ih7 => ?_)
    intro qa
    intro qb
    intro qv
    intro hqq hqa hqi
    refine x_iload_n dX9_sum_7 rfl ?_
    refine x_if_eq dX9_sum_8 (fun c8 => ?_) (fun c8 => ?_)
    · exact absurd c8 (by decide)
    rcases sm_cases qb (hB b n) qa with ⟨rfl, hq2⟩ | ⟨rfl, hq2, hq3⟩ | ⟨rfl, hq2, hq3⟩ | rfl
    · skip
      refine x_eq (lv' := [some (.ref aN), some (.int qv), some (.int 1), none, none]) (st' := []) (ws' := [(aN, .inr (9, [.ref aNs, .ref aNk, .int nkp, .ref aNf, .ref aNr, .ref aNp, .ref aNb, .ref aNa, .ref aNt, .int (nI nts), .ref aNbo, .ref aNsz, .ref aNnu, .int (nI qa), .int 1, .int 0, .int ntp, .int (nI p), .int nnw, .int nsn, .int nwn, .ref aNl, .ref aNal, .ref aNlo, .int (nI nac), .ref aNw, .ref aNtr, .ref aNis, .ref aNbg, .ref aNow])), (aNs, .inl (g.2.1 0, 919, .inl (msF gr wk z lk sz br ru ki ma bb ce hd))), (aNt, .inl (g.2.1 0, 60, .inl (nIf tb))), (aNa, .inl (g.2.1 0, 2475, .inl (nIf fcN))), (aNr, .inl (g.2.1 0, 495, .inl (nIf rowB))), (aNb, .inl (g.2.1 0, 4096, .inl (nIf popN)))]) ?_ rfl rfl rfl
      refine x_aload_n dX9_sum_11 rfl ?_
      refine x_bipush 43 dX9_sum_12 (by decide) ?_
      refine x_cVi (ws' := [(aN, .inr (9, [.ref aNs, .ref aNk, .int nkp, .ref aNf, .ref aNr, .ref aNp, .ref aNb, .ref aNa, .ref aNt, .int (nI nts), .ref aNbo, .ref aNsz, .ref aNnu, .int (nI (qa + 1)), .int 1, .int 0, .int ntp, .int (nI p), .int nnw, .int nsn, .int nwn, .ref aNl, .ref aNal, .ref aNlo, .int (nI nac), .ref aNw, .ref aNtr, .ref aNis, .ref aNbg, .ref aNow])), (aNs, .inl (g.2.1 0, 919, .inl (msF gr wk z lk sz br ru ki ma bb ce hd))), (aNt, .inl (g.2.1 0, 60, .inl (nIf tb))), (aNa, .inl (g.2.1 0, 2475, .inl (nIf fcN))), (aNr, .inl (g.2.1 0, 495, .inl (nIf rowB))), (aNb, .inl (g.2.1 0, 4096, .inl (nIf popN)))]) dX9_sum_14 ml_X9_141 mX9_takes (ct_takes_y κ.2.1 g aN aNs aNk aNf aNr aNp aNb aNa aNt aNbo aNsz aNnu aNl aNal aNlo aNw aNtr aNis aNbg aNow nts qa 1 p nac nkp ntp nnw nsn nwn gr wk lk sz br z ru ki ma bb hd ce tb b n 43 (ht) (by omega) (hn) (hb) (by decide) (hq2)) [0, 1, 2] rfl rfl 0 rfl rfl rfl (Nat.le_of_ble_eq_true rfl) (by decide) (Nat.le_refl _) (Nat.le_refl _) (rfl : [aN, aNs, aNt] = [aN, aNs, aNt]) rfl ?_
      refine x_istore_n (lv' := [some (.ref aN), some (.int qv), some (.int 1), some (.int 1), none]) dX9_sum_17 (xlt rfl) rfl ?_
      refine x_iload_n dX9_sum_18 rfl ?_
      refine x_if_ne dX9_sum_19 (fun c19 => ?_) (fun c19 => ?_)
      rotate_left
      · exact absurd c19 (by decide)
      refine x_iconst 1 dX9_sum_31 (by decide) ?_
      refine x_goto dX9_sum_32 ?_
      refine x_istore_n (lv' := [some (.ref aN), some (.int qv), some (.int 1), some (.int 1), none]) dX9_sum_36 (xlt rfl) rfl ?_
      refine x_iload_n dX9_sum_37 rfl ?_
      refine x_if_eq dX9_sum_38 (fun c38 => ?_) (fun c38 => ?_)
      · exact absurd c38 (by decide)
      have hav : qa + 1 ≤ n := by first | exact adv_le (okH_hB b n) hq2 (by decide) | exact adv_le (okH_hB b n) hq3 (by decide)
      refine x_aload_n dX9_sum_41 rfl ?_
      refine x_cVi (ws' := [(aN, .inr (9, [.ref aNs, .ref aNk, .int nkp, .ref aNf, .ref aNr, .ref aNp, .ref aNb, .ref aNa, .ref aNt, .int (nI nts), .ref aNbo, .ref aNsz, .ref aNnu, .int (nI ((trL (hB b n) (nmI wk L p) 3 (qa + 1)).1)), .int 1, .int (bI (trL (hB b n) (nmI wk L p) 3 (qa + 1)).2.1), .int ntp, .int (nI p), .int nnw, .int nsn, .int nwn, .ref aNl, .ref aNal, .ref aNlo, .int (nI nac), .ref aNw, .ref aNtr, .ref aNis, .ref aNbg, .ref aNow])), (aNs, .inl (g.2.1 0, 919, .inl (msF gr wk z lk sz br ru ki ma bb ce hd))), (aNt, .inl (g.2.1 0, 60, .inl (nIf tb))), (aNa, .inl (g.2.1 0, 2475, .inl (nIf fcN))), (aNr, .inl (g.2.1 0, 495, .inl (nIf rowB))), (aNb, .inl (g.2.1 0, 4096, .inl (nIf popN)))]) dX9_sum_42 ml_X9_170 mX9_term (ct_tr_3 κ.2.1 g aN aNs aNk aNf aNr aNp aNb aNa aNt aNbo aNsz aNnu aNl aNal aNlo aNw aNtr aNis aNbg aNow nts (qa + 1) nac nkp ntp nnw nsn nwn gr wk lk sz br z ru ki ma bb hd ce tb b n L p (ht) (by omega) (hn) (hb) (hp) (hwk) (hlat)) [0, 1, 2, 3, 4, 5] rfl rfl 0 rfl rfl rfl (Nat.le_of_ble_eq_true rfl) (by decide) (Nat.le_refl _) (Nat.le_refl _) (rfl : [aN, aNs, aNt, aNa, aNr, aNb] = [aN, aNs, aNt, aNa, aNr, aNb]) rfl ?_
      have hk := trL_ok (nv := nmI wk L p) (okH_hB b n) 3 (qa + 1) hav
      refine x_istore (lv' := [some (.ref aN), some (.int qv), some (.int 1), some (.int 1), some (.int ((trL (hB b n) (nmI wk L p) 3 (qa + 1)).2.2))]) dX9_sum_45 (xlt rfl) rfl ?_
      refine x_iload_n dX9_sum_47 rfl ?_
      refine x_if_eq dX9_sum_48 (fun c48 => ?_) (fun c48 => ?_)
      · exact absurd c48 (by decide)
      refine x_iload_n dX9_sum_51 rfl ?_
      refine x_iload dX9_sum_52 rfl ?_
      refine x_iadd dX9_sum_54 ?_
      refine x_goto dX9_sum_55 ?_
      refine x_istore_n (lv' := [some (.ref aN), some (.int (qv + ((trL (hB b n) (nmI wk L p) 3 (qa + 1)).2.2))), some (.int 1), some (.int 1), some (.int ((trL (hB b n) (nmI wk L p) 3 (qa + 1)).2.2))]) dX9_sum_62 (xlt rfl) rfl ?_
      refine x_goto dX9_sum_63 ?_
      refine x_fgt (lv' := [some (.ref aN), some (.int (qv + ((trL (hB b n) (nmI wk L p) 3 (qa + 1)).2.2))), some (.int 1), none, none]) ⟨Or.inr rfl, Or.inr rfl, Or.inr rfl, Or.inl rfl, Or.inl rfl, trivial⟩ ?_
      exact ih7 (by omega) ((trL (hB b n) (nmI wk L p) 3 (qa + 1)).1) ((trL (hB b n) (nmI wk L p) 3 (qa + 1)).2.1) _ (by rw [itr, ← hqq]; simp only [snS, hq2]; rfl) (hk.2) (by have := hk.1; omega)
    · skip
      refine x_eq (lv' := [some (.ref aN), some (.int qv), some (.int 1), none, none]) (st' := []) (ws' := [(aN, .inr (9, [.ref aNs, .ref aNk, .int nkp, .ref aNf, .ref aNr, .ref aNp, .ref aNb, .ref aNa, .ref aNt, .int (nI nts), .ref aNbo, .ref aNsz, .ref aNnu, .int (nI qa), .int 1, .int 0, .int ntp, .int (nI p), .int nnw, .int nsn, .int nwn, .ref aNl, .ref aNal, .ref aNlo, .int (nI nac), .ref aNw, .ref aNtr, .ref aNis, .ref aNbg, .ref aNow])), (aNs, .inl (g.2.1 0, 919, .inl (msF gr wk z lk sz br ru ki ma bb ce hd))), (aNt, .inl (g.2.1 0, 60, .inl (nIf tb))), (aNa, .inl (g.2.1 0, 2475, .inl (nIf fcN))), (aNr, .inl (g.2.1 0, 495, .inl (nIf rowB))), (aNb, .inl (g.2.1 0, 4096, .inl (nIf popN)))]) ?_ rfl rfl rfl
      refine x_aload_n dX9_sum_11 rfl ?_
      refine x_bipush 43 dX9_sum_12 (by decide) ?_
      refine x_cVi0 dX9_sum_14 ml_X9_141 mX9_takes (ct_takes_n κ.2.1 g aN aNs aNk aNf aNr aNp aNb aNa aNt aNbo aNsz aNnu aNl aNal aNlo aNw aNtr aNis aNbg aNow nts qa 1 p nac nkp ntp nnw nsn nwn gr wk lk sz br z ru ki ma bb hd ce tb b n 43 (ht) (by omega) (hn) (hb) (by decide) (hq2)) [0, 1, 2] rfl rfl 0 rfl rfl rfl (Nat.le_of_ble_eq_true rfl) (by decide) (Nat.le_refl _) (Nat.le_refl _) ?_
      refine x_istore_n (lv' := [some (.ref aN), some (.int qv), some (.int 1), some (.int 0), none]) dX9_sum_17 (xlt rfl) rfl ?_
      refine x_iload_n dX9_sum_18 rfl ?_
      refine x_if_ne dX9_sum_19 (fun c19 => ?_) (fun c19 => ?_)
      · exact absurd c19 (by decide)
      refine x_aload_n dX9_sum_22 rfl ?_
      refine x_bipush 45 dX9_sum_23 (by decide) ?_
      refine x_cVi (ws' := [(aN, .inr (9, [.ref aNs, .ref aNk, .int nkp, .ref aNf, .ref aNr, .ref aNp, .ref aNb, .ref aNa, .ref aNt, .int (nI nts), .ref aNbo, .ref aNsz, .ref aNnu, .int (nI (qa + 1)), .int 1, .int 0, .int ntp, .int (nI p), .int nnw, .int nsn, .int nwn, .ref aNl, .ref aNal, .ref aNlo, .int (nI nac), .ref aNw, .ref aNtr, .ref aNis, .ref aNbg, .ref aNow])), (aNs, .inl (g.2.1 0, 919, .inl (msF gr wk z lk sz br ru ki ma bb ce hd))), (aNt, .inl (g.2.1 0, 60, .inl (nIf tb))), (aNa, .inl (g.2.1 0, 2475, .inl (nIf fcN))), (aNr, .inl (g.2.1 0, 495, .inl (nIf rowB))), (aNb, .inl (g.2.1 0, 4096, .inl (nIf popN)))]) dX9_sum_25 ml_X9_141 mX9_takes (ct_takes_y κ.2.1 g aN aNs aNk aNf aNr aNp aNb aNa aNt aNbo aNsz aNnu aNl aNal aNlo aNw aNtr aNis aNbg aNow nts qa 1 p nac nkp ntp nnw nsn nwn gr wk lk sz br z ru ki ma bb hd ce tb b n 45 (ht) (by omega) (hn) (hb) (by decide) (hq3)) [0, 1, 2] rfl rfl 0 rfl rfl rfl (Nat.le_of_ble_eq_true rfl) (by decide) (Nat.le_refl _) (Nat.le_refl _) (rfl : [aN, aNs, aNt] = [aN, aNs, aNt]) rfl ?_
      refine x_if_eq dX9_sum_28 (fun c28 => ?_) (fun c28 => ?_)
      · exact absurd c28 (by decide)
      refine x_iconst 1 dX9_sum_31 (by decide) ?_
      refine x_goto dX9_sum_32 ?_
      refine x_istore_n (lv' := [some (.ref aN), some (.int qv), some (.int 1), some (.int 0), none]) dX9_sum_36 (xlt rfl) rfl ?_
      refine x_iload_n dX9_sum_37 rfl ?_
      refine x_if_eq dX9_sum_38 (fun c38 => ?_) (fun c38 => ?_)
      · exact absurd c38 (by decide)
      have hav : qa + 1 ≤ n := by first | exact adv_le (okH_hB b n) hq2 (by decide) | exact adv_le (okH_hB b n) hq3 (by decide)
      refine x_aload_n dX9_sum_41 rfl ?_
      refine x_cVi (ws' := [(aN, .inr (9, [.ref aNs, .ref aNk, .int nkp, .ref aNf, .ref aNr, .ref aNp, .ref aNb, .ref aNa, .ref aNt, .int (nI nts), .ref aNbo, .ref aNsz, .ref aNnu, .int (nI ((trL (hB b n) (nmI wk L p) 3 (qa + 1)).1)), .int 1, .int (bI (trL (hB b n) (nmI wk L p) 3 (qa + 1)).2.1), .int ntp, .int (nI p), .int nnw, .int nsn, .int nwn, .ref aNl, .ref aNal, .ref aNlo, .int (nI nac), .ref aNw, .ref aNtr, .ref aNis, .ref aNbg, .ref aNow])), (aNs, .inl (g.2.1 0, 919, .inl (msF gr wk z lk sz br ru ki ma bb ce hd))), (aNt, .inl (g.2.1 0, 60, .inl (nIf tb))), (aNa, .inl (g.2.1 0, 2475, .inl (nIf fcN))), (aNr, .inl (g.2.1 0, 495, .inl (nIf rowB))), (aNb, .inl (g.2.1 0, 4096, .inl (nIf popN)))]) dX9_sum_42 ml_X9_170 mX9_term (ct_tr_3 κ.2.1 g aN aNs aNk aNf aNr aNp aNb aNa aNt aNbo aNsz aNnu aNl aNal aNlo aNw aNtr aNis aNbg aNow nts (qa + 1) nac nkp ntp nnw nsn nwn gr wk lk sz br z ru ki ma bb hd ce tb b n L p (ht) (by omega) (hn) (hb) (hp) (hwk) (hlat)) [0, 1, 2, 3, 4, 5] rfl rfl 0 rfl rfl rfl (Nat.le_of_ble_eq_true rfl) (by decide) (Nat.le_refl _) (Nat.le_refl _) (rfl : [aN, aNs, aNt, aNa, aNr, aNb] = [aN, aNs, aNt, aNa, aNr, aNb]) rfl ?_
      have hk := trL_ok (nv := nmI wk L p) (okH_hB b n) 3 (qa + 1) hav
      refine x_istore (lv' := [some (.ref aN), some (.int qv), some (.int 1), some (.int 0), some (.int ((trL (hB b n) (nmI wk L p) 3 (qa + 1)).2.2))]) dX9_sum_45 (xlt rfl) rfl ?_
      refine x_iload_n dX9_sum_47 rfl ?_
      refine x_if_eq dX9_sum_48 (fun c48 => ?_) (fun c48 => ?_)
      rotate_left
      · exact absurd c48 (by decide)
      refine x_iload_n dX9_sum_58 rfl ?_
      refine x_iload dX9_sum_59 rfl ?_
      refine x_isub dX9_sum_61 ?_
      refine x_istore_n (lv' := [some (.ref aN), some (.int (qv - ((trL (hB b n) (nmI wk L p) 3 (qa + 1)).2.2))), some (.int 1), some (.int 0), some (.int ((trL (hB b n) (nmI wk L p) 3 (qa + 1)).2.2))]) dX9_sum_62 (xlt rfl) rfl ?_
      refine x_goto dX9_sum_63 ?_
      refine x_fgt (lv' := [some (.ref aN), some (.int (qv - ((trL (hB b n) (nmI wk L p) 3 (qa + 1)).2.2))), some (.int 1), none, none]) ⟨Or.inr rfl, Or.inr rfl, Or.inr rfl, Or.inl rfl, Or.inl rfl, trivial⟩ ?_
      exact ih7 (by omega) ((trL (hB b n) (nmI wk L p) 3 (qa + 1)).1) ((trL (hB b n) (nmI wk L p) 3 (qa + 1)).2.1) _ (by rw [itr, ← hqq]; simp only [snS, hq2, hq3]; rfl) (hk.2) (by have := hk.1; omega)
    · skip
      refine x_eq (lv' := [some (.ref aN), some (.int qv), some (.int 1), none, none]) (st' := []) (ws' := [(aN, .inr (9, [.ref aNs, .ref aNk, .int nkp, .ref aNf, .ref aNr, .ref aNp, .ref aNb, .ref aNa, .ref aNt, .int (nI nts), .ref aNbo, .ref aNsz, .ref aNnu, .int (nI qa), .int 1, .int 0, .int ntp, .int (nI p), .int nnw, .int nsn, .int nwn, .ref aNl, .ref aNal, .ref aNlo, .int (nI nac), .ref aNw, .ref aNtr, .ref aNis, .ref aNbg, .ref aNow])), (aNs, .inl (g.2.1 0, 919, .inl (msF gr wk z lk sz br ru ki ma bb ce hd))), (aNt, .inl (g.2.1 0, 60, .inl (nIf tb))), (aNa, .inl (g.2.1 0, 2475, .inl (nIf fcN))), (aNr, .inl (g.2.1 0, 495, .inl (nIf rowB))), (aNb, .inl (g.2.1 0, 4096, .inl (nIf popN)))]) ?_ rfl rfl rfl
      refine x_aload_n dX9_sum_11 rfl ?_
      refine x_bipush 43 dX9_sum_12 (by decide) ?_
      refine x_cVi0 dX9_sum_14 ml_X9_141 mX9_takes (ct_takes_n κ.2.1 g aN aNs aNk aNf aNr aNp aNb aNa aNt aNbo aNsz aNnu aNl aNal aNlo aNw aNtr aNis aNbg aNow nts qa 1 p nac nkp ntp nnw nsn nwn gr wk lk sz br z ru ki ma bb hd ce tb b n 43 (ht) (by omega) (hn) (hb) (by decide) (hq2)) [0, 1, 2] rfl rfl 0 rfl rfl rfl (Nat.le_of_ble_eq_true rfl) (by decide) (Nat.le_refl _) (Nat.le_refl _) ?_
      refine x_istore_n (lv' := [some (.ref aN), some (.int qv), some (.int 1), some (.int 0), none]) dX9_sum_17 (xlt rfl) rfl ?_
      refine x_iload_n dX9_sum_18 rfl ?_
      refine x_if_ne dX9_sum_19 (fun c19 => ?_) (fun c19 => ?_)
      · exact absurd c19 (by decide)
      refine x_aload_n dX9_sum_22 rfl ?_
      refine x_bipush 45 dX9_sum_23 (by decide) ?_
      refine x_cVi0 dX9_sum_25 ml_X9_141 mX9_takes (ct_takes_n κ.2.1 g aN aNs aNk aNf aNr aNp aNb aNa aNt aNbo aNsz aNnu aNl aNal aNlo aNw aNtr aNis aNbg aNow nts qa 1 p nac nkp ntp nnw nsn nwn gr wk lk sz br z ru ki ma bb hd ce tb b n 45 (ht) (by omega) (hn) (hb) (by decide) (hq3)) [0, 1, 2] rfl rfl 0 rfl rfl rfl (Nat.le_of_ble_eq_true rfl) (by decide) (Nat.le_refl _) (Nat.le_refl _) ?_
      refine x_if_eq dX9_sum_28 (fun c28 => ?_) (fun c28 => ?_)
      rotate_left
      · exact absurd c28 (by decide)
      refine x_iconst 0 dX9_sum_35 (by decide) ?_
      refine x_istore_n (lv' := [some (.ref aN), some (.int qv), some (.int 0), some (.int 0), none]) dX9_sum_36 (xlt rfl) rfl ?_
      refine x_iload_n dX9_sum_37 rfl ?_
      refine x_if_eq dX9_sum_38 (fun c38 => ?_) (fun c38 => ?_)
      rotate_left
      · exact absurd c38 (by decide)
      refine x_goto dX9_sum_63 ?_
      refine x_iload_n dX9_sum_7 rfl ?_
      refine x_if_eq dX9_sum_8 (fun c8 => ?_) (fun c8 => ?_)
      rotate_left
      · exact absurd c8 (by decide)
      refine x_iload_n dX9_sum_66 rfl ?_
      rw [← hQ]
      refine x_iret dX9_sum_67 rfl (Nat.le_of_ble_eq_true rfl) (Nat.le_of_ble_eq_true rfl) ?_
      first | (rw [show srL (hB b n) (nmI wk L p) 3 nta = (qa, true, qv) from Eq.trans (congrFun (srL_eq (hB b n) (nmI wk L p) 3) nta) (itr_fix hqq rfl hi7)]; exact ⟨rfl, rfl⟩) | (rw [show srL (hB b n) (nmI wk L p) 3 nta = (qa, false, qv) from Eq.trans (congrFun (srL_eq (hB b n) (nmI wk L p) 3) nta) (itr_fix hqq (by simp [snS, hq2, hq3]) hi7)]; exact ⟨rfl, rfl⟩)
    · skip
      refine x_eq (lv' := [some (.ref aN), some (.int qv), some (.int 1), none, none]) (st' := []) (ws' := [(aN, .inr (9, [.ref aNs, .ref aNk, .int nkp, .ref aNf, .ref aNr, .ref aNp, .ref aNb, .ref aNa, .ref aNt, .int (nI nts), .ref aNbo, .ref aNsz, .ref aNnu, .int (nI qa), .int 1, .int 1, .int ntp, .int (nI p), .int nnw, .int nsn, .int nwn, .ref aNl, .ref aNal, .ref aNlo, .int (nI nac), .ref aNw, .ref aNtr, .ref aNis, .ref aNbg, .ref aNow])), (aNs, .inl (g.2.1 0, 919, .inl (msF gr wk z lk sz br ru ki ma bb ce hd))), (aNt, .inl (g.2.1 0, 60, .inl (nIf tb))), (aNa, .inl (g.2.1 0, 2475, .inl (nIf fcN))), (aNr, .inl (g.2.1 0, 495, .inl (nIf rowB))), (aNb, .inl (g.2.1 0, 4096, .inl (nIf popN)))]) ?_ rfl rfl rfl
      refine x_aload_n dX9_sum_11 rfl ?_
      refine x_bipush 43 dX9_sum_12 (by decide) ?_
      refine x_cVi0 dX9_sum_14 ml_X9_141 mX9_takes (ct_takes_b κ.2.1 g aN aNs aNk aNf aNr aNp aNb aNa aNt aNbo aNsz aNnu aNl aNal aNlo aNw aNtr aNis aNbg aNow nts qa 1 p nac nkp ntp nnw nsn nwn gr wk lk sz br z ru ki ma bb hd ce tb 43) [0, 1, 2] rfl rfl 0 rfl rfl rfl (Nat.le_of_ble_eq_true rfl) (by decide) (Nat.le_refl _) (Nat.le_refl _) ?_
      refine x_istore_n (lv' := [some (.ref aN), some (.int qv), some (.int 1), some (.int 0), none]) dX9_sum_17 (xlt rfl) rfl ?_
      refine x_iload_n dX9_sum_18 rfl ?_
      refine x_if_ne dX9_sum_19 (fun c19 => ?_) (fun c19 => ?_)
      · exact absurd c19 (by decide)
      refine x_aload_n dX9_sum_22 rfl ?_
      refine x_bipush 45 dX9_sum_23 (by decide) ?_
      refine x_cVi0 dX9_sum_25 ml_X9_141 mX9_takes (ct_takes_b κ.2.1 g aN aNs aNk aNf aNr aNp aNb aNa aNt aNbo aNsz aNnu aNl aNal aNlo aNw aNtr aNis aNbg aNow nts qa 1 p nac nkp ntp nnw nsn nwn gr wk lk sz br z ru ki ma bb hd ce tb 45) [0, 1, 2] rfl rfl 0 rfl rfl rfl (Nat.le_of_ble_eq_true rfl) (by decide) (Nat.le_refl _) (Nat.le_refl _) ?_
      refine x_if_eq dX9_sum_28 (fun c28 => ?_) (fun c28 => ?_)
      rotate_left
      · exact absurd c28 (by decide)
      refine x_iconst 0 dX9_sum_35 (by decide) ?_
      refine x_istore_n (lv' := [some (.ref aN), some (.int qv), some (.int 0), some (.int 0), none]) dX9_sum_36 (xlt rfl) rfl ?_
      refine x_iload_n dX9_sum_37 rfl ?_
      refine x_if_eq dX9_sum_38 (fun c38 => ?_) (fun c38 => ?_)
      rotate_left
      · exact absurd c38 (by decide)
      refine x_goto dX9_sum_63 ?_
      refine x_iload_n dX9_sum_7 rfl ?_
      refine x_if_eq dX9_sum_8 (fun c8 => ?_) (fun c8 => ?_)
      rotate_left
      · exact absurd c8 (by decide)
      refine x_iload_n dX9_sum_66 rfl ?_
      rw [← hQ]
      refine x_iret dX9_sum_67 rfl (Nat.le_of_ble_eq_true rfl) (Nat.le_of_ble_eq_true rfl) ?_
      first | (rw [show srL (hB b n) (nmI wk L p) 3 nta = (qa, true, qv) from Eq.trans (congrFun (srL_eq (hB b n) (nmI wk L p) 3) nta) (itr_fix hqq rfl hi7)]; exact ⟨rfl, rfl⟩) | (rw [show srL (hB b n) (nmI wk L p) 3 nta = (qa, false, qv) from Eq.trans (congrFun (srL_eq (hB b n) (nmI wk L p) 3) nta) (itr_fix hqq (by simp [snS, hq2, hq3]) hi7)]; exact ⟨rfl, rfl⟩)
  exact L7_1 0 (Nat.zero_le _) ((trL (hB b n) (nmI wk L p) 3 nta).1) ((trL (hB b n) (nmI wk L p) 3 nta).2.1) _ (rfl) (hk0.2) (Nat.zero_le _)

-- == ch_4 ==
set_option maxRecDepth 100000 in
set_option maxHeartbeats 4000000 in
theorem ct_ch_4 (l : Launch) (g : XG) (aN aNs aNk aNf aNr aNp aNb aNa aNt aNbo aNsz aNnu aNl aNal aNlo aNw aNtr aNis aNbg aNow nts nta nac : Nat) (nkp ntp nnw nsn nwn : Int32) (gr wk lk sz br : Nat) (z : Int32) (ru ki ma bb hd : Nat → Nat) (ce : Nat → Int32) (tb b : Nat → Nat) (n L p : Nat) (ht : (ntp = 1 ∧ n = nts ∧ b = tb) ∨ (ntp = 0 ∧ n = sz ∧ b = bb)) (ha : nta ≤ n) (hn : n ≤ 60) (hb : ∀ j, b j < 256) (hp : p < 495) (hwk : wk ≤ 40) (hlat : latI ce wk = nI L) (hq : hB b n nta = 40) : Ct l g 21 0 0 yX9_choice cX9_choice 4 (some .int) [.ref aN] [(aN, .inr (9, [.ref aNs, .ref aNk, .int nkp, .ref aNf, .ref aNr, .ref aNp, .ref aNb, .ref aNa, .ref aNt, .int (nI nts), .ref aNbo, .ref aNsz, .ref aNnu, .int (nI nta), .int 0, .int 0, .int ntp, .int (nI p), .int nnw, .int nsn, .int nwn, .ref aNl, .ref aNal, .ref aNlo, .int (nI nac), .ref aNw, .ref aNtr, .ref aNis, .ref aNbg, .ref aNow])), (aNs, .inl (g.2.1 0, 919, .inl (msF gr wk z lk sz br ru ki ma bb ce hd))), (aNt, .inl (g.2.1 0, 60, .inl (nIf tb))), (aNa, .inl (g.2.1 0, 2475, .inl (nIf fcN))), (aNr, .inl (g.2.1 0, 495, .inl (nIf rowB))), (aNb, .inl (g.2.1 0, 4096, .inl (nIf popN)))] (xpi ((hrL (hB b n) (nmI wk L p) 4 nta).2.2) [(aN, .inr (9, [.ref aNs, .ref aNk, .int nkp, .ref aNf, .ref aNr, .ref aNp, .ref aNb, .ref aNa, .ref aNt, .int (nI nts), .ref aNbo, .ref aNsz, .ref aNnu, .int (nI ((hrL (hB b n) (nmI wk L p) 4 nta).1)), .int 0, .int (bI (hrL (hB b n) (nmI wk L p) 4 nta).2.1), .int ntp, .int (nI p), .int nnw, .int nsn, .int nwn, .ref aNl, .ref aNal, .ref aNlo, .int (nI nac), .ref aNw, .ref aNtr, .ref aNis, .ref aNbg, .ref aNow])), (aNs, .inl (g.2.1 0, 919, .inl (msF gr wk z lk sz br ru ki ma bb ce hd))), (aNt, .inl (g.2.1 0, 60, .inl (nIf tb))), (aNa, .inl (g.2.1 0, 2475, .inl (nIf fcN))), (aNr, .inl (g.2.1 0, 495, .inl (nIf rowB))), (aNb, .inl (g.2.1 0, 4096, .inl (nIf popN)))]) := by
  refine Ct.ofX (lv := [some (.ref aN), none, none, none]) (by decide) rfl (Nat.le_of_ble_eq_true rfl) (fun κ => ?_)
  generalize hQ : xQ κ g 0 0 _ = Q
  refine x_aload_n dX9_choice_0 rfl ?_
  refine x_get dX9_choice_1 0 14 inX9 fl_X9_148 rfl rfl (by decide) rfl ?_
  refine x_iconst 4 dX9_choice_4 (by decide) ?_
  refine x_icmp_ne dX9_choice_5 (fun c5 => ?_) (fun c5 => ?_)
  rotate_left
  · exact absurd c5 (by decide)
  refine x_aload_n dX9_choice_15 rfl ?_
  refine x_dup dX9_choice_16 rfl ?_
  have hav := adv_le (okH_hB b n) hq (by decide)
  refine x_get dX9_choice_17 0 14 inX9 fl_X9_148 rfl rfl (by decide) rfl ?_
  refine x_iconst 1 dX9_choice_20 (by decide) ?_
  refine x_iadd dX9_choice_21 ?_
  refine x_rei 1 (by decide) ?_
  refine x_put (ws' := [(aN, .inr (9, [.ref aNs, .ref aNk, .int nkp, .ref aNf, .ref aNr, .ref aNp, .ref aNb, .ref aNa, .ref aNt, .int (nI nts), .ref aNbo, .ref aNsz, .ref aNnu, .int (nI nta), .int 1, .int 0, .int ntp, .int (nI p), .int nnw, .int nsn, .int nwn, .ref aNl, .ref aNal, .ref aNlo, .int (nI nac), .ref aNw, .ref aNtr, .ref aNis, .ref aNbg, .ref aNow])), (aNs, .inl (g.2.1 0, 919, .inl (msF gr wk z lk sz br ru ki ma bb ce hd))), (aNt, .inl (g.2.1 0, 60, .inl (nIf tb))), (aNa, .inl (g.2.1 0, 2475, .inl (nIf fcN))), (aNr, .inl (g.2.1 0, 495, .inl (nIf rowB))), (aNb, .inl (g.2.1 0, 4096, .inl (nIf popN)))]) dX9_choice_22 0 14 inX9 tyX9_ok nmX9 fl_X9_148 rfl rfl (by decide) rfl (rfl) rfl (xlt rfl) rfl ?_
  refine x_aload_n dX9_choice_25 rfl ?_
  refine x_dup dX9_choice_26 rfl ?_
  refine x_get dX9_choice_27 0 13 inX9 fl_X9_119 rfl rfl (by decide) rfl ?_
  refine x_iconst 1 dX9_choice_30 (by decide) ?_
  refine x_iadd dX9_choice_31 ?_
  refine x_rei (nI (nta + 1)) (nI_addc nta 1 rfl) ?_
  refine x_put (ws' := [(aN, .inr (9, [.ref aNs, .ref aNk, .int nkp, .ref aNf, .ref aNr, .ref aNp, .ref aNb, .ref aNa, .ref aNt, .int (nI nts), .ref aNbo, .ref aNsz, .ref aNnu, .int (nI (nta + 1)), .int 1, .int 0, .int ntp, .int (nI p), .int nnw, .int nsn, .int nwn, .ref aNl, .ref aNal, .ref aNlo, .int (nI nac), .ref aNw, .ref aNtr, .ref aNis, .ref aNbg, .ref aNow])), (aNs, .inl (g.2.1 0, 919, .inl (msF gr wk z lk sz br ru ki ma bb ce hd))), (aNt, .inl (g.2.1 0, 60, .inl (nIf tb))), (aNa, .inl (g.2.1 0, 2475, .inl (nIf fcN))), (aNr, .inl (g.2.1 0, 495, .inl (nIf rowB))), (aNb, .inl (g.2.1 0, 4096, .inl (nIf popN)))]) dX9_choice_32 0 13 inX9 tyX9_ok nmX9 fl_X9_119 rfl rfl (by decide) rfl (rfl) rfl (xlt rfl) rfl ?_
  refine x_aload_n dX9_choice_35 rfl ?_
  refine x_cVi (ws' := [(aN, .inr (9, [.ref aNs, .ref aNk, .int nkp, .ref aNf, .ref aNr, .ref aNp, .ref aNb, .ref aNa, .ref aNt, .int (nI nts), .ref aNbo, .ref aNsz, .ref aNnu, .int (nI ((srL (hB b n) (nmI wk L p) 3 (nta + 1)).1)), .int 1, .int (bI (srL (hB b n) (nmI wk L p) 3 (nta + 1)).2.1), .int ntp, .int (nI p), .int nnw, .int nsn, .int nwn, .ref aNl, .ref aNal, .ref aNlo, .int (nI nac), .ref aNw, .ref aNtr, .ref aNis, .ref aNbg, .ref aNow])), (aNs, .inl (g.2.1 0, 919, .inl (msF gr wk z lk sz br ru ki ma bb ce hd))), (aNt, .inl (g.2.1 0, 60, .inl (nIf tb))), (aNa, .inl (g.2.1 0, 2475, .inl (nIf fcN))), (aNr, .inl (g.2.1 0, 495, .inl (nIf rowB))), (aNb, .inl (g.2.1 0, 4096, .inl (nIf popN)))]) dX9_choice_36 ml_X9_151 mX9_sum (ct_sr_3 κ.2.1 g aN aNs aNk aNf aNr aNp aNb aNa aNt aNbo aNsz aNnu aNl aNal aNlo aNw aNtr aNis aNbg aNow nts (nta + 1) nac nkp ntp nnw nsn nwn gr wk lk sz br z ru ki ma bb hd ce tb b n L p (ht) (by omega) (hn) (hb) (hp) (hwk) (hlat)) [0, 1, 2, 3, 4, 5] rfl rfl 0 rfl rfl rfl (Nat.le_of_ble_eq_true rfl) (by decide) (Nat.le_refl _) (Nat.le_refl _) (rfl : [aN, aNs, aNt, aNa, aNr, aNb] = [aN, aNs, aNt, aNa, aNr, aNb]) rfl ?_
  have hk1 := srL_ok (nv := nmI wk L p) (okH_hB b n) 3 (nta + 1) hav
  generalize hR1 : srL (hB b n) (nmI wk L p) 3 (nta + 1) = R1 at hk1 ⊢
  obtain ⟨a1, b1, w1⟩ := R1
  dsimp only at hk1
  rcases tk_cases b1 (hB b n) a1 63 with ⟨rfl, hq2⟩ | ⟨rfl, hq2⟩ | rfl
  · skip
    refine x_eq (lv' := [some (.ref aN), none, none, none]) (st' := [.int w1]) (ws' := [(aN, .inr (9, [.ref aNs, .ref aNk, .int nkp, .ref aNf, .ref aNr, .ref aNp, .ref aNb, .ref aNa, .ref aNt, .int (nI nts), .ref aNbo, .ref aNsz, .ref aNnu, .int (nI a1), .int 1, .int 0, .int ntp, .int (nI p), .int nnw, .int nsn, .int nwn, .ref aNl, .ref aNal, .ref aNlo, .int (nI nac), .ref aNw, .ref aNtr, .ref aNis, .ref aNbg, .ref aNow])), (aNs, .inl (g.2.1 0, 919, .inl (msF gr wk z lk sz br ru ki ma bb ce hd))), (aNt, .inl (g.2.1 0, 60, .inl (nIf tb))), (aNa, .inl (g.2.1 0, 2475, .inl (nIf fcN))), (aNr, .inl (g.2.1 0, 495, .inl (nIf rowB))), (aNb, .inl (g.2.1 0, 4096, .inl (nIf popN)))]) ?_ rfl rfl rfl
    refine x_istore_n (lv' := [some (.ref aN), some (.int w1), none, none]) dX9_choice_39 (xlt rfl) rfl ?_
    refine x_aload_n dX9_choice_40 rfl ?_
    refine x_bipush 63 dX9_choice_41 (by decide) ?_
    refine x_cVi (ws' := [(aN, .inr (9, [.ref aNs, .ref aNk, .int nkp, .ref aNf, .ref aNr, .ref aNp, .ref aNb, .ref aNa, .ref aNt, .int (nI nts), .ref aNbo, .ref aNsz, .ref aNnu, .int (nI (a1 + 1)), .int 1, .int 0, .int ntp, .int (nI p), .int nnw, .int nsn, .int nwn, .ref aNl, .ref aNal, .ref aNlo, .int (nI nac), .ref aNw, .ref aNtr, .ref aNis, .ref aNbg, .ref aNow])), (aNs, .inl (g.2.1 0, 919, .inl (msF gr wk z lk sz br ru ki ma bb ce hd))), (aNt, .inl (g.2.1 0, 60, .inl (nIf tb))), (aNa, .inl (g.2.1 0, 2475, .inl (nIf fcN))), (aNr, .inl (g.2.1 0, 495, .inl (nIf rowB))), (aNb, .inl (g.2.1 0, 4096, .inl (nIf popN)))]) dX9_choice_43 ml_X9_141 mX9_takes (ct_takes_y κ.2.1 g aN aNs aNk aNf aNr aNp aNb aNa aNt aNbo aNsz aNnu aNl aNal aNlo aNw aNtr aNis aNbg aNow nts a1 1 p nac nkp ntp nnw nsn nwn gr wk lk sz br z ru ki ma bb hd ce tb b n 63 (ht) (by omega) (hn) (hb) (by decide) (hq2)) [0, 1, 2] rfl rfl 0 rfl rfl rfl (Nat.le_of_ble_eq_true rfl) (by decide) (Nat.le_refl _) (Nat.le_refl _) (rfl : [aN, aNs, aNt] = [aN, aNs, aNt]) rfl ?_
    refine x_if_eq dX9_choice_46 (fun c46 => ?_) (fun c46 => ?_)
    · exact absurd c46 (by decide)
    have hav2 := adv_le (okH_hB b n) hq2 (by decide)
    refine x_aload_n dX9_choice_49 rfl ?_
    refine x_cVi (ws' := [(aN, .inr (9, [.ref aNs, .ref aNk, .int nkp, .ref aNf, .ref aNr, .ref aNp, .ref aNb, .ref aNa, .ref aNt, .int (nI nts), .ref aNbo, .ref aNsz, .ref aNnu, .int (nI ((srL (hB b n) (nmI wk L p) 3 (a1 + 1)).1)), .int 1, .int (bI (srL (hB b n) (nmI wk L p) 3 (a1 + 1)).2.1), .int ntp, .int (nI p), .int nnw, .int nsn, .int nwn, .ref aNl, .ref aNal, .ref aNlo, .int (nI nac), .ref aNw, .ref aNtr, .ref aNis, .ref aNbg, .ref aNow])), (aNs, .inl (g.2.1 0, 919, .inl (msF gr wk z lk sz br ru ki ma bb ce hd))), (aNt, .inl (g.2.1 0, 60, .inl (nIf tb))), (aNa, .inl (g.2.1 0, 2475, .inl (nIf fcN))), (aNr, .inl (g.2.1 0, 495, .inl (nIf rowB))), (aNb, .inl (g.2.1 0, 4096, .inl (nIf popN)))]) dX9_choice_50 ml_X9_151 mX9_sum (ct_sr_3 κ.2.1 g aN aNs aNk aNf aNr aNp aNb aNa aNt aNbo aNsz aNnu aNl aNal aNlo aNw aNtr aNis aNbg aNow nts (a1 + 1) nac nkp ntp nnw nsn nwn gr wk lk sz br z ru ki ma bb hd ce tb b n L p (ht) (by omega) (hn) (hb) (hp) (hwk) (hlat)) [0, 1, 2, 3, 4, 5] rfl rfl 0 rfl rfl rfl (Nat.le_of_ble_eq_true rfl) (by decide) (Nat.le_refl _) (Nat.le_refl _) (rfl : [aN, aNs, aNt, aNa, aNr, aNb] = [aN, aNs, aNt, aNa, aNr, aNb]) rfl ?_
    have hk2 := srL_ok (nv := nmI wk L p) (okH_hB b n) 3 (a1 + 1) hav2
    refine x_istore_n (lv' := [some (.ref aN), some (.int w1), some (.int ((srL (hB b n) (nmI wk L p) 3 (a1 + 1)).2.2)), none]) dX9_choice_53 (xlt rfl) rfl ?_
    refine x_aload_n dX9_choice_54 rfl ?_
    refine x_bipush 58 dX9_choice_55 (by decide) ?_
    refine x_cVv (ws' := [(aN, .inr (9, [.ref aNs, .ref aNk, .int nkp, .ref aNf, .ref aNr, .ref aNp, .ref aNb, .ref aNa, .ref aNt, .int (nI nts), .ref aNbo, .ref aNsz, .ref aNnu, .int (nI ((pasA (hB b n) 58 ((srL (hB b n) (nmI wk L p) 3 (a1 + 1)).2.1) ((srL (hB b n) (nmI wk L p) 3 (a1 + 1)).1)).1)), .int 1, .int (bI (pasA (hB b n) 58 ((srL (hB b n) (nmI wk L p) 3 (a1 + 1)).2.1) ((srL (hB b n) (nmI wk L p) 3 (a1 + 1)).1)).2), .int ntp, .int (nI p), .int nnw, .int nsn, .int nwn, .ref aNl, .ref aNal, .ref aNlo, .int (nI nac), .ref aNw, .ref aNtr, .ref aNis, .ref aNbg, .ref aNow])), (aNs, .inl (g.2.1 0, 919, .inl (msF gr wk z lk sz br ru ki ma bb ce hd))), (aNt, .inl (g.2.1 0, 60, .inl (nIf tb))), (aNa, .inl (g.2.1 0, 2475, .inl (nIf fcN))), (aNr, .inl (g.2.1 0, 495, .inl (nIf rowB))), (aNb, .inl (g.2.1 0, 4096, .inl (nIf popN)))]) dX9_choice_57 ml_X9_154 mX9_must (ct_X9_must κ.2.1 g aN aNs aNk aNf aNr aNp aNb aNa aNt aNbo aNsz aNnu aNl aNal aNlo aNw aNtr aNis aNbg aNow nts ((srL (hB b n) (nmI wk L p) 3 (a1 + 1)).1) 1 p nac nkp ntp nnw nsn nwn gr wk lk sz br z ru ki ma bb hd ce tb b n 58 ((srL (hB b n) (nmI wk L p) 3 (a1 + 1)).2.1) (ht) (by omega) (hn) (hb) (by decide)) [0, 1, 2] rfl rfl 0 rfl rfl rfl (Nat.le_of_ble_eq_true rfl) (by decide) (Nat.le_refl _) (Nat.le_refl _) (rfl : [aN, aNs, aNt] = [aN, aNs, aNt]) rfl ?_
    have hk3 := pasA_le (okH_hB b n) (c := 58) (by decide) (bd := (srL (hB b n) (nmI wk L p) 3 (a1 + 1)).2.1) hk2.2
    generalize hR3 : pasA (hB b n) 58 ((srL (hB b n) (nmI wk L p) 3 (a1 + 1)).2.1) ((srL (hB b n) (nmI wk L p) 3 (a1 + 1)).1) = R3 at hk3 ⊢
    obtain ⟨a3, b3⟩ := R3
    dsimp only at hk3
    cases b3
    · skip
      refine x_eq (lv' := [some (.ref aN), some (.int w1), some (.int ((srL (hB b n) (nmI wk L p) 3 (a1 + 1)).2.2)), none]) (st' := []) (ws' := [(aN, .inr (9, [.ref aNs, .ref aNk, .int nkp, .ref aNf, .ref aNr, .ref aNp, .ref aNb, .ref aNa, .ref aNt, .int (nI nts), .ref aNbo, .ref aNsz, .ref aNnu, .int (nI a3), .int 1, .int 0, .int ntp, .int (nI p), .int nnw, .int nsn, .int nwn, .ref aNl, .ref aNal, .ref aNlo, .int (nI nac), .ref aNw, .ref aNtr, .ref aNis, .ref aNbg, .ref aNow])), (aNs, .inl (g.2.1 0, 919, .inl (msF gr wk z lk sz br ru ki ma bb ce hd))), (aNt, .inl (g.2.1 0, 60, .inl (nIf tb))), (aNa, .inl (g.2.1 0, 2475, .inl (nIf fcN))), (aNr, .inl (g.2.1 0, 495, .inl (nIf rowB))), (aNb, .inl (g.2.1 0, 4096, .inl (nIf popN)))]) ?_ rfl rfl rfl
      refine x_aload_n dX9_choice_60 rfl ?_
      refine x_cVi (ws' := [(aN, .inr (9, [.ref aNs, .ref aNk, .int nkp, .ref aNf, .ref aNr, .ref aNp, .ref aNb, .ref aNa, .ref aNt, .int (nI nts), .ref aNbo, .ref aNsz, .ref aNnu, .int (nI ((srL (hB b n) (nmI wk L p) 3 a3).1)), .int 1, .int (bI (srL (hB b n) (nmI wk L p) 3 a3).2.1), .int ntp, .int (nI p), .int nnw, .int nsn, .int nwn, .ref aNl, .ref aNal, .ref aNlo, .int (nI nac), .ref aNw, .ref aNtr, .ref aNis, .ref aNbg, .ref aNow])), (aNs, .inl (g.2.1 0, 919, .inl (msF gr wk z lk sz br ru ki ma bb ce hd))), (aNt, .inl (g.2.1 0, 60, .inl (nIf tb))), (aNa, .inl (g.2.1 0, 2475, .inl (nIf fcN))), (aNr, .inl (g.2.1 0, 495, .inl (nIf rowB))), (aNb, .inl (g.2.1 0, 4096, .inl (nIf popN)))]) dX9_choice_61 ml_X9_151 mX9_sum (ct_sr_3 κ.2.1 g aN aNs aNk aNf aNr aNp aNb aNa aNt aNbo aNsz aNnu aNl aNal aNlo aNw aNtr aNis aNbg aNow nts a3 nac nkp ntp nnw nsn nwn gr wk lk sz br z ru ki ma bb hd ce tb b n L p (ht) (by omega) (hn) (hb) (hp) (hwk) (hlat)) [0, 1, 2, 3, 4, 5] rfl rfl 0 rfl rfl rfl (Nat.le_of_ble_eq_true rfl) (by decide) (Nat.le_refl _) (Nat.le_refl _) (rfl : [aN, aNs, aNt, aNa, aNr, aNb] = [aN, aNs, aNt, aNa, aNr, aNb]) rfl ?_
      have hk4 := srL_ok (nv := nmI wk L p) (okH_hB b n) 3 a3 hk3
      refine x_istore_n (lv' := [some (.ref aN), some (.int w1), some (.int ((srL (hB b n) (nmI wk L p) 3 (a1 + 1)).2.2)), some (.int ((srL (hB b n) (nmI wk L p) 3 a3).2.2))]) dX9_choice_64 (xlt rfl) rfl ?_
      refine x_iload_n dX9_choice_65 rfl ?_
      have J66_2 : ∀ (v1 : Int32), v1 = (if w1 ≤ 0 then (srL (hB b n) (nmI wk L p) 3 a3).2.2 else (srL (hB b n) (nmI wk L p) 3 (a1 + 1)).2.2) → Xs κ g 21 0 0 cX9_choice yX9_choice (some .int) Q 0 0 74 [some (.ref aN), some (.int w1), some (.int ((srL (hB b n) (nmI wk L p) 3 (a1 + 1)).2.2)), some (.int ((srL (hB b n) (nmI wk L p) 3 a3).2.2))] [.int v1] [(aN, .inr (9, [.ref aNs, .ref aNk, .int nkp, .ref aNf, .ref aNr, .ref aNp, .ref aNb, .ref aNa, .ref aNt, .int (nI nts), .ref aNbo, .ref aNsz, .ref aNnu, .int (nI ((srL (hB b n) (nmI wk L p) 3 a3).1)), .int 1, .int (bI (srL (hB b n) (nmI wk L p) 3 a3).2.1), .int ntp, .int (nI p), .int nnw, .int nsn, .int nwn, .ref aNl, .ref aNal, .ref aNlo, .int (nI nac), .ref aNw, .ref aNtr, .ref aNis, .ref aNbg, .ref aNow])), (aNs, .inl (g.2.1 0, 919, .inl (msF gr wk z lk sz br ru ki ma bb ce hd))), (aNt, .inl (g.2.1 0, 60, .inl (nIf tb))), (aNa, .inl (g.2.1 0, 2475, .inl (nIf fcN))), (aNr, .inl (g.2.1 0, 495, .inl (nIf rowB))), (aNb, .inl (g.2.1 0, 4096, .inl (nIf popN)))] := by
        intro v1 ev1
        refine x_istore_n (lv' := [some (.ref aN), some (.int v1), some (.int ((srL (hB b n) (nmI wk L p) 3 (a1 + 1)).2.2)), some (.int ((srL (hB b n) (nmI wk L p) 3 a3).2.2))]) dX9_choice_74 (xlt rfl) rfl ?_
        refine x_aload_n dX9_choice_75 rfl ?_
        refine x_bipush 41 dX9_choice_76 (by decide) ?_
        refine x_cVv (ws' := [(aN, .inr (9, [.ref aNs, .ref aNk, .int nkp, .ref aNf, .ref aNr, .ref aNp, .ref aNb, .ref aNa, .ref aNt, .int (nI nts), .ref aNbo, .ref aNsz, .ref aNnu, .int (nI ((pasA (hB b n) 41 ((srL (hB b n) (nmI wk L p) 3 a3).2.1) ((srL (hB b n) (nmI wk L p) 3 a3).1)).1)), .int 1, .int (bI (pasA (hB b n) 41 ((srL (hB b n) (nmI wk L p) 3 a3).2.1) ((srL (hB b n) (nmI wk L p) 3 a3).1)).2), .int ntp, .int (nI p), .int nnw, .int nsn, .int nwn, .ref aNl, .ref aNal, .ref aNlo, .int (nI nac), .ref aNw, .ref aNtr, .ref aNis, .ref aNbg, .ref aNow])), (aNs, .inl (g.2.1 0, 919, .inl (msF gr wk z lk sz br ru ki ma bb ce hd))), (aNt, .inl (g.2.1 0, 60, .inl (nIf tb))), (aNa, .inl (g.2.1 0, 2475, .inl (nIf fcN))), (aNr, .inl (g.2.1 0, 495, .inl (nIf rowB))), (aNb, .inl (g.2.1 0, 4096, .inl (nIf popN)))]) dX9_choice_78 ml_X9_154 mX9_must (ct_X9_must κ.2.1 g aN aNs aNk aNf aNr aNp aNb aNa aNt aNbo aNsz aNnu aNl aNal aNlo aNw aNtr aNis aNbg aNow nts ((srL (hB b n) (nmI wk L p) 3 a3).1) 1 p nac nkp ntp nnw nsn nwn gr wk lk sz br z ru ki ma bb hd ce tb b n 41 ((srL (hB b n) (nmI wk L p) 3 a3).2.1) (ht) (by omega) (hn) (hb) (by decide)) [0, 1, 2] rfl rfl 0 rfl rfl rfl (Nat.le_of_ble_eq_true rfl) (by decide) (Nat.le_refl _) (Nat.le_refl _) (rfl : [aN, aNs, aNt] = [aN, aNs, aNt]) rfl ?_
        refine x_aload_n dX9_choice_81 rfl ?_
        refine x_dup dX9_choice_82 rfl ?_
        refine x_get dX9_choice_83 0 14 inX9 fl_X9_148 rfl rfl (by decide) rfl ?_
        refine x_iconst 1 dX9_choice_86 (by decide) ?_
        refine x_isub dX9_choice_87 ?_
        refine x_rei 0 (by decide) ?_
        refine x_put (ws' := [(aN, .inr (9, [.ref aNs, .ref aNk, .int nkp, .ref aNf, .ref aNr, .ref aNp, .ref aNb, .ref aNa, .ref aNt, .int (nI nts), .ref aNbo, .ref aNsz, .ref aNnu, .int (nI ((pasA (hB b n) 41 ((srL (hB b n) (nmI wk L p) 3 a3).2.1) ((srL (hB b n) (nmI wk L p) 3 a3).1)).1)), .int 0, .int (bI (pasA (hB b n) 41 ((srL (hB b n) (nmI wk L p) 3 a3).2.1) ((srL (hB b n) (nmI wk L p) 3 a3).1)).2), .int ntp, .int (nI p), .int nnw, .int nsn, .int nwn, .ref aNl, .ref aNal, .ref aNlo, .int (nI nac), .ref aNw, .ref aNtr, .ref aNis, .ref aNbg, .ref aNow])), (aNs, .inl (g.2.1 0, 919, .inl (msF gr wk z lk sz br ru ki ma bb ce hd))), (aNt, .inl (g.2.1 0, 60, .inl (nIf tb))), (aNa, .inl (g.2.1 0, 2475, .inl (nIf fcN))), (aNr, .inl (g.2.1 0, 495, .inl (nIf rowB))), (aNb, .inl (g.2.1 0, 4096, .inl (nIf popN)))]) dX9_choice_88 0 14 inX9 tyX9_ok nmX9 fl_X9_148 rfl rfl (by decide) rfl (rfl) rfl (xlt rfl) rfl ?_
        refine x_iload_n dX9_choice_91 rfl ?_
        rw [← hQ]
        refine x_iret dX9_choice_92 rfl (Nat.le_of_ble_eq_true rfl) (Nat.le_of_ble_eq_true rfl) ?_
        try simp only [ev1]
        rw [show hrL (hB b n) (nmI wk L p) 4 nta = choR (hB b n) (srL (hB b n) (nmI wk L p) 3) (nta + 1) from rfl]
        first | (rw [choA hR1]; exact ⟨rfl, rfl⟩) | (rw [choB hR1 hq2]; exact ⟨rfl, rfl⟩) | (rw [choC hR1 hq2 hR3]; exact ⟨rfl, rfl⟩) | (rw [choD hR1 hq2 hR3]; exact ⟨rfl, rfl⟩)
      refine x_if_le dX9_choice_66 (fun c66 => ?_) (fun c66 => ?_)
      · have c66 : w1 ≤ 0 := c66
        refine x_iload_n dX9_choice_73 rfl ?_
        exact J66_2 _ (if_pos c66).symm
      · have c66 : ¬ (w1 ≤ 0) := c66
        refine x_iload_n dX9_choice_69 rfl ?_
        refine x_goto dX9_choice_70 ?_
        exact J66_2 _ (if_neg c66).symm
    · skip
      refine x_eq (lv' := [some (.ref aN), some (.int w1), some (.int ((srL (hB b n) (nmI wk L p) 3 (a1 + 1)).2.2)), none]) (st' := []) (ws' := [(aN, .inr (9, [.ref aNs, .ref aNk, .int nkp, .ref aNf, .ref aNr, .ref aNp, .ref aNb, .ref aNa, .ref aNt, .int (nI nts), .ref aNbo, .ref aNsz, .ref aNnu, .int (nI a3), .int 1, .int 1, .int ntp, .int (nI p), .int nnw, .int nsn, .int nwn, .ref aNl, .ref aNal, .ref aNlo, .int (nI nac), .ref aNw, .ref aNtr, .ref aNis, .ref aNbg, .ref aNow])), (aNs, .inl (g.2.1 0, 919, .inl (msF gr wk z lk sz br ru ki ma bb ce hd))), (aNt, .inl (g.2.1 0, 60, .inl (nIf tb))), (aNa, .inl (g.2.1 0, 2475, .inl (nIf fcN))), (aNr, .inl (g.2.1 0, 495, .inl (nIf rowB))), (aNb, .inl (g.2.1 0, 4096, .inl (nIf popN)))]) ?_ rfl rfl rfl
      refine x_aload_n dX9_choice_60 rfl ?_
      refine x_cVi0 dX9_choice_61 ml_X9_151 mX9_sum (ct_sum_b κ.2.1 g aN aNs aNk aNf aNr aNp aNb aNa aNt aNbo aNsz aNnu aNl aNal aNlo aNw aNtr aNis aNbg aNow nts a3 1 nac nkp ntp nnw nsn nwn gr wk lk sz br z ru ki ma bb hd ce tb p) [0, 1, 2, 3, 4, 5] rfl rfl 0 rfl rfl rfl (Nat.le_of_ble_eq_true rfl) (by decide) (Nat.le_refl _) (Nat.le_refl _) ?_
      skip
      refine x_istore_n (lv' := [some (.ref aN), some (.int w1), some (.int ((srL (hB b n) (nmI wk L p) 3 (a1 + 1)).2.2)), some (.int 0)]) dX9_choice_64 (xlt rfl) rfl ?_
      refine x_iload_n dX9_choice_65 rfl ?_
      have J66_4 : ∀ (v3 : Int32), v3 = (if w1 ≤ 0 then 0 else (srL (hB b n) (nmI wk L p) 3 (a1 + 1)).2.2) → Xs κ g 21 0 0 cX9_choice yX9_choice (some .int) Q 0 0 74 [some (.ref aN), some (.int w1), some (.int ((srL (hB b n) (nmI wk L p) 3 (a1 + 1)).2.2)), some (.int 0)] [.int v3] [(aN, .inr (9, [.ref aNs, .ref aNk, .int nkp, .ref aNf, .ref aNr, .ref aNp, .ref aNb, .ref aNa, .ref aNt, .int (nI nts), .ref aNbo, .ref aNsz, .ref aNnu, .int (nI a3), .int 1, .int 1, .int ntp, .int (nI p), .int nnw, .int nsn, .int nwn, .ref aNl, .ref aNal, .ref aNlo, .int (nI nac), .ref aNw, .ref aNtr, .ref aNis, .ref aNbg, .ref aNow])), (aNs, .inl (g.2.1 0, 919, .inl (msF gr wk z lk sz br ru ki ma bb ce hd))), (aNt, .inl (g.2.1 0, 60, .inl (nIf tb))), (aNa, .inl (g.2.1 0, 2475, .inl (nIf fcN))), (aNr, .inl (g.2.1 0, 495, .inl (nIf rowB))), (aNb, .inl (g.2.1 0, 4096, .inl (nIf popN)))] := by
        intro v3 ev3
        refine x_istore_n (lv' := [some (.ref aN), some (.int v3), some (.int ((srL (hB b n) (nmI wk L p) 3 (a1 + 1)).2.2)), some (.int 0)]) dX9_choice_74 (xlt rfl) rfl ?_
        refine x_aload_n dX9_choice_75 rfl ?_
        refine x_bipush 41 dX9_choice_76 (by decide) ?_
        refine x_cVv (ws' := [(aN, .inr (9, [.ref aNs, .ref aNk, .int nkp, .ref aNf, .ref aNr, .ref aNp, .ref aNb, .ref aNa, .ref aNt, .int (nI nts), .ref aNbo, .ref aNsz, .ref aNnu, .int (nI ((pasA (hB b n) 41 true a3).1)), .int 1, .int (bI (pasA (hB b n) 41 true a3).2), .int ntp, .int (nI p), .int nnw, .int nsn, .int nwn, .ref aNl, .ref aNal, .ref aNlo, .int (nI nac), .ref aNw, .ref aNtr, .ref aNis, .ref aNbg, .ref aNow])), (aNs, .inl (g.2.1 0, 919, .inl (msF gr wk z lk sz br ru ki ma bb ce hd))), (aNt, .inl (g.2.1 0, 60, .inl (nIf tb))), (aNa, .inl (g.2.1 0, 2475, .inl (nIf fcN))), (aNr, .inl (g.2.1 0, 495, .inl (nIf rowB))), (aNb, .inl (g.2.1 0, 4096, .inl (nIf popN)))]) dX9_choice_78 ml_X9_154 mX9_must (ct_X9_must κ.2.1 g aN aNs aNk aNf aNr aNp aNb aNa aNt aNbo aNsz aNnu aNl aNal aNlo aNw aNtr aNis aNbg aNow nts a3 1 p nac nkp ntp nnw nsn nwn gr wk lk sz br z ru ki ma bb hd ce tb b n 41 true (ht) (by omega) (hn) (hb) (by decide)) [0, 1, 2] rfl rfl 0 rfl rfl rfl (Nat.le_of_ble_eq_true rfl) (by decide) (Nat.le_refl _) (Nat.le_refl _) (rfl : [aN, aNs, aNt] = [aN, aNs, aNt]) rfl ?_
        refine x_aload_n dX9_choice_81 rfl ?_
        refine x_dup dX9_choice_82 rfl ?_
        refine x_get dX9_choice_83 0 14 inX9 fl_X9_148 rfl rfl (by decide) rfl ?_
        refine x_iconst 1 dX9_choice_86 (by decide) ?_
        refine x_isub dX9_choice_87 ?_
        refine x_rei 0 (by decide) ?_
        refine x_put (ws' := [(aN, .inr (9, [.ref aNs, .ref aNk, .int nkp, .ref aNf, .ref aNr, .ref aNp, .ref aNb, .ref aNa, .ref aNt, .int (nI nts), .ref aNbo, .ref aNsz, .ref aNnu, .int (nI ((pasA (hB b n) 41 true a3).1)), .int 0, .int (bI (pasA (hB b n) 41 true a3).2), .int ntp, .int (nI p), .int nnw, .int nsn, .int nwn, .ref aNl, .ref aNal, .ref aNlo, .int (nI nac), .ref aNw, .ref aNtr, .ref aNis, .ref aNbg, .ref aNow])), (aNs, .inl (g.2.1 0, 919, .inl (msF gr wk z lk sz br ru ki ma bb ce hd))), (aNt, .inl (g.2.1 0, 60, .inl (nIf tb))), (aNa, .inl (g.2.1 0, 2475, .inl (nIf fcN))), (aNr, .inl (g.2.1 0, 495, .inl (nIf rowB))), (aNb, .inl (g.2.1 0, 4096, .inl (nIf popN)))]) dX9_choice_88 0 14 inX9 tyX9_ok nmX9 fl_X9_148 rfl rfl (by decide) rfl (rfl) rfl (xlt rfl) rfl ?_
        refine x_iload_n dX9_choice_91 rfl ?_
        rw [← hQ]
        refine x_iret dX9_choice_92 rfl (Nat.le_of_ble_eq_true rfl) (Nat.le_of_ble_eq_true rfl) ?_
        try simp only [ev3]
        rw [show hrL (hB b n) (nmI wk L p) 4 nta = choR (hB b n) (srL (hB b n) (nmI wk L p) 3) (nta + 1) from rfl]
        first | (rw [choA hR1]; exact ⟨rfl, rfl⟩) | (rw [choB hR1 hq2]; exact ⟨rfl, rfl⟩) | (rw [choC hR1 hq2 hR3]; exact ⟨rfl, rfl⟩) | (rw [choD hR1 hq2 hR3]; exact ⟨rfl, rfl⟩)
      refine x_if_le dX9_choice_66 (fun c66 => ?_) (fun c66 => ?_)
      · have c66 : w1 ≤ 0 := c66
        refine x_iload_n dX9_choice_73 rfl ?_
        exact J66_4 _ (if_pos c66).symm
      · have c66 : ¬ (w1 ≤ 0) := c66
        refine x_iload_n dX9_choice_69 rfl ?_
        refine x_goto dX9_choice_70 ?_
        exact J66_4 _ (if_neg c66).symm
  · skip
    refine x_eq (lv' := [some (.ref aN), none, none, none]) (st' := [.int w1]) (ws' := [(aN, .inr (9, [.ref aNs, .ref aNk, .int nkp, .ref aNf, .ref aNr, .ref aNp, .ref aNb, .ref aNa, .ref aNt, .int (nI nts), .ref aNbo, .ref aNsz, .ref aNnu, .int (nI a1), .int 1, .int 0, .int ntp, .int (nI p), .int nnw, .int nsn, .int nwn, .ref aNl, .ref aNal, .ref aNlo, .int (nI nac), .ref aNw, .ref aNtr, .ref aNis, .ref aNbg, .ref aNow])), (aNs, .inl (g.2.1 0, 919, .inl (msF gr wk z lk sz br ru ki ma bb ce hd))), (aNt, .inl (g.2.1 0, 60, .inl (nIf tb))), (aNa, .inl (g.2.1 0, 2475, .inl (nIf fcN))), (aNr, .inl (g.2.1 0, 495, .inl (nIf rowB))), (aNb, .inl (g.2.1 0, 4096, .inl (nIf popN)))]) ?_ rfl rfl rfl
    refine x_istore_n (lv' := [some (.ref aN), some (.int w1), none, none]) dX9_choice_39 (xlt rfl) rfl ?_
    refine x_aload_n dX9_choice_40 rfl ?_
    refine x_bipush 63 dX9_choice_41 (by decide) ?_
    refine x_cVi0 dX9_choice_43 ml_X9_141 mX9_takes (ct_takes_n κ.2.1 g aN aNs aNk aNf aNr aNp aNb aNa aNt aNbo aNsz aNnu aNl aNal aNlo aNw aNtr aNis aNbg aNow nts a1 1 p nac nkp ntp nnw nsn nwn gr wk lk sz br z ru ki ma bb hd ce tb b n 63 (ht) (by omega) (hn) (hb) (by decide) (hq2)) [0, 1, 2] rfl rfl 0 rfl rfl rfl (Nat.le_of_ble_eq_true rfl) (by decide) (Nat.le_refl _) (Nat.le_refl _) ?_
    refine x_if_eq dX9_choice_46 (fun c46 => ?_) (fun c46 => ?_)
    rotate_left
    · exact absurd c46 (by decide)
    refine x_aload_n dX9_choice_75 rfl ?_
    refine x_bipush 41 dX9_choice_76 (by decide) ?_
    refine x_cVv (ws' := [(aN, .inr (9, [.ref aNs, .ref aNk, .int nkp, .ref aNf, .ref aNr, .ref aNp, .ref aNb, .ref aNa, .ref aNt, .int (nI nts), .ref aNbo, .ref aNsz, .ref aNnu, .int (nI ((pasA (hB b n) 41 false a1).1)), .int 1, .int (bI (pasA (hB b n) 41 false a1).2), .int ntp, .int (nI p), .int nnw, .int nsn, .int nwn, .ref aNl, .ref aNal, .ref aNlo, .int (nI nac), .ref aNw, .ref aNtr, .ref aNis, .ref aNbg, .ref aNow])), (aNs, .inl (g.2.1 0, 919, .inl (msF gr wk z lk sz br ru ki ma bb ce hd))), (aNt, .inl (g.2.1 0, 60, .inl (nIf tb))), (aNa, .inl (g.2.1 0, 2475, .inl (nIf fcN))), (aNr, .inl (g.2.1 0, 495, .inl (nIf rowB))), (aNb, .inl (g.2.1 0, 4096, .inl (nIf popN)))]) dX9_choice_78 ml_X9_154 mX9_must (ct_X9_must κ.2.1 g aN aNs aNk aNf aNr aNp aNb aNa aNt aNbo aNsz aNnu aNl aNal aNlo aNw aNtr aNis aNbg aNow nts a1 1 p nac nkp ntp nnw nsn nwn gr wk lk sz br z ru ki ma bb hd ce tb b n 41 false (ht) (by omega) (hn) (hb) (by decide)) [0, 1, 2] rfl rfl 0 rfl rfl rfl (Nat.le_of_ble_eq_true rfl) (by decide) (Nat.le_refl _) (Nat.le_refl _) (rfl : [aN, aNs, aNt] = [aN, aNs, aNt]) rfl ?_
    refine x_aload_n dX9_choice_81 rfl ?_
    refine x_dup dX9_choice_82 rfl ?_
    refine x_get dX9_choice_83 0 14 inX9 fl_X9_148 rfl rfl (by decide) rfl ?_
    refine x_iconst 1 dX9_choice_86 (by decide) ?_
    refine x_isub dX9_choice_87 ?_
    refine x_rei 0 (by decide) ?_
    refine x_put (ws' := [(aN, .inr (9, [.ref aNs, .ref aNk, .int nkp, .ref aNf, .ref aNr, .ref aNp, .ref aNb, .ref aNa, .ref aNt, .int (nI nts), .ref aNbo, .ref aNsz, .ref aNnu, .int (nI ((pasA (hB b n) 41 false a1).1)), .int 0, .int (bI (pasA (hB b n) 41 false a1).2), .int ntp, .int (nI p), .int nnw, .int nsn, .int nwn, .ref aNl, .ref aNal, .ref aNlo, .int (nI nac), .ref aNw, .ref aNtr, .ref aNis, .ref aNbg, .ref aNow])), (aNs, .inl (g.2.1 0, 919, .inl (msF gr wk z lk sz br ru ki ma bb ce hd))), (aNt, .inl (g.2.1 0, 60, .inl (nIf tb))), (aNa, .inl (g.2.1 0, 2475, .inl (nIf fcN))), (aNr, .inl (g.2.1 0, 495, .inl (nIf rowB))), (aNb, .inl (g.2.1 0, 4096, .inl (nIf popN)))]) dX9_choice_88 0 14 inX9 tyX9_ok nmX9 fl_X9_148 rfl rfl (by decide) rfl (rfl) rfl (xlt rfl) rfl ?_
    refine x_iload_n dX9_choice_91 rfl ?_
    rw [← hQ]
    refine x_iret dX9_choice_92 rfl (Nat.le_of_ble_eq_true rfl) (Nat.le_of_ble_eq_true rfl) ?_
    try simp only []
    rw [show hrL (hB b n) (nmI wk L p) 4 nta = choR (hB b n) (srL (hB b n) (nmI wk L p) 3) (nta + 1) from rfl]
    first | (rw [choA hR1]; exact ⟨rfl, rfl⟩) | (rw [choB hR1 hq2]; exact ⟨rfl, rfl⟩) | (rw [choC hR1 hq2 hR3]; exact ⟨rfl, rfl⟩) | (rw [choD hR1 hq2 hR3]; exact ⟨rfl, rfl⟩)
  · skip
    refine x_eq (lv' := [some (.ref aN), none, none, none]) (st' := [.int w1]) (ws' := [(aN, .inr (9, [.ref aNs, .ref aNk, .int nkp, .ref aNf, .ref aNr, .ref aNp, .ref aNb, .ref aNa, .ref aNt, .int (nI nts), .ref aNbo, .ref aNsz, .ref aNnu, .int (nI a1), .int 1, .int 1, .int ntp, .int (nI p), .int nnw, .int nsn, .int nwn, .ref aNl, .ref aNal, .ref aNlo, .int (nI nac), .ref aNw, .ref aNtr, .ref aNis, .ref aNbg, .ref aNow])), (aNs, .inl (g.2.1 0, 919, .inl (msF gr wk z lk sz br ru ki ma bb ce hd))), (aNt, .inl (g.2.1 0, 60, .inl (nIf tb))), (aNa, .inl (g.2.1 0, 2475, .inl (nIf fcN))), (aNr, .inl (g.2.1 0, 495, .inl (nIf rowB))), (aNb, .inl (g.2.1 0, 4096, .inl (nIf popN)))]) ?_ rfl rfl rfl
    refine x_istore_n (lv' := [some (.ref aN), some (.int w1), none, none]) dX9_choice_39 (xlt rfl) rfl ?_
    refine x_aload_n dX9_choice_40 rfl ?_
    refine x_bipush 63 dX9_choice_41 (by decide) ?_
    refine x_cVi0 dX9_choice_43 ml_X9_141 mX9_takes (ct_takes_b κ.2.1 g aN aNs aNk aNf aNr aNp aNb aNa aNt aNbo aNsz aNnu aNl aNal aNlo aNw aNtr aNis aNbg aNow nts a1 1 p nac nkp ntp nnw nsn nwn gr wk lk sz br z ru ki ma bb hd ce tb 63) [0, 1, 2] rfl rfl 0 rfl rfl rfl (Nat.le_of_ble_eq_true rfl) (by decide) (Nat.le_refl _) (Nat.le_refl _) ?_
    refine x_if_eq dX9_choice_46 (fun c46 => ?_) (fun c46 => ?_)
    rotate_left
    · exact absurd c46 (by decide)
    refine x_aload_n dX9_choice_75 rfl ?_
    refine x_bipush 41 dX9_choice_76 (by decide) ?_
    refine x_cVv (ws' := [(aN, .inr (9, [.ref aNs, .ref aNk, .int nkp, .ref aNf, .ref aNr, .ref aNp, .ref aNb, .ref aNa, .ref aNt, .int (nI nts), .ref aNbo, .ref aNsz, .ref aNnu, .int (nI ((pasA (hB b n) 41 true a1).1)), .int 1, .int (bI (pasA (hB b n) 41 true a1).2), .int ntp, .int (nI p), .int nnw, .int nsn, .int nwn, .ref aNl, .ref aNal, .ref aNlo, .int (nI nac), .ref aNw, .ref aNtr, .ref aNis, .ref aNbg, .ref aNow])), (aNs, .inl (g.2.1 0, 919, .inl (msF gr wk z lk sz br ru ki ma bb ce hd))), (aNt, .inl (g.2.1 0, 60, .inl (nIf tb))), (aNa, .inl (g.2.1 0, 2475, .inl (nIf fcN))), (aNr, .inl (g.2.1 0, 495, .inl (nIf rowB))), (aNb, .inl (g.2.1 0, 4096, .inl (nIf popN)))]) dX9_choice_78 ml_X9_154 mX9_must (ct_X9_must κ.2.1 g aN aNs aNk aNf aNr aNp aNb aNa aNt aNbo aNsz aNnu aNl aNal aNlo aNw aNtr aNis aNbg aNow nts a1 1 p nac nkp ntp nnw nsn nwn gr wk lk sz br z ru ki ma bb hd ce tb b n 41 true (ht) (by omega) (hn) (hb) (by decide)) [0, 1, 2] rfl rfl 0 rfl rfl rfl (Nat.le_of_ble_eq_true rfl) (by decide) (Nat.le_refl _) (Nat.le_refl _) (rfl : [aN, aNs, aNt] = [aN, aNs, aNt]) rfl ?_
    refine x_aload_n dX9_choice_81 rfl ?_
    refine x_dup dX9_choice_82 rfl ?_
    refine x_get dX9_choice_83 0 14 inX9 fl_X9_148 rfl rfl (by decide) rfl ?_
    refine x_iconst 1 dX9_choice_86 (by decide) ?_
    refine x_isub dX9_choice_87 ?_
    refine x_rei 0 (by decide) ?_
    refine x_put (ws' := [(aN, .inr (9, [.ref aNs, .ref aNk, .int nkp, .ref aNf, .ref aNr, .ref aNp, .ref aNb, .ref aNa, .ref aNt, .int (nI nts), .ref aNbo, .ref aNsz, .ref aNnu, .int (nI ((pasA (hB b n) 41 true a1).1)), .int 0, .int (bI (pasA (hB b n) 41 true a1).2), .int ntp, .int (nI p), .int nnw, .int nsn, .int nwn, .ref aNl, .ref aNal, .ref aNlo, .int (nI nac), .ref aNw, .ref aNtr, .ref aNis, .ref aNbg, .ref aNow])), (aNs, .inl (g.2.1 0, 919, .inl (msF gr wk z lk sz br ru ki ma bb ce hd))), (aNt, .inl (g.2.1 0, 60, .inl (nIf tb))), (aNa, .inl (g.2.1 0, 2475, .inl (nIf fcN))), (aNr, .inl (g.2.1 0, 495, .inl (nIf rowB))), (aNb, .inl (g.2.1 0, 4096, .inl (nIf popN)))]) dX9_choice_88 0 14 inX9 tyX9_ok nmX9 fl_X9_148 rfl rfl (by decide) rfl (rfl) rfl (xlt rfl) rfl ?_
    refine x_iload_n dX9_choice_91 rfl ?_
    rw [← hQ]
    refine x_iret dX9_choice_92 rfl (Nat.le_of_ble_eq_true rfl) (Nat.le_of_ble_eq_true rfl) ?_
    try simp only []
    rw [show hrL (hB b n) (nmI wk L p) 4 nta = choR (hB b n) (srL (hB b n) (nmI wk L p) 3) (nta + 1) from rfl]
    first | (rw [choA hR1]; exact ⟨rfl, rfl⟩) | (rw [choB hR1 hq2]; exact ⟨rfl, rfl⟩) | (rw [choC hR1 hq2 hR3]; exact ⟨rfl, rfl⟩) | (rw [choD hR1 hq2 hR3]; exact ⟨rfl, rfl⟩)

-- == fr_4 ==
set_option maxRecDepth 100000 in
set_option maxHeartbeats 4000000 in
theorem ct_fr_4 (l : Launch) (g : XG) (aN aNs aNk aNf aNr aNp aNb aNa aNt aNbo aNsz aNnu aNl aNal aNlo aNw aNtr aNis aNbg aNow nts nta nac : Nat) (nkp ntp nnw nsn nwn : Int32) (gr wk lk sz br : Nat) (z : Int32) (ru ki ma bb hd : Nat → Nat) (ce : Nat → Int32) (tb b : Nat → Nat) (n L p : Nat) (ht : (ntp = 1 ∧ n = nts ∧ b = tb) ∨ (ntp = 0 ∧ n = sz ∧ b = bb)) (ha : nta ≤ n) (hn : n ≤ 60) (hb : ∀ j, b j < 256) (hp : p < 495) (hwk : wk ≤ 40) (hlat : latI ce wk = nI L) : Ct l g 22 0 0 yX9_factor cX9_factor 3 (some .int) [.ref aN] [(aN, .inr (9, [.ref aNs, .ref aNk, .int nkp, .ref aNf, .ref aNr, .ref aNp, .ref aNb, .ref aNa, .ref aNt, .int (nI nts), .ref aNbo, .ref aNsz, .ref aNnu, .int (nI nta), .int 0, .int 0, .int ntp, .int (nI p), .int nnw, .int nsn, .int nwn, .ref aNl, .ref aNal, .ref aNlo, .int (nI nac), .ref aNw, .ref aNtr, .ref aNis, .ref aNbg, .ref aNow])), (aNs, .inl (g.2.1 0, 919, .inl (msF gr wk z lk sz br ru ki ma bb ce hd))), (aNt, .inl (g.2.1 0, 60, .inl (nIf tb))), (aNa, .inl (g.2.1 0, 2475, .inl (nIf fcN))), (aNr, .inl (g.2.1 0, 495, .inl (nIf rowB))), (aNb, .inl (g.2.1 0, 4096, .inl (nIf popN)))] (xpi ((frL (hB b n) (nmI wk L p) 4 nta).2.2) [(aN, .inr (9, [.ref aNs, .ref aNk, .int nkp, .ref aNf, .ref aNr, .ref aNp, .ref aNb, .ref aNa, .ref aNt, .int (nI nts), .ref aNbo, .ref aNsz, .ref aNnu, .int (nI ((frL (hB b n) (nmI wk L p) 4 nta).1)), .int 0, .int (bI (frL (hB b n) (nmI wk L p) 4 nta).2.1), .int ntp, .int (nI p), .int nnw, .int nsn, .int nwn, .ref aNl, .ref aNal, .ref aNlo, .int (nI nac), .ref aNw, .ref aNtr, .ref aNis, .ref aNbg, .ref aNow])), (aNs, .inl (g.2.1 0, 919, .inl (msF gr wk z lk sz br ru ki ma bb ce hd))), (aNt, .inl (g.2.1 0, 60, .inl (nIf tb))), (aNa, .inl (g.2.1 0, 2475, .inl (nIf fcN))), (aNr, .inl (g.2.1 0, 495, .inl (nIf rowB))), (aNb, .inl (g.2.1 0, 4096, .inl (nIf popN)))]) := by
  refine Ct.ofX (lv := [some (.ref aN), none, none]) (by decide) rfl (Nat.le_of_ble_eq_true rfl) (fun κ => ?_)
  generalize hQ : xQ κ g 0 0 _ = Q
  refine x_aload_n dX9_factor_0 rfl ?_
  refine x_get dX9_factor_1 0 15 inX9 fl_X9_135 rfl rfl (by decide) rfl ?_
  refine x_if_eq dX9_factor_4 (fun c4 => ?_) (fun c4 => ?_)
  rotate_left
  · exact absurd c4 (by decide)
  refine x_aload_n dX9_factor_9 rfl ?_
  refine x_cVi0 dX9_factor_10 ml_X9_138 mX9_byteHere (ct_X9_byteHere κ.2.1 g aN aNs aNk aNf aNr aNp aNb aNa aNt aNbo aNsz aNnu aNl aNal aNlo aNw aNtr aNis aNbg aNow nts nta 0 p nac nkp 0 ntp nnw nsn nwn gr wk lk sz br z ru ki ma bb hd ce tb b n (ht) (by omega) (hn) (hb)) [0, 1, 2] rfl rfl 0 rfl rfl rfl (Nat.le_of_ble_eq_true rfl) (by decide) (Nat.le_refl _) (Nat.le_refl _) ?_
  rcases hI_cases (hB b n) nta with ⟨hlt, hh⟩ | ⟨hlt, hh⟩ <;> rw [hh]
  · skip
    refine x_istore_n (lv' := [some (.ref aN), some (.int (nI (hB b n nta))), none]) dX9_factor_13 (xlt rfl) rfl ?_
    refine x_iload_n dX9_factor_14 rfl ?_
    refine x_i2l dX9_factor_15 ?_
    refine x_ldc2 dX9_factor_16 kl_X9_144 ?_
    refine x_ldc2 dX9_factor_19 kl_X9_146 ?_
    refine x_cSi dX9_factor_22 ml_X9_98 mX9_isIn (ct_X9_isIn κ.2.1 g ((nI (hB b n nta)).toInt64) 48 57) rfl (Nat.le_of_ble_eq_true rfl) (by decide) (Nat.le_refl _) (Nat.le_refl _) ?_
    refine x_rei (wI (nI (hB b n nta)) 48 57) (inL_w (nI (hB b n nta)) 48 57 (by first | rfl | decide) (by first | rfl | decide)) ?_
    skip
    refine x_if_eq dX9_factor_25 (fun c25 => ?_) (fun c25 => ?_)
    · have c25 : (wI (nI (hB b n nta)) 48 57) = 0 := c25
      refine x_iload_n dX9_factor_33 rfl ?_
      refine x_bipush 40 dX9_factor_34 (by decide) ?_
      refine x_icmp_ne dX9_factor_36 (fun c36 => ?_) (fun c36 => ?_)
      · have c36 : ¬ ((nI (hB b n nta)) = 40) := c36
        have c36n := mt (nI_eq (a := (hB b n nta)) (b := 40) (by omega) (by omega)).mpr c36
        refine x_aload_n dX9_factor_44 rfl ?_
        refine x_iload_n dX9_factor_45 rfl ?_
        refine x_cVi0 dX9_factor_46 ml_X9_164 mX9_named (ct_named_n κ.2.1 g aN aNs aNk aNf aNr aNp aNb aNa aNt aNbo aNsz aNnu aNl aNal aNlo aNw aNtr aNis aNbg aNow nts nta 0 nac nkp 0 ntp nnw nsn nwn gr wk lk sz br z ru ki ma bb hd ce L p (hB b n nta) (hp) (hwk) (hlat) (hlt)) [0, 1, 3, 4, 5] rfl rfl 0 rfl rfl rfl (Nat.le_of_ble_eq_true rfl) (by decide) (Nat.le_refl _) (Nat.le_refl _) ?_
        have hnn := nmN_le (L := L) hwk hp (nmIx (hB b n nta))
        by_cases hni : nmIx (hB b n nta) < 7
        · rw [if_pos hni]
          refine x_istore_n (lv' := [some (.ref aN), some (.int (nI (hB b n nta))), some (.int (nI (nmN wk L (rowB p) (nmIx (hB b n nta)))))]) dX9_factor_49 (xlt rfl) rfl ?_
          refine x_aload_n dX9_factor_50 rfl ?_
          refine x_iload_n dX9_factor_51 rfl ?_
          refine x_if_ge dX9_factor_52 (fun c52 => ?_) (fun c52 => ?_)
          · have c52 : 0 ≤ (nI (nmN wk L (rowB p) (nmIx (hB b n nta)))) := c52
            have c52n := (nI_leI (a := 0) (b := (nmN wk L (rowB p) (nmIx (hB b n nta)))) (by omega) (by omega)).mp c52
            refine x_iconst 0 dX9_factor_59 (by decide) ?_
            refine x_put (ws' := [(aN, .inr (9, [.ref aNs, .ref aNk, .int nkp, .ref aNf, .ref aNr, .ref aNp, .ref aNb, .ref aNa, .ref aNt, .int (nI nts), .ref aNbo, .ref aNsz, .ref aNnu, .int (nI nta), .int 0, .int 0, .int ntp, .int (nI p), .int nnw, .int nsn, .int nwn, .ref aNl, .ref aNal, .ref aNlo, .int (nI nac), .ref aNw, .ref aNtr, .ref aNis, .ref aNbg, .ref aNow])), (aNs, .inl (g.2.1 0, 919, .inl (msF gr wk z lk sz br ru ki ma bb ce hd))), (aNt, .inl (g.2.1 0, 60, .inl (nIf tb))), (aNa, .inl (g.2.1 0, 2475, .inl (nIf fcN))), (aNr, .inl (g.2.1 0, 495, .inl (nIf rowB))), (aNb, .inl (g.2.1 0, 4096, .inl (nIf popN)))]) dX9_factor_60 0 15 inX9 tyX9_ok nmX9 fl_X9_135 rfl rfl (by decide) rfl (rfl) rfl (xlt rfl) rfl ?_
            refine x_aload_n dX9_factor_63 rfl ?_
            refine x_dup dX9_factor_64 rfl ?_
            refine x_get dX9_factor_65 0 13 inX9 fl_X9_119 rfl rfl (by decide) rfl ?_
            refine x_aload_n dX9_factor_68 rfl ?_
            refine x_get dX9_factor_69 0 15 inX9 fl_X9_135 rfl rfl (by decide) rfl ?_
            refine x_if_eq dX9_factor_72 (fun c72 => ?_) (fun c72 => ?_)
            rotate_left
            · exact absurd c72 (by decide)
            refine x_iconst 1 dX9_factor_79 (by decide) ?_
            refine x_iadd dX9_factor_80 ?_
            refine x_rei (nI (nta + 1)) (nI_addc nta 1 rfl) ?_
            refine x_put (ws' := [(aN, .inr (9, [.ref aNs, .ref aNk, .int nkp, .ref aNf, .ref aNr, .ref aNp, .ref aNb, .ref aNa, .ref aNt, .int (nI nts), .ref aNbo, .ref aNsz, .ref aNnu, .int (nI (nta + 1)), .int 0, .int 0, .int ntp, .int (nI p), .int nnw, .int nsn, .int nwn, .ref aNl, .ref aNal, .ref aNlo, .int (nI nac), .ref aNw, .ref aNtr, .ref aNis, .ref aNbg, .ref aNow])), (aNs, .inl (g.2.1 0, 919, .inl (msF gr wk z lk sz br ru ki ma bb ce hd))), (aNt, .inl (g.2.1 0, 60, .inl (nIf tb))), (aNa, .inl (g.2.1 0, 2475, .inl (nIf fcN))), (aNr, .inl (g.2.1 0, 495, .inl (nIf rowB))), (aNb, .inl (g.2.1 0, 4096, .inl (nIf popN)))]) dX9_factor_81 0 13 inX9 tyX9_ok nmX9 fl_X9_119 rfl rfl (by decide) rfl (rfl) rfl (xlt rfl) rfl ?_
            refine x_iload_n dX9_factor_84 rfl ?_
            rw [← hQ]
            refine x_iret dX9_factor_85 rfl (Nat.le_of_ble_eq_true rfl) (Nat.le_of_ble_eq_true rfl) ?_
            first | (rw [frL, facR, if_neg (by first | exact dgW0 hlt c25 | exact dg_no hlt), if_neg (by omega), if_pos hni]; exact ⟨rfl, rfl⟩) | (rw [frL, facR, if_neg (by first | exact dgW0 hlt c25 | exact dg_no hlt), if_neg (by omega), if_neg (by first | exact hni | exact nmIx_no hlt)]; exact ⟨rfl, rfl⟩)
          · have c52 : ¬ (0 ≤ (nI (nmN wk L (rowB p) (nmIx (hB b n nta))))) := c52
            have c52n := mt (nI_leI (a := 0) (b := (nmN wk L (rowB p) (nmIx (hB b n nta)))) (by omega) (by omega)).mpr c52
            exact absurd c52n (by omega)
        · rw [if_neg hni]
          refine x_istore_n (lv' := [some (.ref aN), some (.int (nI (hB b n nta))), some (.int ((-1)))]) dX9_factor_49 (xlt rfl) rfl ?_
          refine x_aload_n dX9_factor_50 rfl ?_
          refine x_iload_n dX9_factor_51 rfl ?_
          refine x_if_ge dX9_factor_52 (fun c52 => ?_) (fun c52 => ?_)
          · exact absurd c52 (by decide)
          refine x_iconst 1 dX9_factor_55 (by decide) ?_
          refine x_goto dX9_factor_56 ?_
          refine x_put (ws' := [(aN, .inr (9, [.ref aNs, .ref aNk, .int nkp, .ref aNf, .ref aNr, .ref aNp, .ref aNb, .ref aNa, .ref aNt, .int (nI nts), .ref aNbo, .ref aNsz, .ref aNnu, .int (nI nta), .int 0, .int 1, .int ntp, .int (nI p), .int nnw, .int nsn, .int nwn, .ref aNl, .ref aNal, .ref aNlo, .int (nI nac), .ref aNw, .ref aNtr, .ref aNis, .ref aNbg, .ref aNow])), (aNs, .inl (g.2.1 0, 919, .inl (msF gr wk z lk sz br ru ki ma bb ce hd))), (aNt, .inl (g.2.1 0, 60, .inl (nIf tb))), (aNa, .inl (g.2.1 0, 2475, .inl (nIf fcN))), (aNr, .inl (g.2.1 0, 495, .inl (nIf rowB))), (aNb, .inl (g.2.1 0, 4096, .inl (nIf popN)))]) dX9_factor_60 0 15 inX9 tyX9_ok nmX9 fl_X9_135 rfl rfl (by decide) rfl (rfl) rfl (xlt rfl) rfl ?_
          refine x_aload_n dX9_factor_63 rfl ?_
          refine x_dup dX9_factor_64 rfl ?_
          refine x_get dX9_factor_65 0 13 inX9 fl_X9_119 rfl rfl (by decide) rfl ?_
          refine x_aload_n dX9_factor_68 rfl ?_
          refine x_get dX9_factor_69 0 15 inX9 fl_X9_135 rfl rfl (by decide) rfl ?_
          refine x_if_eq dX9_factor_72 (fun c72 => ?_) (fun c72 => ?_)
          · exact absurd c72 (by decide)
          refine x_iconst 0 dX9_factor_75 (by decide) ?_
          refine x_goto dX9_factor_76 ?_
          refine x_iadd dX9_factor_80 ?_
          refine x_rei (nI (nta + 0)) (nI_addc nta 0 rfl) ?_
          refine x_put (ws' := [(aN, .inr (9, [.ref aNs, .ref aNk, .int nkp, .ref aNf, .ref aNr, .ref aNp, .ref aNb, .ref aNa, .ref aNt, .int (nI nts), .ref aNbo, .ref aNsz, .ref aNnu, .int (nI (nta + 0)), .int 0, .int 1, .int ntp, .int (nI p), .int nnw, .int nsn, .int nwn, .ref aNl, .ref aNal, .ref aNlo, .int (nI nac), .ref aNw, .ref aNtr, .ref aNis, .ref aNbg, .ref aNow])), (aNs, .inl (g.2.1 0, 919, .inl (msF gr wk z lk sz br ru ki ma bb ce hd))), (aNt, .inl (g.2.1 0, 60, .inl (nIf tb))), (aNa, .inl (g.2.1 0, 2475, .inl (nIf fcN))), (aNr, .inl (g.2.1 0, 495, .inl (nIf rowB))), (aNb, .inl (g.2.1 0, 4096, .inl (nIf popN)))]) dX9_factor_81 0 13 inX9 tyX9_ok nmX9 fl_X9_119 rfl rfl (by decide) rfl (rfl) rfl (xlt rfl) rfl ?_
          refine x_iload_n dX9_factor_84 rfl ?_
          rw [← hQ]
          refine x_iret dX9_factor_85 rfl (Nat.le_of_ble_eq_true rfl) (Nat.le_of_ble_eq_true rfl) ?_
          first | (rw [frL, facR, if_neg (by first | exact dgW0 hlt c25 | exact dg_no hlt), if_neg (by omega), if_pos hni]; exact ⟨rfl, rfl⟩) | (rw [frL, facR, if_neg (by first | exact dgW0 hlt c25 | exact dg_no hlt), if_neg (by omega), if_neg (by first | exact hni | exact nmIx_no hlt)]; exact ⟨rfl, rfl⟩)
      · have c36 : (nI (hB b n nta)) = 40 := c36
        have c36n := (nI_eq (a := (hB b n nta)) (b := 40) (by omega) (by omega)).mp c36
        refine x_aload_n dX9_factor_39 rfl ?_
        refine x_cVi (ws' := [(aN, .inr (9, [.ref aNs, .ref aNk, .int nkp, .ref aNf, .ref aNr, .ref aNp, .ref aNb, .ref aNa, .ref aNt, .int (nI nts), .ref aNbo, .ref aNsz, .ref aNnu, .int (nI ((hrL (hB b n) (nmI wk L p) 4 nta).1)), .int 0, .int (bI (hrL (hB b n) (nmI wk L p) 4 nta).2.1), .int ntp, .int (nI p), .int nnw, .int nsn, .int nwn, .ref aNl, .ref aNal, .ref aNlo, .int (nI nac), .ref aNw, .ref aNtr, .ref aNis, .ref aNbg, .ref aNow])), (aNs, .inl (g.2.1 0, 919, .inl (msF gr wk z lk sz br ru ki ma bb ce hd))), (aNt, .inl (g.2.1 0, 60, .inl (nIf tb))), (aNa, .inl (g.2.1 0, 2475, .inl (nIf fcN))), (aNr, .inl (g.2.1 0, 495, .inl (nIf rowB))), (aNb, .inl (g.2.1 0, 4096, .inl (nIf popN)))]) dX9_factor_40 ml_X9_161 mX9_choice (ct_ch_4 κ.2.1 g aN aNs aNk aNf aNr aNp aNb aNa aNt aNbo aNsz aNnu aNl aNal aNlo aNw aNtr aNis aNbg aNow nts nta nac nkp ntp nnw nsn nwn gr wk lk sz br z ru ki ma bb hd ce tb b n L p (ht) (by omega) (hn) (hb) (hp) (hwk) (hlat) (c36n)) [0, 1, 2, 3, 4, 5] rfl rfl 0 rfl rfl rfl (Nat.le_of_ble_eq_true rfl) (by decide) (Nat.le_refl _) (Nat.le_refl _) (rfl : [aN, aNs, aNt, aNa, aNr, aNb] = [aN, aNs, aNt, aNa, aNr, aNb]) rfl ?_
        rw [← hQ]
        refine x_iret dX9_factor_43 rfl (Nat.le_of_ble_eq_true rfl) (Nat.le_of_ble_eq_true rfl) ?_
        first | (rw [frL, facR, if_neg (dgW0 hlt c25), if_pos c36n]; exact ⟨rfl, rfl⟩)
    · have c25 : ¬ ((wI (nI (hB b n nta)) 48 57) = 0) := c25
      refine x_aload_n dX9_factor_28 rfl ?_
      refine x_cVi (ws' := [(aN, .inr (9, [.ref aNs, .ref aNk, .int nkp, .ref aNf, .ref aNr, .ref aNp, .ref aNb, .ref aNa, .ref aNt, .int (nI nts), .ref aNbo, .ref aNsz, .ref aNnu, .int (nI ((numI (hB b n) nta).1)), .int 0, .int 0, .int ntp, .int (nI p), .int nnw, .int nsn, .int nwn, .ref aNl, .ref aNal, .ref aNlo, .int (nI nac), .ref aNw, .ref aNtr, .ref aNis, .ref aNbg, .ref aNow])), (aNs, .inl (g.2.1 0, 919, .inl (msF gr wk z lk sz br ru ki ma bb ce hd))), (aNt, .inl (g.2.1 0, 60, .inl (nIf tb))), (aNa, .inl (g.2.1 0, 2475, .inl (nIf fcN))), (aNr, .inl (g.2.1 0, 495, .inl (nIf rowB))), (aNb, .inl (g.2.1 0, 4096, .inl (nIf popN)))]) dX9_factor_29 ml_X9_158 mX9_number (ct_X9_number κ.2.1 g aN aNs aNk aNf aNr aNp aNb aNa aNt aNbo aNsz aNnu aNl aNal aNlo aNw aNtr aNis aNbg aNow nts nta 0 p nac nkp ntp nnw nsn nwn gr wk lk sz br z ru ki ma bb hd ce tb b n (ht) (by omega) (hn) (hb)) [0, 1, 2] rfl rfl 0 rfl rfl rfl (Nat.le_of_ble_eq_true rfl) (by decide) (Nat.le_refl _) (Nat.le_refl _) (rfl : [aN, aNs, aNt] = [aN, aNs, aNt]) rfl ?_
      rw [← hQ]
      refine x_iret dX9_factor_32 rfl (Nat.le_of_ble_eq_true rfl) (Nat.le_of_ble_eq_true rfl) ?_
      first | (rw [frL, facR, if_pos (dgW1 hlt c25)]; exact ⟨rfl, rfl⟩)
  · skip
    refine x_istore_n (lv' := [some (.ref aN), some (.int ((-1))), none]) dX9_factor_13 (xlt rfl) rfl ?_
    refine x_iload_n dX9_factor_14 rfl ?_
    refine x_i2l dX9_factor_15 ?_
    refine x_ldc2 dX9_factor_16 kl_X9_144 ?_
    refine x_ldc2 dX9_factor_19 kl_X9_146 ?_
    refine x_cSi dX9_factor_22 ml_X9_98 mX9_isIn (ct_X9_isIn κ.2.1 g ((-1).toInt64) 48 57) rfl (Nat.le_of_ble_eq_true rfl) (by decide) (Nat.le_refl _) (Nat.le_refl _) ?_
    refine x_rei (wI (-1) 48 57) (inL_w (-1) 48 57 (by first | rfl | decide) (by first | rfl | decide)) ?_
    refine x_rei (0) (by decide) ?_
    refine x_if_eq dX9_factor_25 (fun c25 => ?_) (fun c25 => ?_)
    rotate_left
    · exact absurd c25 (by decide)
    refine x_iload_n dX9_factor_33 rfl ?_
    refine x_bipush 40 dX9_factor_34 (by decide) ?_
    refine x_icmp_ne dX9_factor_36 (fun c36 => ?_) (fun c36 => ?_)
    rotate_left
    · exact absurd c36 (by decide)
    refine x_aload_n dX9_factor_44 rfl ?_
    refine x_iload_n dX9_factor_45 rfl ?_
    refine x_cVi0 dX9_factor_46 ml_X9_164 mX9_named (ct_named_e κ.2.1 g aN aNs aNk aNf aNr aNp aNb aNa aNt aNbo aNsz aNnu aNl aNal aNlo aNw aNtr aNis aNbg aNow nts nta 0 nac nkp 0 ntp nnw nsn nwn gr wk lk sz br z ru ki ma bb hd ce p) [0, 1, 3, 4, 5] rfl rfl 0 rfl rfl rfl (Nat.le_of_ble_eq_true rfl) (by decide) (Nat.le_refl _) (Nat.le_refl _) ?_
    skip
    refine x_istore_n (lv' := [some (.ref aN), some (.int ((-1))), some (.int ((-1)))]) dX9_factor_49 (xlt rfl) rfl ?_
    refine x_aload_n dX9_factor_50 rfl ?_
    refine x_iload_n dX9_factor_51 rfl ?_
    refine x_if_ge dX9_factor_52 (fun c52 => ?_) (fun c52 => ?_)
    · exact absurd c52 (by decide)
    refine x_iconst 1 dX9_factor_55 (by decide) ?_
    refine x_goto dX9_factor_56 ?_
    refine x_put (ws' := [(aN, .inr (9, [.ref aNs, .ref aNk, .int nkp, .ref aNf, .ref aNr, .ref aNp, .ref aNb, .ref aNa, .ref aNt, .int (nI nts), .ref aNbo, .ref aNsz, .ref aNnu, .int (nI nta), .int 0, .int 1, .int ntp, .int (nI p), .int nnw, .int nsn, .int nwn, .ref aNl, .ref aNal, .ref aNlo, .int (nI nac), .ref aNw, .ref aNtr, .ref aNis, .ref aNbg, .ref aNow])), (aNs, .inl (g.2.1 0, 919, .inl (msF gr wk z lk sz br ru ki ma bb ce hd))), (aNt, .inl (g.2.1 0, 60, .inl (nIf tb))), (aNa, .inl (g.2.1 0, 2475, .inl (nIf fcN))), (aNr, .inl (g.2.1 0, 495, .inl (nIf rowB))), (aNb, .inl (g.2.1 0, 4096, .inl (nIf popN)))]) dX9_factor_60 0 15 inX9 tyX9_ok nmX9 fl_X9_135 rfl rfl (by decide) rfl (rfl) rfl (xlt rfl) rfl ?_
    refine x_aload_n dX9_factor_63 rfl ?_
    refine x_dup dX9_factor_64 rfl ?_
    refine x_get dX9_factor_65 0 13 inX9 fl_X9_119 rfl rfl (by decide) rfl ?_
    refine x_aload_n dX9_factor_68 rfl ?_
    refine x_get dX9_factor_69 0 15 inX9 fl_X9_135 rfl rfl (by decide) rfl ?_
    refine x_if_eq dX9_factor_72 (fun c72 => ?_) (fun c72 => ?_)
    · exact absurd c72 (by decide)
    refine x_iconst 0 dX9_factor_75 (by decide) ?_
    refine x_goto dX9_factor_76 ?_
    refine x_iadd dX9_factor_80 ?_
    refine x_rei (nI (nta + 0)) (nI_addc nta 0 rfl) ?_
    refine x_put (ws' := [(aN, .inr (9, [.ref aNs, .ref aNk, .int nkp, .ref aNf, .ref aNr, .ref aNp, .ref aNb, .ref aNa, .ref aNt, .int (nI nts), .ref aNbo, .ref aNsz, .ref aNnu, .int (nI (nta + 0)), .int 0, .int 1, .int ntp, .int (nI p), .int nnw, .int nsn, .int nwn, .ref aNl, .ref aNal, .ref aNlo, .int (nI nac), .ref aNw, .ref aNtr, .ref aNis, .ref aNbg, .ref aNow])), (aNs, .inl (g.2.1 0, 919, .inl (msF gr wk z lk sz br ru ki ma bb ce hd))), (aNt, .inl (g.2.1 0, 60, .inl (nIf tb))), (aNa, .inl (g.2.1 0, 2475, .inl (nIf fcN))), (aNr, .inl (g.2.1 0, 495, .inl (nIf rowB))), (aNb, .inl (g.2.1 0, 4096, .inl (nIf popN)))]) dX9_factor_81 0 13 inX9 tyX9_ok nmX9 fl_X9_119 rfl rfl (by decide) rfl (rfl) rfl (xlt rfl) rfl ?_
    refine x_iload_n dX9_factor_84 rfl ?_
    rw [← hQ]
    refine x_iret dX9_factor_85 rfl (Nat.le_of_ble_eq_true rfl) (Nat.le_of_ble_eq_true rfl) ?_
    first | (rw [frL, facR, if_neg (by first | exact dgW0 hlt c25 | exact dg_no hlt), if_neg (by omega), if_pos hni]; exact ⟨rfl, rfl⟩) | (rw [frL, facR, if_neg (by first | exact dgW0 hlt c25 | exact dg_no hlt), if_neg (by omega), if_neg (by first | exact hni | exact nmIx_no hlt)]; exact ⟨rfl, rfl⟩)

-- == tr_4 ==
set_option maxRecDepth 100000 in
set_option maxHeartbeats 4000000 in
theorem ct_tr_4 (l : Launch) (g : XG) (aN aNs aNk aNf aNr aNp aNb aNa aNt aNbo aNsz aNnu aNl aNal aNlo aNw aNtr aNis aNbg aNow nts nta nac : Nat) (nkp ntp nnw nsn nwn : Int32) (gr wk lk sz br : Nat) (z : Int32) (ru ki ma bb hd : Nat → Nat) (ce : Nat → Int32) (tb b : Nat → Nat) (n L p : Nat) (ht : (ntp = 1 ∧ n = nts ∧ b = tb) ∨ (ntp = 0 ∧ n = sz ∧ b = bb)) (ha : nta ≤ n) (hn : n ≤ 60) (hb : ∀ j, b j < 256) (hp : p < 495) (hwk : wk ≤ 40) (hlat : latI ce wk = nI L) : Ct l g 23 0 0 yX9_term cX9_term 2 (some .int) [.ref aN] [(aN, .inr (9, [.ref aNs, .ref aNk, .int nkp, .ref aNf, .ref aNr, .ref aNp, .ref aNb, .ref aNa, .ref aNt, .int (nI nts), .ref aNbo, .ref aNsz, .ref aNnu, .int (nI nta), .int 0, .int 0, .int ntp, .int (nI p), .int nnw, .int nsn, .int nwn, .ref aNl, .ref aNal, .ref aNlo, .int (nI nac), .ref aNw, .ref aNtr, .ref aNis, .ref aNbg, .ref aNow])), (aNs, .inl (g.2.1 0, 919, .inl (msF gr wk z lk sz br ru ki ma bb ce hd))), (aNt, .inl (g.2.1 0, 60, .inl (nIf tb))), (aNa, .inl (g.2.1 0, 2475, .inl (nIf fcN))), (aNr, .inl (g.2.1 0, 495, .inl (nIf rowB))), (aNb, .inl (g.2.1 0, 4096, .inl (nIf popN)))] (xpi ((trL (hB b n) (nmI wk L p) 4 nta).2.2) [(aN, .inr (9, [.ref aNs, .ref aNk, .int nkp, .ref aNf, .ref aNr, .ref aNp, .ref aNb, .ref aNa, .ref aNt, .int (nI nts), .ref aNbo, .ref aNsz, .ref aNnu, .int (nI ((trL (hB b n) (nmI wk L p) 4 nta).1)), .int 0, .int (bI (trL (hB b n) (nmI wk L p) 4 nta).2.1), .int ntp, .int (nI p), .int nnw, .int nsn, .int nwn, .ref aNl, .ref aNal, .ref aNlo, .int (nI nac), .ref aNw, .ref aNtr, .ref aNis, .ref aNbg, .ref aNow])), (aNs, .inl (g.2.1 0, 919, .inl (msF gr wk z lk sz br ru ki ma bb ce hd))), (aNt, .inl (g.2.1 0, 60, .inl (nIf tb))), (aNa, .inl (g.2.1 0, 2475, .inl (nIf fcN))), (aNr, .inl (g.2.1 0, 495, .inl (nIf rowB))), (aNb, .inl (g.2.1 0, 4096, .inl (nIf popN)))]) := by
  refine Ct.ofX (lv := [some (.ref aN), none]) (by decide) rfl (Nat.le_of_ble_eq_true rfl) (fun κ => ?_)
  generalize hQ : xQ κ g 0 0 _ = Q
  refine x_aload_n dX9_term_0 rfl ?_
  refine x_cVi (ws' := [(aN, .inr (9, [.ref aNs, .ref aNk, .int nkp, .ref aNf, .ref aNr, .ref aNp, .ref aNb, .ref aNa, .ref aNt, .int (nI nts), .ref aNbo, .ref aNsz, .ref aNnu, .int (nI ((frL (hB b n) (nmI wk L p) 4 nta).1)), .int 0, .int (bI (frL (hB b n) (nmI wk L p) 4 nta).2.1), .int ntp, .int (nI p), .int nnw, .int nsn, .int nwn, .ref aNl, .ref aNal, .ref aNlo, .int (nI nac), .ref aNw, .ref aNtr, .ref aNis, .ref aNbg, .ref aNow])), (aNs, .inl (g.2.1 0, 919, .inl (msF gr wk z lk sz br ru ki ma bb ce hd))), (aNt, .inl (g.2.1 0, 60, .inl (nIf tb))), (aNa, .inl (g.2.1 0, 2475, .inl (nIf fcN))), (aNr, .inl (g.2.1 0, 495, .inl (nIf rowB))), (aNb, .inl (g.2.1 0, 4096, .inl (nIf popN)))]) dX9_term_1 ml_X9_167 mX9_factor (ct_fr_4 κ.2.1 g aN aNs aNk aNf aNr aNp aNb aNa aNt aNbo aNsz aNnu aNl aNal aNlo aNw aNtr aNis aNbg aNow nts nta nac nkp ntp nnw nsn nwn gr wk lk sz br z ru ki ma bb hd ce tb b n L p (ht) (by omega) (hn) (hb) (hp) (hwk) (hlat)) [0, 1, 2, 3, 4, 5] rfl rfl 0 rfl rfl rfl (Nat.le_of_ble_eq_true rfl) (by decide) (Nat.le_refl _) (Nat.le_refl _) (rfl : [aN, aNs, aNt, aNa, aNr, aNb] = [aN, aNs, aNt, aNa, aNr, aNb]) rfl ?_
  have hk0 := frL_ok (nv := nmI wk L p) (okH_hB b n) 4 nta ha
  refine x_istore_n (lv' := [some (.ref aN), some (.int ((frL (hB b n) (nmI wk L p) 4 nta).2.2))]) dX9_term_4 (xlt rfl) rfl ?_
  have L5_1 : ∀ (i : Nat), i ≤ 60 → ∀ (qa : Nat), ∀ (qb : Bool), ∀ (qv : Int32), (qa, qb, qv) = itr (tmS (hB b n) (frL (hB b n) (nmI wk L p) 4)) i (frL (hB b n) (nmI wk L p) 4 nta) → qa ≤ n → i ≤ qa → Xs κ g 23 0 0 cX9_term yX9_term (some .int) Q 0 0 5 [some (.ref aN), some (.int qv)] [] [(aN, .inr (9, [.ref aNs, .ref aNk, .int nkp, .ref aNf, .ref aNr, .ref aNp, .ref aNb, .ref aNa, .ref aNt, .int (nI nts), .ref aNbo, .ref aNsz, .ref aNnu, .int (nI qa), .int 0, .int (bI qb), .int ntp, .int (nI p), .int nnw, .int nsn, .int nwn, .ref aNl, .ref aNal, .ref aNlo, .int (nI nac), .ref aNw, .ref aNtr, .ref aNis, .ref aNbg, .ref aNow])), (aNs, .inl (g.2.1 0, 919, .inl (msF gr wk z lk sz br ru ki ma bb ce hd))), (aNt, .inl (g.2.1 0, 60, .inl (nIf tb))), (aNa, .inl (g.2.1 0, 2475, .inl (nIf fcN))), (aNr, .inl (g.2.1 0, 495, .inl (nIf rowB))), (aNb, .inl (g.2.1 0, 4096, .inl (nIf popN)))] := by
    refine upTo 60 (fun i hi5 ih5 => ?_)
    intro qa
    intro qb
    intro qv
    intro hqq hqa hqi
    refine x_aload_n dX9_term_5 rfl ?_
    rcases tk_cases qb (hB b n) qa 42 with ⟨rfl, hq2⟩ | ⟨rfl, hq2⟩ | rfl
    · skip
      refine x_eq (lv' := [some (.ref aN), some (.int qv)]) (st' := [.ref aN]) (ws' := [(aN, .inr (9, [.ref aNs, .ref aNk, .int nkp, .ref aNf, .ref aNr, .ref aNp, .ref aNb, .ref aNa, .ref aNt, .int (nI nts), .ref aNbo, .ref aNsz, .ref aNnu, .int (nI qa), .int 0, .int 0, .int ntp, .int (nI p), .int nnw, .int nsn, .int nwn, .ref aNl, .ref aNal, .ref aNlo, .int (nI nac), .ref aNw, .ref aNtr, .ref aNis, .ref aNbg, .ref aNow])), (aNs, .inl (g.2.1 0, 919, .inl (msF gr wk z lk sz br ru ki ma bb ce hd))), (aNt, .inl (g.2.1 0, 60, .inl (nIf tb))), (aNa, .inl (g.2.1 0, 2475, .inl (nIf fcN))), (aNr, .inl (g.2.1 0, 495, .inl (nIf rowB))), (aNb, .inl (g.2.1 0, 4096, .inl (nIf popN)))]) ?_ rfl rfl rfl
      refine x_bipush 42 dX9_term_6 (by decide) ?_
      refine x_cVi (ws' := [(aN, .inr (9, [.ref aNs, .ref aNk, .int nkp, .ref aNf, .ref aNr, .ref aNp, .ref aNb, .ref aNa, .ref aNt, .int (nI nts), .ref aNbo, .ref aNsz, .ref aNnu, .int (nI (qa + 1)), .int 0, .int 0, .int ntp, .int (nI p), .int nnw, .int nsn, .int nwn, .ref aNl, .ref aNal, .ref aNlo, .int (nI nac), .ref aNw, .ref aNtr, .ref aNis, .ref aNbg, .ref aNow])), (aNs, .inl (g.2.1 0, 919, .inl (msF gr wk z lk sz br ru ki ma bb ce hd))), (aNt, .inl (g.2.1 0, 60, .inl (nIf tb))), (aNa, .inl (g.2.1 0, 2475, .inl (nIf fcN))), (aNr, .inl (g.2.1 0, 495, .inl (nIf rowB))), (aNb, .inl (g.2.1 0, 4096, .inl (nIf popN)))]) dX9_term_8 ml_X9_141 mX9_takes (ct_takes_y κ.2.1 g aN aNs aNk aNf aNr aNp aNb aNa aNt aNbo aNsz aNnu aNl aNal aNlo aNw aNtr aNis aNbg aNow nts qa 0 p nac nkp ntp nnw nsn nwn gr wk lk sz br z ru ki ma bb hd ce tb b n 42 (ht) (by omega) (hn) (hb) (by decide) (hq2)) [0, 1, 2] rfl rfl 0 rfl rfl rfl (Nat.le_of_ble_eq_true rfl) (by decide) (Nat.le_refl _) (Nat.le_refl _) (rfl : [aN, aNs, aNt] = [aN, aNs, aNt]) rfl ?_
      refine x_if_eq dX9_term_11 (fun c11 => ?_) (fun c11 => ?_)
      · exact absurd c11 (by decide)
      refine x_iload_n dX9_term_14 rfl ?_
      have hav := adv_le (okH_hB b n) hq2 (by decide)
      refine x_aload_n dX9_term_15 rfl ?_
      refine x_cVi (ws' := [(aN, .inr (9, [.ref aNs, .ref aNk, .int nkp, .ref aNf, .ref aNr, .ref aNp, .ref aNb, .ref aNa, .ref aNt, .int (nI nts), .ref aNbo, .ref aNsz, .ref aNnu, .int (nI ((frL (hB b n) (nmI wk L p) 4 (qa + 1)).1)), .int 0, .int (bI (frL (hB b n) (nmI wk L p) 4 (qa + 1)).2.1), .int ntp, .int (nI p), .int nnw, .int nsn, .int nwn, .ref aNl, .ref aNal, .ref aNlo, .int (nI nac), .ref aNw, .ref aNtr, .ref aNis, .ref aNbg, .ref aNow])), (aNs, .inl (g.2.1 0, 919, .inl (msF gr wk z lk sz br ru ki ma bb ce hd))), (aNt, .inl (g.2.1 0, 60, .inl (nIf tb))), (aNa, .inl (g.2.1 0, 2475, .inl (nIf fcN))), (aNr, .inl (g.2.1 0, 495, .inl (nIf rowB))), (aNb, .inl (g.2.1 0, 4096, .inl (nIf popN)))]) dX9_term_16 ml_X9_167 mX9_factor (ct_fr_4 κ.2.1 g aN aNs aNk aNf aNr aNp aNb aNa aNt aNbo aNsz aNnu aNl aNal aNlo aNw aNtr aNis aNbg aNow nts (qa + 1) nac nkp ntp nnw nsn nwn gr wk lk sz br z ru ki ma bb hd ce tb b n L p (ht) (by omega) (hn) (hb) (hp) (hwk) (hlat)) [0, 1, 2, 3, 4, 5] rfl rfl 0 rfl rfl rfl (Nat.le_of_ble_eq_true rfl) (by decide) (Nat.le_refl _) (Nat.le_refl _) (rfl : [aN, aNs, aNt, aNa, aNr, aNb] = [aN, aNs, aNt, aNa, aNr, aNb]) rfl ?_
      have hk := frL_ok (nv := nmI wk L p) (okH_hB b n) 4 (qa + 1) hav
      refine x_imul dX9_term_19 ?_
      refine x_istore_n (lv' := [some (.ref aN), some (.int (qv * ((frL (hB b n) (nmI wk L p) 4 (qa + 1)).2.2)))]) dX9_term_20 (xlt rfl) rfl ?_
      refine x_goto dX9_term_21 ?_
      exact ih5 (by omega) ((frL (hB b n) (nmI wk L p) 4 (qa + 1)).1) ((frL (hB b n) (nmI wk L p) 4 (qa + 1)).2.1) _ (by rw [itr, ← hqq]; simp only [tmS, hq2]; rfl) (hk.2) (by have := hk.1; omega)
    · skip
      refine x_eq (lv' := [some (.ref aN), some (.int qv)]) (st' := [.ref aN]) (ws' := [(aN, .inr (9, [.ref aNs, .ref aNk, .int nkp, .ref aNf, .ref aNr, .ref aNp, .ref aNb, .ref aNa, .ref aNt, .int (nI nts), .ref aNbo, .ref aNsz, .ref aNnu, .int (nI qa), .int 0, .int 0, .int ntp, .int (nI p), .int nnw, .int nsn, .int nwn, .ref aNl, .ref aNal, .ref aNlo, .int (nI nac), .ref aNw, .ref aNtr, .ref aNis, .ref aNbg, .ref aNow])), (aNs, .inl (g.2.1 0, 919, .inl (msF gr wk z lk sz br ru ki ma bb ce hd))), (aNt, .inl (g.2.1 0, 60, .inl (nIf tb))), (aNa, .inl (g.2.1 0, 2475, .inl (nIf fcN))), (aNr, .inl (g.2.1 0, 495, .inl (nIf rowB))), (aNb, .inl (g.2.1 0, 4096, .inl (nIf popN)))]) ?_ rfl rfl rfl
      refine x_bipush 42 dX9_term_6 (by decide) ?_
      refine x_cVi0 dX9_term_8 ml_X9_141 mX9_takes (ct_takes_n κ.2.1 g aN aNs aNk aNf aNr aNp aNb aNa aNt aNbo aNsz aNnu aNl aNal aNlo aNw aNtr aNis aNbg aNow nts qa 0 p nac nkp ntp nnw nsn nwn gr wk lk sz br z ru ki ma bb hd ce tb b n 42 (ht) (by omega) (hn) (hb) (by decide) (hq2)) [0, 1, 2] rfl rfl 0 rfl rfl rfl (Nat.le_of_ble_eq_true rfl) (by decide) (Nat.le_refl _) (Nat.le_refl _) ?_
      refine x_if_eq dX9_term_11 (fun c11 => ?_) (fun c11 => ?_)
      rotate_left
      · exact absurd c11 (by decide)
      refine x_iload_n dX9_term_24 rfl ?_
      rw [← hQ]
      refine x_iret dX9_term_25 rfl (Nat.le_of_ble_eq_true rfl) (Nat.le_of_ble_eq_true rfl) ?_
      first | (rw [show trL (hB b n) (nmI wk L p) 4 nta = (qa, true, qv) from itr_fix hqq rfl hi5]; exact ⟨rfl, rfl⟩) | (rw [show trL (hB b n) (nmI wk L p) 4 nta = (qa, false, qv) from itr_fix hqq (by simp [tmS, hq2]) hi5]; exact ⟨rfl, rfl⟩)
    · skip
      refine x_eq (lv' := [some (.ref aN), some (.int qv)]) (st' := [.ref aN]) (ws' := [(aN, .inr (9, [.ref aNs, .ref aNk, .int nkp, .ref aNf, .ref aNr, .ref aNp, .ref aNb, .ref aNa, .ref aNt, .int (nI nts), .ref aNbo, .ref aNsz, .ref aNnu, .int (nI qa), .int 0, .int 1, .int ntp, .int (nI p), .int nnw, .int nsn, .int nwn, .ref aNl, .ref aNal, .ref aNlo, .int (nI nac), .ref aNw, .ref aNtr, .ref aNis, .ref aNbg, .ref aNow])), (aNs, .inl (g.2.1 0, 919, .inl (msF gr wk z lk sz br ru ki ma bb ce hd))), (aNt, .inl (g.2.1 0, 60, .inl (nIf tb))), (aNa, .inl (g.2.1 0, 2475, .inl (nIf fcN))), (aNr, .inl (g.2.1 0, 495, .inl (nIf rowB))), (aNb, .inl (g.2.1 0, 4096, .inl (nIf popN)))]) ?_ rfl rfl rfl
      refine x_bipush 42 dX9_term_6 (by decide) ?_
      refine x_cVi0 dX9_term_8 ml_X9_141 mX9_takes (ct_takes_b κ.2.1 g aN aNs aNk aNf aNr aNp aNb aNa aNt aNbo aNsz aNnu aNl aNal aNlo aNw aNtr aNis aNbg aNow nts qa 0 p nac nkp ntp nnw nsn nwn gr wk lk sz br z ru ki ma bb hd ce tb 42) [0, 1, 2] rfl rfl 0 rfl rfl rfl (Nat.le_of_ble_eq_true rfl) (by decide) (Nat.le_refl _) (Nat.le_refl _) ?_
      refine x_if_eq dX9_term_11 (fun c11 => ?_) (fun c11 => ?_)
      rotate_left
      · exact absurd c11 (by decide)
      refine x_iload_n dX9_term_24 rfl ?_
      rw [← hQ]
      refine x_iret dX9_term_25 rfl (Nat.le_of_ble_eq_true rfl) (Nat.le_of_ble_eq_true rfl) ?_
      first | (rw [show trL (hB b n) (nmI wk L p) 4 nta = (qa, true, qv) from itr_fix hqq rfl hi5]; exact ⟨rfl, rfl⟩) | (rw [show trL (hB b n) (nmI wk L p) 4 nta = (qa, false, qv) from itr_fix hqq (by simp [tmS, hq2]) hi5]; exact ⟨rfl, rfl⟩)
  exact L5_1 0 (Nat.zero_le _) ((frL (hB b n) (nmI wk L p) 4 nta).1) ((frL (hB b n) (nmI wk L p) 4 nta).2.1) _ (rfl) (hk0.2) (Nat.zero_le _)

-- == sr_4 ==
set_option maxRecDepth 100000 in
set_option maxHeartbeats 4000000 in
theorem ct_sr_4 (l : Launch) (g : XG) (aN aNs aNk aNf aNr aNp aNb aNa aNt aNbo aNsz aNnu aNl aNal aNlo aNw aNtr aNis aNbg aNow nts nta nac : Nat) (nkp ntp nnw nsn nwn : Int32) (gr wk lk sz br : Nat) (z : Int32) (ru ki ma bb hd : Nat → Nat) (ce : Nat → Int32) (tb b : Nat → Nat) (n L p : Nat) (ht : (ntp = 1 ∧ n = nts ∧ b = tb) ∨ (ntp = 0 ∧ n = sz ∧ b = bb)) (ha : nta ≤ n) (hn : n ≤ 60) (hb : ∀ j, b j < 256) (hp : p < 495) (hwk : wk ≤ 40) (hlat : latI ce wk = nI L) : Ct l g 24 0 0 yX9_sum cX9_sum 5 (some .int) [.ref aN] [(aN, .inr (9, [.ref aNs, .ref aNk, .int nkp, .ref aNf, .ref aNr, .ref aNp, .ref aNb, .ref aNa, .ref aNt, .int (nI nts), .ref aNbo, .ref aNsz, .ref aNnu, .int (nI nta), .int 0, .int 0, .int ntp, .int (nI p), .int nnw, .int nsn, .int nwn, .ref aNl, .ref aNal, .ref aNlo, .int (nI nac), .ref aNw, .ref aNtr, .ref aNis, .ref aNbg, .ref aNow])), (aNs, .inl (g.2.1 0, 919, .inl (msF gr wk z lk sz br ru ki ma bb ce hd))), (aNt, .inl (g.2.1 0, 60, .inl (nIf tb))), (aNa, .inl (g.2.1 0, 2475, .inl (nIf fcN))), (aNr, .inl (g.2.1 0, 495, .inl (nIf rowB))), (aNb, .inl (g.2.1 0, 4096, .inl (nIf popN)))] (xpi ((srL (hB b n) (nmI wk L p) 4 nta).2.2) [(aN, .inr (9, [.ref aNs, .ref aNk, .int nkp, .ref aNf, .ref aNr, .ref aNp, .ref aNb, .ref aNa, .ref aNt, .int (nI nts), .ref aNbo, .ref aNsz, .ref aNnu, .int (nI ((srL (hB b n) (nmI wk L p) 4 nta).1)), .int 0, .int (bI (srL (hB b n) (nmI wk L p) 4 nta).2.1), .int ntp, .int (nI p), .int nnw, .int nsn, .int nwn, .ref aNl, .ref aNal, .ref aNlo, .int (nI nac), .ref aNw, .ref aNtr, .ref aNis, .ref aNbg, .ref aNow])), (aNs, .inl (g.2.1 0, 919, .inl (msF gr wk z lk sz br ru ki ma bb ce hd))), (aNt, .inl (g.2.1 0, 60, .inl (nIf tb))), (aNa, .inl (g.2.1 0, 2475, .inl (nIf fcN))), (aNr, .inl (g.2.1 0, 495, .inl (nIf rowB))), (aNb, .inl (g.2.1 0, 4096, .inl (nIf popN)))]) := by
  refine Ct.ofX (lv := [some (.ref aN), none, none, none, none]) (by decide) rfl (Nat.le_of_ble_eq_true rfl) (fun κ => ?_)
  generalize hQ : xQ κ g 0 0 _ = Q
  refine x_aload_n dX9_sum_0 rfl ?_
  refine x_cVi (ws' := [(aN, .inr (9, [.ref aNs, .ref aNk, .int nkp, .ref aNf, .ref aNr, .ref aNp, .ref aNb, .ref aNa, .ref aNt, .int (nI nts), .ref aNbo, .ref aNsz, .ref aNnu, .int (nI ((trL (hB b n) (nmI wk L p) 4 nta).1)), .int 0, .int (bI (trL (hB b n) (nmI wk L p) 4 nta).2.1), .int ntp, .int (nI p), .int nnw, .int nsn, .int nwn, .ref aNl, .ref aNal, .ref aNlo, .int (nI nac), .ref aNw, .ref aNtr, .ref aNis, .ref aNbg, .ref aNow])), (aNs, .inl (g.2.1 0, 919, .inl (msF gr wk z lk sz br ru ki ma bb ce hd))), (aNt, .inl (g.2.1 0, 60, .inl (nIf tb))), (aNa, .inl (g.2.1 0, 2475, .inl (nIf fcN))), (aNr, .inl (g.2.1 0, 495, .inl (nIf rowB))), (aNb, .inl (g.2.1 0, 4096, .inl (nIf popN)))]) dX9_sum_1 ml_X9_170 mX9_term (ct_tr_4 κ.2.1 g aN aNs aNk aNf aNr aNp aNb aNa aNt aNbo aNsz aNnu aNl aNal aNlo aNw aNtr aNis aNbg aNow nts nta nac nkp ntp nnw nsn nwn gr wk lk sz br z ru ki ma bb hd ce tb b n L p (ht) (by omega) (hn) (hb) (hp) (hwk) (hlat)) [0, 1, 2, 3, 4, 5] rfl rfl 0 rfl rfl rfl (Nat.le_of_ble_eq_true rfl) (by decide) (Nat.le_refl _) (Nat.le_refl _) (rfl : [aN, aNs, aNt, aNa, aNr, aNb] = [aN, aNs, aNt, aNa, aNr, aNb]) rfl ?_
  have hk0 := trL_ok (nv := nmI wk L p) (okH_hB b n) 4 nta ha
  refine x_istore_n (lv' := [some (.ref aN), some (.int ((trL (hB b n) (nmI wk L p) 4 nta).2.2)), none, none, none]) dX9_sum_4 (xlt rfl) rfl ?_
  refine x_iconst 1 dX9_sum_5 (by decide) ?_
  refine x_istore_n (lv' := [some (.ref aN), some (.int ((trL (hB b n) (nmI wk L p) 4 nta).2.2)), some (.int 1), none, none]) dX9_sum_6 (xlt rfl) rfl ?_
  have L7_1 : ∀ (i : Nat), i ≤ 60 → ∀ (qa : Nat), ∀ (qb : Bool), ∀ (qv : Int32), (qa, qb, qv) = itr (snS (hB b n) (trL (hB b n) (nmI wk L p) 4)) i (trL (hB b n) (nmI wk L p) 4 nta) → qa ≤ n → i ≤ qa → Xs κ g 24 0 0 cX9_sum yX9_sum (some .int) Q 0 0 7 [some (.ref aN), some (.int qv), some (.int 1), none, none] [] [(aN, .inr (9, [.ref aNs, .ref aNk, .int nkp, .ref aNf, .ref aNr, .ref aNp, .ref aNb, .ref aNa, .ref aNt, .int (nI nts), .ref aNbo, .ref aNsz, .ref aNnu, .int (nI qa), .int 0, .int (bI qb), .int ntp, .int (nI p), .int nnw, .int nsn, .int nwn, .ref aNl, .ref aNal, .ref aNlo, .int (nI nac), .ref aNw, .ref aNtr, .ref aNis, .ref aNbg, .ref aNow])), (aNs, .inl (g.2.1 0, 919, .inl (msF gr wk z lk sz br ru ki ma bb ce hd))), (aNt, .inl (g.2.1 0, 60, .inl (nIf tb))), (aNa, .inl (g.2.1 0, 2475, .inl (nIf fcN))), (aNr, .inl (g.2.1 0, 495, .inl (nIf rowB))), (aNb, .inl (g.2.1 0, 4096, .inl (nIf popN)))] := by
    refine upTo 60 (fun i hi7 ih7 => ?_)
    intro qa
    intro qb
    intro qv
    intro hqq hqa hqi
    refine x_iload_n dX9_sum_7 rfl ?_
    refine x_if_eq dX9_sum_8 (fun c8 => ?_) (fun c8 => ?_)
    · exact absurd c8 (by decide)
    rcases sm_cases qb (hB b n) qa with ⟨rfl, hq2⟩ | ⟨rfl, hq2, hq3⟩ | ⟨rfl, hq2, hq3⟩ | rfl
    · skip
      refine x_eq (lv' := [some (.ref aN), some (.int qv), some (.int 1), none, none]) (st' := []) (ws' := [(aN, .inr (9, [.ref aNs, .ref aNk, .int nkp, .ref aNf, .ref aNr, .ref aNp, .ref aNb, .ref aNa, .ref aNt, .int (nI nts), .ref aNbo, .ref aNsz, .ref aNnu, .int (nI qa), .int 0, .int 0, .int ntp, .int (nI p), .int nnw, .int nsn, .int nwn, .ref aNl, .ref aNal, .ref aNlo, .int (nI nac), .ref aNw, .ref aNtr, .ref aNis, .ref aNbg, .ref aNow])), (aNs, .inl (g.2.1 0, 919, .inl (msF gr wk z lk sz br ru ki ma bb ce hd))), (aNt, .inl (g.2.1 0, 60, .inl (nIf tb))), (aNa, .inl (g.2.1 0, 2475, .inl (nIf fcN))), (aNr, .inl (g.2.1 0, 495, .inl (nIf rowB))), (aNb, .inl (g.2.1 0, 4096, .inl (nIf popN)))]) ?_ rfl rfl rfl
      refine x_aload_n dX9_sum_11 rfl ?_
      refine x_bipush 43 dX9_sum_12 (by decide) ?_
      refine x_cVi (ws' := [(aN, .inr (9, [.ref aNs, .ref aNk, .int nkp, .ref aNf, .ref aNr, .ref aNp, .ref aNb, .ref aNa, .ref aNt, .int (nI nts), .ref aNbo, .ref aNsz, .ref aNnu, .int (nI (qa + 1)), .int 0, .int 0, .int ntp, .int (nI p), .int nnw, .int nsn, .int nwn, .ref aNl, .ref aNal, .ref aNlo, .int (nI nac), .ref aNw, .ref aNtr, .ref aNis, .ref aNbg, .ref aNow])), (aNs, .inl (g.2.1 0, 919, .inl (msF gr wk z lk sz br ru ki ma bb ce hd))), (aNt, .inl (g.2.1 0, 60, .inl (nIf tb))), (aNa, .inl (g.2.1 0, 2475, .inl (nIf fcN))), (aNr, .inl (g.2.1 0, 495, .inl (nIf rowB))), (aNb, .inl (g.2.1 0, 4096, .inl (nIf popN)))]) dX9_sum_14 ml_X9_141 mX9_takes (ct_takes_y κ.2.1 g aN aNs aNk aNf aNr aNp aNb aNa aNt aNbo aNsz aNnu aNl aNal aNlo aNw aNtr aNis aNbg aNow nts qa 0 p nac nkp ntp nnw nsn nwn gr wk lk sz br z ru ki ma bb hd ce tb b n 43 (ht) (by omega) (hn) (hb) (by decide) (hq2)) [0, 1, 2] rfl rfl 0 rfl rfl rfl (Nat.le_of_ble_eq_true rfl) (by decide) (Nat.le_refl _) (Nat.le_refl _) (rfl : [aN, aNs, aNt] = [aN, aNs, aNt]) rfl ?_
      refine x_istore_n (lv' := [some (.ref aN), some (.int qv), some (.int 1), some (.int 1), none]) dX9_sum_17 (xlt rfl) rfl ?_
      refine x_iload_n dX9_sum_18 rfl ?_
      refine x_if_ne dX9_sum_19 (fun c19 => ?_) (fun c19 => ?_)
      rotate_left
      · exact absurd c19 (by decide)
      refine x_iconst 1 dX9_sum_31 (by decide) ?_
      refine x_goto dX9_sum_32 ?_
      refine x_istore_n (lv' := [some (.ref aN), some (.int qv), some (.int 1), some (.int 1), none]) dX9_sum_36 (xlt rfl) rfl ?_
      refine x_iload_n dX9_sum_37 rfl ?_
      refine x_if_eq dX9_sum_38 (fun c38 => ?_) (fun c38 => ?_)
      · exact absurd c38 (by decide)
      have hav : qa + 1 ≤ n := by first | exact adv_le (okH_hB b n) hq2 (by decide) | exact adv_le (okH_hB b n) hq3 (by decide)
      refine x_aload_n dX9_sum_41 rfl ?_
      refine x_cVi (ws' := [(aN, .inr (9, [.ref aNs, .ref aNk, .int nkp, .ref aNf, .ref aNr, .ref aNp, .ref aNb, .ref aNa, .ref aNt, .int (nI nts), .ref aNbo, .ref aNsz, .ref aNnu, .int (nI ((trL (hB b n) (nmI wk L p) 4 (qa + 1)).1)), .int 0, .int (bI (trL (hB b n) (nmI wk L p) 4 (qa + 1)).2.1), .int ntp, .int (nI p), .int nnw, .int nsn, .int nwn, .ref aNl, .ref aNal, .ref aNlo, .int (nI nac), .ref aNw, .ref aNtr, .ref aNis, .ref aNbg, .ref aNow])), (aNs, .inl (g.2.1 0, 919, .inl (msF gr wk z lk sz br ru ki ma bb ce hd))), (aNt, .inl (g.2.1 0, 60, .inl (nIf tb))), (aNa, .inl (g.2.1 0, 2475, .inl (nIf fcN))), (aNr, .inl (g.2.1 0, 495, .inl (nIf rowB))), (aNb, .inl (g.2.1 0, 4096, .inl (nIf popN)))]) dX9_sum_42 ml_X9_170 mX9_term (ct_tr_4 κ.2.1 g aN aNs aNk aNf aNr aNp aNb aNa aNt aNbo aNsz aNnu aNl aNal aNlo aNw aNtr aNis aNbg aNow nts (qa + 1) nac nkp ntp nnw nsn nwn gr wk lk sz br z ru ki ma bb hd ce tb b n L p (ht) (by omega) (hn) (hb) (hp) (hwk) (hlat)) [0, 1, 2, 3, 4, 5] rfl rfl 0 rfl rfl rfl (Nat.le_of_ble_eq_true rfl) (by decide) (Nat.le_refl _) (Nat.le_refl _) (rfl : [aN, aNs, aNt, aNa, aNr, aNb] = [aN, aNs, aNt, aNa, aNr, aNb]) rfl ?_
      have hk := trL_ok (nv := nmI wk L p) (okH_hB b n) 4 (qa + 1) hav
      refine x_istore (lv' := [some (.ref aN), some (.int qv), some (.int 1), some (.int 1), some (.int ((trL (hB b n) (nmI wk L p) 4 (qa + 1)).2.2))]) dX9_sum_45 (xlt rfl) rfl ?_
      refine x_iload_n dX9_sum_47 rfl ?_
      refine x_if_eq dX9_sum_48 (fun c48 => ?_) (fun c48 => ?_)
      · exact absurd c48 (by decide)
      refine x_iload_n dX9_sum_51 rfl ?_
      refine x_iload dX9_sum_52 rfl ?_
      refine x_iadd dX9_sum_54 ?_
      refine x_goto dX9_sum_55 ?_
      refine x_istore_n (lv' := [some (.ref aN), some (.int (qv + ((trL (hB b n) (nmI wk L p) 4 (qa + 1)).2.2))), some (.int 1), some (.int 1), some (.int ((trL (hB b n) (nmI wk L p) 4 (qa + 1)).2.2))]) dX9_sum_62 (xlt rfl) rfl ?_
      refine x_goto dX9_sum_63 ?_
      refine x_fgt (lv' := [some (.ref aN), some (.int (qv + ((trL (hB b n) (nmI wk L p) 4 (qa + 1)).2.2))), some (.int 1), none, none]) ⟨Or.inr rfl, Or.inr rfl, Or.inr rfl, Or.inl rfl, Or.inl rfl, trivial⟩ ?_
      exact ih7 (by omega) ((trL (hB b n) (nmI wk L p) 4 (qa + 1)).1) ((trL (hB b n) (nmI wk L p) 4 (qa + 1)).2.1) _ (by rw [itr, ← hqq]; simp only [snS, hq2]; rfl) (hk.2) (by have := hk.1; omega)
    · skip
      refine x_eq (lv' := [some (.ref aN), some (.int qv), some (.int 1), none, none]) (st' := []) (ws' := [(aN, .inr (9, [.ref aNs, .ref aNk, .int nkp, .ref aNf, .ref aNr, .ref aNp, .ref aNb, .ref aNa, .ref aNt, .int (nI nts), .ref aNbo, .ref aNsz, .ref aNnu, .int (nI qa), .int 0, .int 0, .int ntp, .int (nI p), .int nnw, .int nsn, .int nwn, .ref aNl, .ref aNal, .ref aNlo, .int (nI nac), .ref aNw, .ref aNtr, .ref aNis, .ref aNbg, .ref aNow])), (aNs, .inl (g.2.1 0, 919, .inl (msF gr wk z lk sz br ru ki ma bb ce hd))), (aNt, .inl (g.2.1 0, 60, .inl (nIf tb))), (aNa, .inl (g.2.1 0, 2475, .inl (nIf fcN))), (aNr, .inl (g.2.1 0, 495, .inl (nIf rowB))), (aNb, .inl (g.2.1 0, 4096, .inl (nIf popN)))]) ?_ rfl rfl rfl
      refine x_aload_n dX9_sum_11 rfl ?_
      refine x_bipush 43 dX9_sum_12 (by decide) ?_
      refine x_cVi0 dX9_sum_14 ml_X9_141 mX9_takes (ct_takes_n κ.2.1 g aN aNs aNk aNf aNr aNp aNb aNa aNt aNbo aNsz aNnu aNl aNal aNlo aNw aNtr aNis aNbg aNow nts qa 0 p nac nkp ntp nnw nsn nwn gr wk lk sz br z ru ki ma bb hd ce tb b n 43 (ht) (by omega) (hn) (hb) (by decide) (hq2)) [0, 1, 2] rfl rfl 0 rfl rfl rfl (Nat.le_of_ble_eq_true rfl) (by decide) (Nat.le_refl _) (Nat.le_refl _) ?_
      refine x_istore_n (lv' := [some (.ref aN), some (.int qv), some (.int 1), some (.int 0), none]) dX9_sum_17 (xlt rfl) rfl ?_
      refine x_iload_n dX9_sum_18 rfl ?_
      refine x_if_ne dX9_sum_19 (fun c19 => ?_) (fun c19 => ?_)
      · exact absurd c19 (by decide)
      refine x_aload_n dX9_sum_22 rfl ?_
      refine x_bipush 45 dX9_sum_23 (by decide) ?_
      refine x_cVi (ws' := [(aN, .inr (9, [.ref aNs, .ref aNk, .int nkp, .ref aNf, .ref aNr, .ref aNp, .ref aNb, .ref aNa, .ref aNt, .int (nI nts), .ref aNbo, .ref aNsz, .ref aNnu, .int (nI (qa + 1)), .int 0, .int 0, .int ntp, .int (nI p), .int nnw, .int nsn, .int nwn, .ref aNl, .ref aNal, .ref aNlo, .int (nI nac), .ref aNw, .ref aNtr, .ref aNis, .ref aNbg, .ref aNow])), (aNs, .inl (g.2.1 0, 919, .inl (msF gr wk z lk sz br ru ki ma bb ce hd))), (aNt, .inl (g.2.1 0, 60, .inl (nIf tb))), (aNa, .inl (g.2.1 0, 2475, .inl (nIf fcN))), (aNr, .inl (g.2.1 0, 495, .inl (nIf rowB))), (aNb, .inl (g.2.1 0, 4096, .inl (nIf popN)))]) dX9_sum_25 ml_X9_141 mX9_takes (ct_takes_y κ.2.1 g aN aNs aNk aNf aNr aNp aNb aNa aNt aNbo aNsz aNnu aNl aNal aNlo aNw aNtr aNis aNbg aNow nts qa 0 p nac nkp ntp nnw nsn nwn gr wk lk sz br z ru ki ma bb hd ce tb b n 45 (ht) (by omega) (hn) (hb) (by decide) (hq3)) [0, 1, 2] rfl rfl 0 rfl rfl rfl (Nat.le_of_ble_eq_true rfl) (by decide) (Nat.le_refl _) (Nat.le_refl _) (rfl : [aN, aNs, aNt] = [aN, aNs, aNt]) rfl ?_
      refine x_if_eq dX9_sum_28 (fun c28 => ?_) (fun c28 => ?_)
      · exact absurd c28 (by decide)
      refine x_iconst 1 dX9_sum_31 (by decide) ?_
      refine x_goto dX9_sum_32 ?_
      refine x_istore_n (lv' := [some (.ref aN), some (.int qv), some (.int 1), some (.int 0), none]) dX9_sum_36 (xlt rfl) rfl ?_
      refine x_iload_n dX9_sum_37 rfl ?_
      refine x_if_eq dX9_sum_38 (fun c38 => ?_) (fun c38 => ?_)
      · exact absurd c38 (by decide)
      have hav : qa + 1 ≤ n := by first | exact adv_le (okH_hB b n) hq2 (by decide) | exact adv_le (okH_hB b n) hq3 (by decide)
      refine x_aload_n dX9_sum_41 rfl ?_
      refine x_cVi (ws' := [(aN, .inr (9, [.ref aNs, .ref aNk, .int nkp, .ref aNf, .ref aNr, .ref aNp, .ref aNb, .ref aNa, .ref aNt, .int (nI nts), .ref aNbo, .ref aNsz, .ref aNnu, .int (nI ((trL (hB b n) (nmI wk L p) 4 (qa + 1)).1)), .int 0, .int (bI (trL (hB b n) (nmI wk L p) 4 (qa + 1)).2.1), .int ntp, .int (nI p), .int nnw, .int nsn, .int nwn, .ref aNl, .ref aNal, .ref aNlo, .int (nI nac), .ref aNw, .ref aNtr, .ref aNis, .ref aNbg, .ref aNow])), (aNs, .inl (g.2.1 0, 919, .inl (msF gr wk z lk sz br ru ki ma bb ce hd))), (aNt, .inl (g.2.1 0, 60, .inl (nIf tb))), (aNa, .inl (g.2.1 0, 2475, .inl (nIf fcN))), (aNr, .inl (g.2.1 0, 495, .inl (nIf rowB))), (aNb, .inl (g.2.1 0, 4096, .inl (nIf popN)))]) dX9_sum_42 ml_X9_170 mX9_term (ct_tr_4 κ.2.1 g aN aNs aNk aNf aNr aNp aNb aNa aNt aNbo aNsz aNnu aNl aNal aNlo aNw aNtr aNis aNbg aNow nts (qa + 1) nac nkp ntp nnw nsn nwn gr wk lk sz br z ru ki ma bb hd ce tb b n L p (ht) (by omega) (hn) (hb) (hp) (hwk) (hlat)) [0, 1, 2, 3, 4, 5] rfl rfl 0 rfl rfl rfl (Nat.le_of_ble_eq_true rfl) (by decide) (Nat.le_refl _) (Nat.le_refl _) (rfl : [aN, aNs, aNt, aNa, aNr, aNb] = [aN, aNs, aNt, aNa, aNr, aNb]) rfl ?_
      have hk := trL_ok (nv := nmI wk L p) (okH_hB b n) 4 (qa + 1) hav
      refine x_istore (lv' := [some (.ref aN), some (.int qv), some (.int 1), some (.int 0), some (.int ((trL (hB b n) (nmI wk L p) 4 (qa + 1)).2.2))]) dX9_sum_45 (xlt rfl) rfl ?_
      refine x_iload_n dX9_sum_47 rfl ?_
      refine x_if_eq dX9_sum_48 (fun c48 => ?_) (fun c48 => ?_)
      rotate_left
      · exact absurd c48 (by decide)
      refine x_iload_n dX9_sum_58 rfl ?_
      refine x_iload dX9_sum_59 rfl ?_
      refine x_isub dX9_sum_61 ?_
      refine x_istore_n (lv' := [some (.ref aN), some (.int (qv - ((trL (hB b n) (nmI wk L p) 4 (qa + 1)).2.2))), some (.int 1), some (.int 0), some (.int ((trL (hB b n) (nmI wk L p) 4 (qa + 1)).2.2))]) dX9_sum_62 (xlt rfl) rfl ?_
      refine x_goto dX9_sum_63 ?_
      refine x_fgt (lv' := [some (.ref aN), some (.int (qv - ((trL (hB b n) (nmI wk L p) 4 (qa + 1)).2.2))), some (.int 1), none, none]) ⟨Or.inr rfl, Or.inr rfl, Or.inr rfl, Or.inl rfl, Or.inl rfl, trivial⟩ ?_
      exact ih7 (by omega) ((trL (hB b n) (nmI wk L p) 4 (qa + 1)).1) ((trL (hB b n) (nmI wk L p) 4 (qa + 1)).2.1) _ (by rw [itr, ← hqq]; simp only [snS, hq2, hq3]; rfl) (hk.2) (by have := hk.1; omega)
    · skip
      refine x_eq (lv' := [some (.ref aN), some (.int qv), some (.int 1), none, none]) (st' := []) (ws' := [(aN, .inr (9, [.ref aNs, .ref aNk, .int nkp, .ref aNf, .ref aNr, .ref aNp, .ref aNb, .ref aNa, .ref aNt, .int (nI nts), .ref aNbo, .ref aNsz, .ref aNnu, .int (nI qa), .int 0, .int 0, .int ntp, .int (nI p), .int nnw, .int nsn, .int nwn, .ref aNl, .ref aNal, .ref aNlo, .int (nI nac), .ref aNw, .ref aNtr, .ref aNis, .ref aNbg, .ref aNow])), (aNs, .inl (g.2.1 0, 919, .inl (msF gr wk z lk sz br ru ki ma bb ce hd))), (aNt, .inl (g.2.1 0, 60, .inl (nIf tb))), (aNa, .inl (g.2.1 0, 2475, .inl (nIf fcN))), (aNr, .inl (g.2.1 0, 495, .inl (nIf rowB))), (aNb, .inl (g.2.1 0, 4096, .inl (nIf popN)))]) ?_ rfl rfl rfl
      refine x_aload_n dX9_sum_11 rfl ?_
      refine x_bipush 43 dX9_sum_12 (by decide) ?_
      refine x_cVi0 dX9_sum_14 ml_X9_141 mX9_takes (ct_takes_n κ.2.1 g aN aNs aNk aNf aNr aNp aNb aNa aNt aNbo aNsz aNnu aNl aNal aNlo aNw aNtr aNis aNbg aNow nts qa 0 p nac nkp ntp nnw nsn nwn gr wk lk sz br z ru ki ma bb hd ce tb b n 43 (ht) (by omega) (hn) (hb) (by decide) (hq2)) [0, 1, 2] rfl rfl 0 rfl rfl rfl (Nat.le_of_ble_eq_true rfl) (by decide) (Nat.le_refl _) (Nat.le_refl _) ?_
      refine x_istore_n (lv' := [some (.ref aN), some (.int qv), some (.int 1), some (.int 0), none]) dX9_sum_17 (xlt rfl) rfl ?_
      refine x_iload_n dX9_sum_18 rfl ?_
      refine x_if_ne dX9_sum_19 (fun c19 => ?_) (fun c19 => ?_)
      · exact absurd c19 (by decide)
      refine x_aload_n dX9_sum_22 rfl ?_
      refine x_bipush 45 dX9_sum_23 (by decide) ?_
      refine x_cVi0 dX9_sum_25 ml_X9_141 mX9_takes (ct_takes_n κ.2.1 g aN aNs aNk aNf aNr aNp aNb aNa aNt aNbo aNsz aNnu aNl aNal aNlo aNw aNtr aNis aNbg aNow nts qa 0 p nac nkp ntp nnw nsn nwn gr wk lk sz br z ru ki ma bb hd ce tb b n 45 (ht) (by omega) (hn) (hb) (by decide) (hq3)) [0, 1, 2] rfl rfl 0 rfl rfl rfl (Nat.le_of_ble_eq_true rfl) (by decide) (Nat.le_refl _) (Nat.le_refl _) ?_
      refine x_if_eq dX9_sum_28 (fun c28 => ?_) (fun c28 => ?_)
      rotate_left
      · exact absurd c28 (by decide)
      refine x_iconst 0 dX9_sum_35 (by decide) ?_
      refine x_istore_n (lv' := [some (.ref aN), some (.int qv), some (.int 0), some (.int 0), none]) dX9_sum_36 (xlt rfl) rfl ?_
      refine x_iload_n dX9_sum_37 rfl ?_
      refine x_if_eq dX9_sum_38 (fun c38 => ?_) (fun c38 => ?_)
      rotate_left
      · exact absurd c38 (by decide)
      refine x_goto dX9_sum_63 ?_
      refine x_iload_n dX9_sum_7 rfl ?_
      refine x_if_eq dX9_sum_8 (fun c8 => ?_) (fun c8 => ?_)
      rotate_left
      · exact absurd c8 (by decide)
      refine x_iload_n dX9_sum_66 rfl ?_
      rw [← hQ]
      refine x_iret dX9_sum_67 rfl (Nat.le_of_ble_eq_true rfl) (Nat.le_of_ble_eq_true rfl) ?_
      first | (rw [show srL (hB b n) (nmI wk L p) 4 nta = (qa, true, qv) from Eq.trans (congrFun (srL_eq (hB b n) (nmI wk L p) 4) nta) (itr_fix hqq rfl hi7)]; exact ⟨rfl, rfl⟩) | (rw [show srL (hB b n) (nmI wk L p) 4 nta = (qa, false, qv) from Eq.trans (congrFun (srL_eq (hB b n) (nmI wk L p) 4) nta) (itr_fix hqq (by simp [snS, hq2, hq3]) hi7)]; exact ⟨rfl, rfl⟩)
    · skip
      refine x_eq (lv' := [some (.ref aN), some (.int qv), some (.int 1), none, none]) (st' := []) (ws' := [(aN, .inr (9, [.ref aNs, .ref aNk, .int nkp, .ref aNf, .ref aNr, .ref aNp, .ref aNb, .ref aNa, .ref aNt, .int (nI nts), .ref aNbo, .ref aNsz, .ref aNnu, .int (nI qa), .int 0, .int 1, .int ntp, .int (nI p), .int nnw, .int nsn, .int nwn, .ref aNl, .ref aNal, .ref aNlo, .int (nI nac), .ref aNw, .ref aNtr, .ref aNis, .ref aNbg, .ref aNow])), (aNs, .inl (g.2.1 0, 919, .inl (msF gr wk z lk sz br ru ki ma bb ce hd))), (aNt, .inl (g.2.1 0, 60, .inl (nIf tb))), (aNa, .inl (g.2.1 0, 2475, .inl (nIf fcN))), (aNr, .inl (g.2.1 0, 495, .inl (nIf rowB))), (aNb, .inl (g.2.1 0, 4096, .inl (nIf popN)))]) ?_ rfl rfl rfl
      refine x_aload_n dX9_sum_11 rfl ?_
      refine x_bipush 43 dX9_sum_12 (by decide) ?_
      refine x_cVi0 dX9_sum_14 ml_X9_141 mX9_takes (ct_takes_b κ.2.1 g aN aNs aNk aNf aNr aNp aNb aNa aNt aNbo aNsz aNnu aNl aNal aNlo aNw aNtr aNis aNbg aNow nts qa 0 p nac nkp ntp nnw nsn nwn gr wk lk sz br z ru ki ma bb hd ce tb 43) [0, 1, 2] rfl rfl 0 rfl rfl rfl (Nat.le_of_ble_eq_true rfl) (by decide) (Nat.le_refl _) (Nat.le_refl _) ?_
      refine x_istore_n (lv' := [some (.ref aN), some (.int qv), some (.int 1), some (.int 0), none]) dX9_sum_17 (xlt rfl) rfl ?_
      refine x_iload_n dX9_sum_18 rfl ?_
      refine x_if_ne dX9_sum_19 (fun c19 => ?_) (fun c19 => ?_)
      · exact absurd c19 (by decide)
      refine x_aload_n dX9_sum_22 rfl ?_
      refine x_bipush 45 dX9_sum_23 (by decide) ?_
      refine x_cVi0 dX9_sum_25 ml_X9_141 mX9_takes (ct_takes_b κ.2.1 g aN aNs aNk aNf aNr aNp aNb aNa aNt aNbo aNsz aNnu aNl aNal aNlo aNw aNtr aNis aNbg aNow nts qa 0 p nac nkp ntp nnw nsn nwn gr wk lk sz br z ru ki ma bb hd ce tb 45) [0, 1, 2] rfl rfl 0 rfl rfl rfl (Nat.le_of_ble_eq_true rfl) (by decide) (Nat.le_refl _) (Nat.le_refl _) ?_
      refine x_if_eq dX9_sum_28 (fun c28 => ?_) (fun c28 => ?_)
      rotate_left
      · exact absurd c28 (by decide)
      refine x_iconst 0 dX9_sum_35 (by decide) ?_
      refine x_istore_n (lv' := [some (.ref aN), some (.int qv), some (.int 0), some (.int 0), none]) dX9_sum_36 (xlt rfl) rfl ?_
      refine x_iload_n dX9_sum_37 rfl ?_
      refine x_if_eq dX9_sum_38 (fun c38 => ?_) (fun c38 => ?_)
      rotate_left
      · exact absurd c38 (by decide)
      refine x_goto dX9_sum_63 ?_
      refine x_iload_n dX9_sum_7 rfl ?_
      refine x_if_eq dX9_sum_8 (fun c8 => ?_) (fun c8 => ?_)
      rotate_left
      · exact absurd c8 (by decide)
      refine x_iload_n dX9_sum_66 rfl ?_
      rw [← hQ]
      refine x_iret dX9_sum_67 rfl (Nat.le_of_ble_eq_true rfl) (Nat.le_of_ble_eq_true rfl) ?_
      first | (rw [show srL (hB b n) (nmI wk L p) 4 nta = (qa, true, qv) from Eq.trans (congrFun (srL_eq (hB b n) (nmI wk L p) 4) nta) (itr_fix hqq rfl hi7)]; exact ⟨rfl, rfl⟩) | (rw [show srL (hB b n) (nmI wk L p) 4 nta = (qa, false, qv) from Eq.trans (congrFun (srL_eq (hB b n) (nmI wk L p) 4) nta) (itr_fix hqq (by simp [snS, hq2, hq3]) hi7)]; exact ⟨rfl, rfl⟩)
  exact L7_1 0 (Nat.zero_le _) ((trL (hB b n) (nmI wk L p) 4 nta).1) ((trL (hB b n) (nmI wk L p) 4 nta).2.1) _ (rfl) (hk0.2) (Nat.zero_le _)

