theorem take_cdF (co : Nat → Int32) (cl : List Int32) (f0 : Nat → Int32) : ∀ (m i : Nat), i + m = cl.length → cdF (coL cl f0) i m = cl.drop i
  | 0, i, h => by rw [List.drop_eq_nil_iff.mpr (by omega)]; rfl
  | m + 1, i, h => by
    rw [cdF, take_cdF co cl f0 m (i + 1) (by omega), List.drop_eq_getElem_cons (show i < cl.length by omega)]
    congr 1
    simp [coL, List.getD_eq_getElem?_getD, List.getElem?_eq_getElem (show i < cl.length by omega)]
theorem cdF_coL (cl : List Int32) (f0 : Nat → Int32) : cdF (coL cl f0) 0 cl.length = cl := by
  rw [take_cdF f0 cl f0 cl.length 0 (by omega)]; rfl
/-- what the reader answers of a text -/
def fltI (h : Nat → Nat) (n : Nat) : Int32 := if (sumL_ h 4 (0, false, [])).2.1 = true then nI (sumL_ h 4 (0, false, [])).1 else if (sumL_ h 4 (0, false, [])).1 < n then nI (sumL_ h 4 (0, false, [])).1 else -1

-- == pass_f ==
theorem dX1_pass_0 : xd cX1_pass 0 (.aload_n 0) 1 1 := ⟨by decide +kernel, rfl⟩
theorem dX1_pass_1 : xd cX1_pass 1 (.getfield 44) 3 4 := ⟨by decide +kernel, rfl⟩
theorem dX1_pass_4 : xj cX1_pass 4 (.ifCond .lt) 7 8 := ⟨4, by decide +kernel, rfl, by decide⟩
theorem dX1_pass_7 : xd cX1_pass 7 .return_ 1 8 := ⟨by decide +kernel, rfl⟩
theorem dX1_pass_8 : xd cX1_pass 8 (.aload_n 0) 1 9 := ⟨by decide +kernel, rfl⟩
theorem dX1_pass_9 : xd cX1_pass 9 (.iload_n 1) 1 10 := ⟨by decide +kernel, rfl⟩
theorem dX1_pass_10 : xd cX1_pass 10 (.invokevirtual 54) 3 13 := ⟨by decide +kernel, rfl⟩
theorem dX1_pass_13 : xj cX1_pass 13 (.ifCond .eq) 16 29 := ⟨16, by decide +kernel, rfl, by decide⟩
theorem dX1_pass_16 : xd cX1_pass 16 (.aload_n 0) 1 17 := ⟨by decide +kernel, rfl⟩
theorem dX1_pass_17 : xd cX1_pass 17 .dup 1 18 := ⟨by decide +kernel, rfl⟩
theorem dX1_pass_18 : xd cX1_pass 18 (.getfield 41) 3 21 := ⟨by decide +kernel, rfl⟩
theorem dX1_pass_21 : xd cX1_pass 21 (.iconst 1) 1 22 := ⟨by decide +kernel, rfl⟩
theorem dX1_pass_22 : xd cX1_pass 22 .iadd 1 23 := ⟨by decide +kernel, rfl⟩
theorem dX1_pass_23 : xd cX1_pass 23 (.putfield 41) 3 26 := ⟨by decide +kernel, rfl⟩
theorem dX1_pass_26 : xj cX1_pass 26 .goto 29 37 := ⟨11, by decide +kernel, rfl, by decide⟩
theorem dX1_pass_29 : xd cX1_pass 29 (.aload_n 0) 1 30 := ⟨by decide +kernel, rfl⟩
theorem dX1_pass_30 : xd cX1_pass 30 (.aload_n 0) 1 31 := ⟨by decide +kernel, rfl⟩
theorem dX1_pass_31 : xd cX1_pass 31 (.getfield 41) 3 34 := ⟨by decide +kernel, rfl⟩
theorem dX1_pass_34 : xd cX1_pass 34 (.putfield 44) 3 37 := ⟨by decide +kernel, rfl⟩
theorem dX1_pass_37 : xd cX1_pass 37 .return_ 1 38 := ⟨by decide +kernel, rfl⟩

set_option maxRecDepth 100000 in
set_option maxHeartbeats 4000000 in
theorem ct_pass_f (l : Launch) (g : XG) (aR aRt aRc n a cs : Nat) (b : Nat → Nat) (c : Nat) (ha : a ≤ n) (hn : n ≤ 60) (hb : ∀ j, b j < 256) (hc : c < 128) : Ct l g 2 0 0 yX1_pass cX1_pass 2 none [.ref aR, .int (nI c)] [(aR, .inr (1, [.ref aRt, .ref aRc, .int (nI n), .int (nI cs), .int (nI a), .int ((-1))])), (aRt, .inl (g.2.1 1, 60, .inl (fun j => sgB (b j))))] (xpv [(aR, .inr (1, [.ref aRt, .ref aRc, .int (nI n), .int (nI cs), .int (nI ((pasA (hB b n) c false a).1)), .int (flB (pasA (hB b n) c false a).2 (pasA (hB b n) c false a).1)])), (aRt, .inl (g.2.1 1, 60, .inl (fun j => sgB (b j))))]) := by
  refine Ct.ofX (lv := [some (.ref aR), some (.int (nI c))]) (by decide) rfl (Nat.le_of_ble_eq_true rfl) (fun κ => ?_)
  generalize hQ : xQ κ g 0 0 _ = Q
  refine x_aload_n dX1_pass_0 rfl ?_
  refine x_get dX1_pass_1 0 5 inX1 fl_X1_44 rfl rfl (by decide) rfl ?_
  refine x_if_lt dX1_pass_4 (fun c4 => ?_) (fun c4 => ?_)
  rotate_left
  · exact absurd c4 (by decide)
  refine x_aload_n dX1_pass_8 rfl ?_
  refine x_iload_n dX1_pass_9 rfl ?_
  refine x_cVi0 dX1_pass_10 ml_X1_54 mX1_sees (ct_X1_sees κ.2.1 g aR aRt aRc n a cs b (-1) c (ha) (hn) (hb) (hc)) [0, 1] rfl rfl 0 rfl rfl rfl (Nat.le_of_ble_eq_true rfl) (by decide) (Nat.le_refl _) (Nat.le_refl _) ?_
  refine x_if_eq dX1_pass_13 (fun c13 => ?_) (fun c13 => ?_)
  · have c13 : (seesI b n a c) = 0 := c13
    refine x_aload_n dX1_pass_29 rfl ?_
    refine x_aload_n dX1_pass_30 rfl ?_
    refine x_get dX1_pass_31 0 4 inX1 fl_X1_41 rfl rfl (by decide) rfl ?_
    refine x_put (ws' := [(aR, .inr (1, [.ref aRt, .ref aRc, .int (nI n), .int (nI cs), .int (nI a), .int (nI a)])), (aRt, .inl (g.2.1 1, 60, .inl (fun j => sgB (b j))))]) dX1_pass_34 0 5 inX1 tyX1_ok nmX1 fl_X1_44 rfl rfl (by decide) rfl (rfl) rfl (xlt rfl) rfl ?_
    rw [← hQ]
    refine x_vret dX1_pass_37 rfl (Nat.le_of_ble_eq_true rfl) (Nat.le_of_ble_eq_true rfl) ?_
    exact ⟨rfl, by first | (rw [pasA_1 (sees1 c13)] <;> rfl) | (rw [pasA_0 (sees0 c13)] <;> rfl)⟩
  · have c13 : ¬ ((seesI b n a c) = 0) := c13
    refine x_aload_n dX1_pass_16 rfl ?_
    refine x_dup dX1_pass_17 rfl ?_
    refine x_get dX1_pass_18 0 4 inX1 fl_X1_41 rfl rfl (by decide) rfl ?_
    refine x_iconst 1 dX1_pass_21 (by decide) ?_
    refine x_iadd dX1_pass_22 ?_
    refine x_rei (nI (a + 1)) (nI_addc a 1 rfl) ?_
    refine x_put (ws' := [(aR, .inr (1, [.ref aRt, .ref aRc, .int (nI n), .int (nI cs), .int (nI (a + 1)), .int ((-1))])), (aRt, .inl (g.2.1 1, 60, .inl (fun j => sgB (b j))))]) dX1_pass_23 0 4 inX1 tyX1_ok nmX1 fl_X1_41 rfl rfl (by decide) rfl (rfl) rfl (xlt rfl) rfl ?_
    refine x_goto dX1_pass_26 ?_
    rw [← hQ]
    refine x_vret dX1_pass_37 rfl (Nat.le_of_ble_eq_true rfl) (Nat.le_of_ble_eq_true rfl) ?_
    exact ⟨rfl, by first | (rw [pasA_1 (sees1 c13)] <;> rfl) | (rw [pasA_0 (sees0 c13)] <;> rfl)⟩

-- == pass_t ==
set_option maxRecDepth 100000 in
set_option maxHeartbeats 4000000 in
theorem ct_pass_t (l : Launch) (g : XG) (aR aRt aRc n a cs : Nat) (b : Nat → Nat) (c : Nat) (ha : a ≤ n) (hn : n ≤ 60) (hb : ∀ j, b j < 256) : Ct l g 2 0 0 yX1_pass cX1_pass 2 none [.ref aR, .int (nI c)] [(aR, .inr (1, [.ref aRt, .ref aRc, .int (nI n), .int (nI cs), .int (nI a), .int (nI a)])), (aRt, .inl (g.2.1 1, 60, .inl (fun j => sgB (b j))))] (xpv [(aR, .inr (1, [.ref aRt, .ref aRc, .int (nI n), .int (nI cs), .int (nI a), .int (nI a)])), (aRt, .inl (g.2.1 1, 60, .inl (fun j => sgB (b j))))]) := by
  refine Ct.ofX (lv := [some (.ref aR), some (.int (nI c))]) (by decide) rfl (Nat.le_of_ble_eq_true rfl) (fun κ => ?_)
  generalize hQ : xQ κ g 0 0 _ = Q
  refine x_aload_n dX1_pass_0 rfl ?_
  refine x_get dX1_pass_1 0 5 inX1 fl_X1_44 rfl rfl (by decide) rfl ?_
  refine x_if_lt dX1_pass_4 (fun c4 => ?_) (fun c4 => ?_)
  · have c4 : (nI a) < 0 := c4
    have c4n := (nI_ltI (a := a) (b := 0) (by omega) (by omega)).mp c4
    exact absurd c4n (by omega)
  · have c4 : ¬ ((nI a) < 0) := c4
    have c4n := mt (nI_ltI (a := a) (b := 0) (by omega) (by omega)).mpr c4
    rw [← hQ]
    refine x_vret dX1_pass_7 rfl (Nat.le_of_ble_eq_true rfl) (Nat.le_of_ble_eq_true rfl) ?_
    exact ⟨rfl, rfl⟩

-- == X1_pass ==
theorem ct_X1_pass (l : Launch) (g : XG) (aR aRt aRc n a cs : Nat) (b : Nat → Nat) (c : Nat) (bd : Bool) (ha : a ≤ n) (hn : n ≤ 60) (hb : ∀ j, b j < 256) (hc : c < 128) : Ct l g 2 0 0 yX1_pass cX1_pass 2 none [.ref aR, .int (nI c)] [(aR, .inr (1, [.ref aRt, .ref aRc, .int (nI n), .int (nI cs), .int (nI a), .int (flB bd a)])), (aRt, .inl (g.2.1 1, 60, .inl (fun j => sgB (b j))))] (xpv [(aR, .inr (1, [.ref aRt, .ref aRc, .int (nI n), .int (nI cs), .int (nI ((pasA (hB b n) c bd a).1)), .int (flB (pasA (hB b n) c bd a).2 (pasA (hB b n) c bd a).1)])), (aRt, .inl (g.2.1 1, 60, .inl (fun j => sgB (b j))))]) := by
  cases bd with
  | true => exact ct_pass_t l g aR aRt aRc n a cs b c ha hn hb
  | false => exact ct_pass_f l g aR aRt aRc n a cs b c ha hn hb hc

-- == X1_readNumber ==
theorem dX1_readNumber_0 : xd cX1_readNumber 0 (.iconst 0) 1 1 := ⟨by decide +kernel, rfl⟩
theorem dX1_readNumber_1 : xd cX1_readNumber 1 (.istore_n 1) 1 2 := ⟨by decide +kernel, rfl⟩
theorem dX1_readNumber_2 : xd cX1_readNumber 2 (.iconst 0) 1 3 := ⟨by decide +kernel, rfl⟩
theorem dX1_readNumber_3 : xd cX1_readNumber 3 (.istore_n 2) 1 4 := ⟨by decide +kernel, rfl⟩
theorem dX1_readNumber_4 : xd cX1_readNumber 4 (.iload_n 2) 1 5 := ⟨by decide +kernel, rfl⟩
theorem dX1_readNumber_5 : xd cX1_readNumber 5 (.iconst 3) 1 6 := ⟨by decide +kernel, rfl⟩
theorem dX1_readNumber_6 : xj cX1_readNumber 6 (.if_icmp .ge) 9 42 := ⟨36, by decide +kernel, rfl, by decide⟩
theorem dX1_readNumber_9 : xd cX1_readNumber 9 (.aload_n 0) 1 10 := ⟨by decide +kernel, rfl⟩
theorem dX1_readNumber_10 : xd cX1_readNumber 10 (.invokevirtual 64) 3 13 := ⟨by decide +kernel, rfl⟩
theorem dX1_readNumber_13 : xj cX1_readNumber 13 (.ifCond .lt) 16 42 := ⟨29, by decide +kernel, rfl, by decide⟩
theorem dX1_readNumber_16 : xd cX1_readNumber 16 (.iload_n 1) 1 17 := ⟨by decide +kernel, rfl⟩
theorem dX1_readNumber_17 : xd cX1_readNumber 17 (.bipush 10) 2 19 := ⟨by decide +kernel, rfl⟩
theorem dX1_readNumber_19 : xd cX1_readNumber 19 .imul 1 20 := ⟨by decide +kernel, rfl⟩
theorem dX1_readNumber_20 : xd cX1_readNumber 20 (.aload_n 0) 1 21 := ⟨by decide +kernel, rfl⟩
theorem dX1_readNumber_21 : xd cX1_readNumber 21 (.invokevirtual 64) 3 24 := ⟨by decide +kernel, rfl⟩
theorem dX1_readNumber_24 : xd cX1_readNumber 24 .iadd 1 25 := ⟨by decide +kernel, rfl⟩
theorem dX1_readNumber_25 : xd cX1_readNumber 25 (.istore_n 1) 1 26 := ⟨by decide +kernel, rfl⟩
theorem dX1_readNumber_26 : xd cX1_readNumber 26 (.aload_n 0) 1 27 := ⟨by decide +kernel, rfl⟩
theorem dX1_readNumber_27 : xd cX1_readNumber 27 .dup 1 28 := ⟨by decide +kernel, rfl⟩
theorem dX1_readNumber_28 : xd cX1_readNumber 28 (.getfield 41) 3 31 := ⟨by decide +kernel, rfl⟩
theorem dX1_readNumber_31 : xd cX1_readNumber 31 (.iconst 1) 1 32 := ⟨by decide +kernel, rfl⟩
theorem dX1_readNumber_32 : xd cX1_readNumber 32 .iadd 1 33 := ⟨by decide +kernel, rfl⟩
theorem dX1_readNumber_33 : xd cX1_readNumber 33 (.putfield 41) 3 36 := ⟨by decide +kernel, rfl⟩
theorem dX1_readNumber_36 : xd cX1_readNumber 36 (.iinc 2 1) 3 39 := ⟨by decide +kernel, rfl⟩
theorem dX1_readNumber_39 : xj cX1_readNumber 39 .goto 42 4 := ⟨(-35), by decide +kernel, rfl, by decide⟩
theorem dX1_readNumber_42 : xd cX1_readNumber 42 (.aload_n 0) 1 43 := ⟨by decide +kernel, rfl⟩
theorem dX1_readNumber_43 : xd cX1_readNumber 43 (.iload_n 1) 1 44 := ⟨by decide +kernel, rfl⟩
theorem dX1_readNumber_44 : xd cX1_readNumber 44 (.invokevirtual 58) 3 47 := ⟨by decide +kernel, rfl⟩
theorem dX1_readNumber_47 : xd cX1_readNumber 47 .return_ 1 48 := ⟨by decide +kernel, rfl⟩

set_option maxRecDepth 100000 in
set_option maxHeartbeats 4000000 in
theorem ct_X1_readNumber (l : Launch) (g : XG) (aR aRt aRc n a : Nat) (b : Nat → Nat) (f0 : Nat → Int32) (cl : List Int32) (ha : a ≤ n) (hn : n ≤ 60) (hb : ∀ j, b j < 256) (hl : cl.length ≤ 60) : Ct l g 2 0 0 yX1_readNumber cX1_readNumber 3 none [.ref aR] [(aR, .inr (1, [.ref aRt, .ref aRc, .int (nI n), .int (nI cl.length), .int (nI a), .int ((-1))])), (aRt, .inl (g.2.1 1, 60, .inl (fun j => sgB (b j)))), (aRc, .inl (g.2.1 0, 60, .inl (coL cl f0)))] (xpv [(aR, .inr (1, [.ref aRt, .ref aRc, .int (nI n), .int (nI ((putL (nI (numI (hB b n) a).2) cl).length)), .int (nI ((numI (hB b n) a).1)), .int ((-1))])), (aRt, .inl (g.2.1 1, 60, .inl (fun j => sgB (b j)))), (aRc, .inl (g.2.1 0, 60, .inl (coL (putL (nI (numI (hB b n) a).2) cl) f0)))]) := by
  refine Ct.ofX (lv := [some (.ref aR), none, none]) (by decide) rfl (Nat.le_of_ble_eq_true rfl) (fun κ => ?_)
  generalize hQ : xQ κ g 0 0 _ = Q
  refine x_iconst 0 dX1_readNumber_0 (by decide) ?_
  refine x_istore_n (lv' := [some (.ref aR), some (.int 0), none]) dX1_readNumber_1 (xlt rfl) rfl ?_
  refine x_iconst 0 dX1_readNumber_2 (by decide) ?_
  refine x_istore_n (lv' := [some (.ref aR), some (.int 0), some (.int 0)]) dX1_readNumber_3 (xlt rfl) rfl ?_
  have L4_1 : ∀ (i : Nat), i ≤ 3 → ∀ (qa : Nat), qa = (itr (nmS (hB b n)) i (a, 0)).1 → ∀ (qv : Nat), qv = (itr (nmS (hB b n)) i (a, 0)).2 → Xs κ g 2 0 0 cX1_readNumber yX1_readNumber none Q 0 0 4 [some (.ref aR), some (.int (nI qv)), some (.int (nI i))] [] [(aR, .inr (1, [.ref aRt, .ref aRc, .int (nI n), .int (nI cl.length), .int (nI qa), .int ((-1))])), (aRt, .inl (g.2.1 1, 60, .inl (fun j => sgB (b j)))), (aRc, .inl (g.2.1 0, 60, .inl (coL cl f0)))] := by
    refine upTo 3 (fun i hi4 ih4 => ?_)
    intro qa eqa
    subst eqa
    intro qv eqv
    subst eqv
    have hqa : (itr (nmS (hB b n)) i (a, 0)).1 ≤ n := nmSi_le (okH_hB b n) ha i
    refine x_iload_n dX1_readNumber_4 rfl ?_
    refine x_iconst 3 dX1_readNumber_5 (by decide) ?_
    refine x_icmp_ge dX1_readNumber_6 (fun c6 => ?_) (fun c6 => ?_)
    · have c6 : 3 ≤ (nI i) := c6
      have c6n := (nI_leI (a := 3) (b := i) (by omega) (by omega)).mp c6
      have hxc6 : i = 3 := by omega
      try rw [hxc6]
      refine x_aload_n dX1_readNumber_42 rfl ?_
      refine x_iload_n dX1_readNumber_43 rfl ?_
      refine x_cVv (ws' := [(aR, .inr (1, [.ref aRt, .ref aRc, .int (nI n), .int (nI ((putL (nI (((itr (nmS (hB b n)) 3 (a, 0)).2))) cl).length)), .int (nI ((itr (nmS (hB b n)) 3 (a, 0)).1)), .int (-1)])), (aRt, .inl (g.2.1 1, 60, .inl (fun j => sgB (b j)))), (aRc, .inl (g.2.1 0, 60, .inl (coL (putL (nI (((itr (nmS (hB b n)) 3 (a, 0)).2))) cl) f0)))]) dX1_readNumber_44 ml_X1_58 mX1_put (ct_X1_put κ.2.1 g aR aRt aRc n ((itr (nmS (hB b n)) 3 (a, 0)).1) f0 cl (-1) (nI (((itr (nmS (hB b n)) 3 (a, 0)).2))) (hl)) [0, 2] rfl rfl 0 rfl rfl rfl (Nat.le_of_ble_eq_true rfl) (by decide) (Nat.le_refl _) (Nat.le_refl _) (rfl : [aR, aRc] = [aR, aRc]) rfl ?_
      rw [← hQ]
      refine x_vret dX1_readNumber_47 rfl (Nat.le_of_ble_eq_true rfl) (Nat.le_of_ble_eq_true rfl) ?_
      exact ⟨rfl, by first | rfl | (rw [show numI (hB b n) a = (itr (nmS (hB b n)) i (a, 0)) from itr_fix rfl (by rw [nmS, if_neg (dig0 c13)]) (by omega)] <;> rfl)⟩
    · have c6 : ¬ (3 ≤ (nI i)) := c6
      have c6n := mt (nI_leI (a := 3) (b := i) (by omega) (by omega)).mpr c6
      refine x_aload_n dX1_readNumber_9 rfl ?_
      refine x_cVi0 dX1_readNumber_10 ml_X1_64 mX1_digit (ct_X1_digit κ.2.1 g aR aRt aRc n ((itr (nmS (hB b n)) i (a, 0)).1) cl.length b (-1) (hqa) (hn) (hb)) [0, 1] rfl rfl 0 rfl rfl rfl (Nat.le_of_ble_eq_true rfl) (by decide) (Nat.le_refl _) (Nat.le_refl _) ?_
      refine x_if_lt dX1_readNumber_13 (fun c13 => ?_) (fun c13 => ?_)
      · have c13 : (digI b n ((itr (nmS (hB b n)) i (a, 0)).1)) < 0 := c13
        refine x_aload_n dX1_readNumber_42 rfl ?_
        refine x_iload_n dX1_readNumber_43 rfl ?_
        refine x_cVv (ws' := [(aR, .inr (1, [.ref aRt, .ref aRc, .int (nI n), .int (nI ((putL (nI (((itr (nmS (hB b n)) i (a, 0)).2))) cl).length)), .int (nI ((itr (nmS (hB b n)) i (a, 0)).1)), .int (-1)])), (aRt, .inl (g.2.1 1, 60, .inl (fun j => sgB (b j)))), (aRc, .inl (g.2.1 0, 60, .inl (coL (putL (nI (((itr (nmS (hB b n)) i (a, 0)).2))) cl) f0)))]) dX1_readNumber_44 ml_X1_58 mX1_put (ct_X1_put κ.2.1 g aR aRt aRc n ((itr (nmS (hB b n)) i (a, 0)).1) f0 cl (-1) (nI (((itr (nmS (hB b n)) i (a, 0)).2))) (hl)) [0, 2] rfl rfl 0 rfl rfl rfl (Nat.le_of_ble_eq_true rfl) (by decide) (Nat.le_refl _) (Nat.le_refl _) (rfl : [aR, aRc] = [aR, aRc]) rfl ?_
        rw [← hQ]
        refine x_vret dX1_readNumber_47 rfl (Nat.le_of_ble_eq_true rfl) (Nat.le_of_ble_eq_true rfl) ?_
        exact ⟨rfl, by first | rfl | (rw [show numI (hB b n) a = (itr (nmS (hB b n)) i (a, 0)) from itr_fix rfl (by rw [nmS, if_neg (dig0 c13)]) (by omega)] <;> rfl)⟩
      · have c13 : ¬ ((digI b n ((itr (nmS (hB b n)) i (a, 0)).1)) < 0) := c13
        refine x_iload_n dX1_readNumber_16 rfl ?_
        refine x_bipush 10 dX1_readNumber_17 (by decide) ?_
        refine x_imul dX1_readNumber_19 ?_
        refine x_rei (nI (((itr (nmS (hB b n)) i (a, 0)).2) * 10)) (nI_imul ((itr (nmS (hB b n)) i (a, 0)).2) 10) ?_
        refine x_aload_n dX1_readNumber_20 rfl ?_
        refine x_cVi0 dX1_readNumber_21 ml_X1_64 mX1_digit (ct_X1_digit κ.2.1 g aR aRt aRc n ((itr (nmS (hB b n)) i (a, 0)).1) cl.length b (-1) (hqa) (hn) (hb)) [0, 1] rfl rfl 0 rfl rfl rfl (Nat.le_of_ble_eq_true rfl) (by decide) (Nat.le_refl _) (Nat.le_refl _) ?_
        refine x_rei (nI (hB b n (itr (nmS (hB b n)) i (a, 0)).1 - 48)) (digV (dig1 c13)) ?_
        refine x_iadd dX1_readNumber_24 ?_
        refine x_rei (nI ((((itr (nmS (hB b n)) i (a, 0)).2) * 10) + (hB b n (itr (nmS (hB b n)) i (a, 0)).1 - 48))) (nI_iadd (((itr (nmS (hB b n)) i (a, 0)).2) * 10) (hB b n (itr (nmS (hB b n)) i (a, 0)).1 - 48)) ?_
        refine x_istore_n (lv' := [some (.ref aR), some (.int (nI ((((itr (nmS (hB b n)) i (a, 0)).2) * 10) + (hB b n (itr (nmS (hB b n)) i (a, 0)).1 - 48)))), some (.int (nI i))]) dX1_readNumber_25 (xlt rfl) rfl ?_
        refine x_aload_n dX1_readNumber_26 rfl ?_
        refine x_dup dX1_readNumber_27 rfl ?_
        refine x_get dX1_readNumber_28 0 4 inX1 fl_X1_41 rfl rfl (by decide) rfl ?_
        refine x_iconst 1 dX1_readNumber_31 (by decide) ?_
        refine x_iadd dX1_readNumber_32 ?_
        refine x_rei (nI (((itr (nmS (hB b n)) i (a, 0)).1) + 1)) (nI_addc ((itr (nmS (hB b n)) i (a, 0)).1) 1 rfl) ?_
        refine x_put (ws' := [(aR, .inr (1, [.ref aRt, .ref aRc, .int (nI n), .int (nI cl.length), .int (nI (((itr (nmS (hB b n)) i (a, 0)).1) + 1)), .int (-1)])), (aRt, .inl (g.2.1 1, 60, .inl (fun j => sgB (b j)))), (aRc, .inl (g.2.1 0, 60, .inl (coL cl f0)))]) dX1_readNumber_33 0 4 inX1 tyX1_ok nmX1 fl_X1_41 rfl rfl (by decide) rfl (rfl) rfl (xlt rfl) rfl ?_
        refine x_iinc (lv' := [some (.ref aR), some (.int (nI ((((itr (nmS (hB b n)) i (a, 0)).2) * 10) + (hB b n (itr (nmS (hB b n)) i (a, 0)).1 - 48)))), some (.int (nI (i + 1)))]) (nI (i + 1)) dX1_readNumber_36 rfl (nI_addc i 1 rfl) rfl ?_
        refine x_goto dX1_readNumber_39 ?_
        exact ih4 (by omega) (((itr (nmS (hB b n)) i (a, 0)).1) + 1) (by show _ = (nmS (hB b n) (itr (nmS (hB b n)) i (a, 0))).1; rw [nmS, if_pos (dig1 c13)]) ((((itr (nmS (hB b n)) i (a, 0)).2) * 10) + (hB b n (itr (nmS (hB b n)) i (a, 0)).1 - 48)) (by show _ = (nmS (hB b n) (itr (nmS (hB b n)) i (a, 0))).2; rw [nmS, if_pos (dig1 c13)])
  exact L4_1 0 (Nat.zero_le _) a (by rfl) 0 (by rfl)

-- == rf_0 ==
theorem dX1_readFactor_0 : xd cX1_readFactor 0 (.aload_n 0) 1 1 := ⟨by decide +kernel, rfl⟩
theorem dX1_readFactor_1 : xd cX1_readFactor 1 (.getfield 44) 3 4 := ⟨by decide +kernel, rfl⟩
theorem dX1_readFactor_4 : xj cX1_readFactor 4 (.ifCond .lt) 7 8 := ⟨4, by decide +kernel, rfl, by decide⟩
theorem dX1_readFactor_7 : xd cX1_readFactor 7 .return_ 1 8 := ⟨by decide +kernel, rfl⟩
theorem dX1_readFactor_8 : xd cX1_readFactor 8 (.aload_n 0) 1 9 := ⟨by decide +kernel, rfl⟩
theorem dX1_readFactor_9 : xd cX1_readFactor 9 (.invokevirtual 64) 3 12 := ⟨by decide +kernel, rfl⟩
theorem dX1_readFactor_12 : xj cX1_readFactor 12 (.ifCond .lt) 15 22 := ⟨10, by decide +kernel, rfl, by decide⟩
theorem dX1_readFactor_15 : xd cX1_readFactor 15 (.aload_n 0) 1 16 := ⟨by decide +kernel, rfl⟩
theorem dX1_readFactor_16 : xd cX1_readFactor 16 (.invokevirtual 68) 3 19 := ⟨by decide +kernel, rfl⟩
theorem dX1_readFactor_19 : xj cX1_readFactor 19 .goto 22 95 := ⟨76, by decide +kernel, rfl, by decide⟩
theorem dX1_readFactor_22 : xd cX1_readFactor 22 (.aload_n 0) 1 23 := ⟨by decide +kernel, rfl⟩
theorem dX1_readFactor_23 : xd cX1_readFactor 23 (.invokevirtual 71) 3 26 := ⟨by decide +kernel, rfl⟩
theorem dX1_readFactor_26 : xj cX1_readFactor 26 (.ifCond .lt) 29 53 := ⟨27, by decide +kernel, rfl, by decide⟩
theorem dX1_readFactor_29 : xd cX1_readFactor 29 (.aload_n 0) 1 30 := ⟨by decide +kernel, rfl⟩
theorem dX1_readFactor_30 : xd cX1_readFactor 30 (.bipush (-10)) 2 32 := ⟨by decide +kernel, rfl⟩
theorem dX1_readFactor_32 : xd cX1_readFactor 32 (.aload_n 0) 1 33 := ⟨by decide +kernel, rfl⟩
theorem dX1_readFactor_33 : xd cX1_readFactor 33 (.invokevirtual 71) 3 36 := ⟨by decide +kernel, rfl⟩
theorem dX1_readFactor_36 : xd cX1_readFactor 36 .isub 1 37 := ⟨by decide +kernel, rfl⟩
theorem dX1_readFactor_37 : xd cX1_readFactor 37 (.invokevirtual 58) 3 40 := ⟨by decide +kernel, rfl⟩
theorem dX1_readFactor_40 : xd cX1_readFactor 40 (.aload_n 0) 1 41 := ⟨by decide +kernel, rfl⟩
theorem dX1_readFactor_41 : xd cX1_readFactor 41 .dup 1 42 := ⟨by decide +kernel, rfl⟩
theorem dX1_readFactor_42 : xd cX1_readFactor 42 (.getfield 41) 3 45 := ⟨by decide +kernel, rfl⟩
theorem dX1_readFactor_45 : xd cX1_readFactor 45 (.iconst 1) 1 46 := ⟨by decide +kernel, rfl⟩
theorem dX1_readFactor_46 : xd cX1_readFactor 46 .iadd 1 47 := ⟨by decide +kernel, rfl⟩
theorem dX1_readFactor_47 : xd cX1_readFactor 47 (.putfield 41) 3 50 := ⟨by decide +kernel, rfl⟩
theorem dX1_readFactor_50 : xj cX1_readFactor 50 .goto 53 95 := ⟨45, by decide +kernel, rfl, by decide⟩
theorem dX1_readFactor_53 : xd cX1_readFactor 53 (.aload_n 0) 1 54 := ⟨by decide +kernel, rfl⟩
theorem dX1_readFactor_54 : xd cX1_readFactor 54 (.bipush 40) 2 56 := ⟨by decide +kernel, rfl⟩
theorem dX1_readFactor_56 : xd cX1_readFactor 56 (.invokevirtual 54) 3 59 := ⟨by decide +kernel, rfl⟩
theorem dX1_readFactor_59 : xj cX1_readFactor 59 (.ifCond .eq) 62 87 := ⟨28, by decide +kernel, rfl, by decide⟩
theorem dX1_readFactor_62 : xd cX1_readFactor 62 (.iload_n 1) 1 63 := ⟨by decide +kernel, rfl⟩
theorem dX1_readFactor_63 : xd cX1_readFactor 63 (.iconst 4) 1 64 := ⟨by decide +kernel, rfl⟩
theorem dX1_readFactor_64 : xj cX1_readFactor 64 (.if_icmp .ge) 67 87 := ⟨23, by decide +kernel, rfl, by decide⟩
theorem dX1_readFactor_67 : xd cX1_readFactor 67 (.aload_n 0) 1 68 := ⟨by decide +kernel, rfl⟩
theorem dX1_readFactor_68 : xd cX1_readFactor 68 .dup 1 69 := ⟨by decide +kernel, rfl⟩
theorem dX1_readFactor_69 : xd cX1_readFactor 69 (.getfield 41) 3 72 := ⟨by decide +kernel, rfl⟩
theorem dX1_readFactor_72 : xd cX1_readFactor 72 (.iconst 1) 1 73 := ⟨by decide +kernel, rfl⟩
theorem dX1_readFactor_73 : xd cX1_readFactor 73 .iadd 1 74 := ⟨by decide +kernel, rfl⟩
theorem dX1_readFactor_74 : xd cX1_readFactor 74 (.putfield 41) 3 77 := ⟨by decide +kernel, rfl⟩
theorem dX1_readFactor_77 : xd cX1_readFactor 77 (.aload_n 0) 1 78 := ⟨by decide +kernel, rfl⟩
theorem dX1_readFactor_78 : xd cX1_readFactor 78 (.iload_n 1) 1 79 := ⟨by decide +kernel, rfl⟩
theorem dX1_readFactor_79 : xd cX1_readFactor 79 (.iconst 1) 1 80 := ⟨by decide +kernel, rfl⟩
theorem dX1_readFactor_80 : xd cX1_readFactor 80 .iadd 1 81 := ⟨by decide +kernel, rfl⟩
theorem dX1_readFactor_81 : xd cX1_readFactor 81 (.invokevirtual 74) 3 84 := ⟨by decide +kernel, rfl⟩
theorem dX1_readFactor_84 : xj cX1_readFactor 84 .goto 87 95 := ⟨11, by decide +kernel, rfl, by decide⟩
theorem dX1_readFactor_87 : xd cX1_readFactor 87 (.aload_n 0) 1 88 := ⟨by decide +kernel, rfl⟩
theorem dX1_readFactor_88 : xd cX1_readFactor 88 (.aload_n 0) 1 89 := ⟨by decide +kernel, rfl⟩
theorem dX1_readFactor_89 : xd cX1_readFactor 89 (.getfield 41) 3 92 := ⟨by decide +kernel, rfl⟩
theorem dX1_readFactor_92 : xd cX1_readFactor 92 (.putfield 44) 3 95 := ⟨by decide +kernel, rfl⟩
theorem dX1_readFactor_95 : xd cX1_readFactor 95 .return_ 1 96 := ⟨by decide +kernel, rfl⟩

set_option maxRecDepth 100000 in
set_option maxHeartbeats 4000000 in
theorem ct_rf_0 (l : Launch) (g : XG) (aR aRt aRc n a : Nat) (b : Nat → Nat) (f0 : Nat → Int32) (cl : List Int32) (ha : a ≤ n) (hn : n ≤ 60) (hb : ∀ j, b j < 256) (hl : cl.length ≤ 60) : Ct l g 7 0 0 yX1_readFactor cX1_readFactor 2 none [.ref aR, .int 4] [(aR, .inr (1, [.ref aRt, .ref aRc, .int (nI n), .int (nI cl.length), .int (nI a), .int ((-1))])), (aRt, .inl (g.2.1 1, 60, .inl (fun j => sgB (b j)))), (aRc, .inl (g.2.1 0, 60, .inl (coL cl f0)))] (xpv [(aR, .inr (1, [.ref aRt, .ref aRc, .int (nI n), .int (nI ((facL (hB b n) 0 (a, false, cl)).2.2.length)), .int (nI ((facL (hB b n) 0 (a, false, cl)).1)), .int (flB (facL (hB b n) 0 (a, false, cl)).2.1 (facL (hB b n) 0 (a, false, cl)).1)])), (aRt, .inl (g.2.1 1, 60, .inl (fun j => sgB (b j)))), (aRc, .inl (g.2.1 0, 60, .inl (coL ((facL (hB b n) 0 (a, false, cl)).2.2) f0)))]) := by
  refine Ct.ofX (lv := [some (.ref aR), some (.int 4)]) (by decide) rfl (Nat.le_of_ble_eq_true rfl) (fun κ => ?_)
  generalize hQ : xQ κ g 0 0 _ = Q
  refine x_aload_n dX1_readFactor_0 rfl ?_
  refine x_get dX1_readFactor_1 0 5 inX1 fl_X1_44 rfl rfl (by decide) rfl ?_
  refine x_if_lt dX1_readFactor_4 (fun c4 => ?_) (fun c4 => ?_)
  rotate_left
  · exact absurd c4 (by decide)
  refine x_aload_n dX1_readFactor_8 rfl ?_
  refine x_cVi0 dX1_readFactor_9 ml_X1_64 mX1_digit (ct_X1_digit κ.2.1 g aR aRt aRc n a cl.length b (-1) (by omega) (hn) (hb)) [0, 1] rfl rfl 0 rfl rfl rfl (Nat.le_of_ble_eq_true rfl) (by decide) (Nat.le_refl _) (Nat.le_refl _) ?_
  refine x_if_lt dX1_readFactor_12 (fun c12 => ?_) (fun c12 => ?_)
  · have c12 : (digI b n a) < 0 := c12
    refine x_aload_n dX1_readFactor_22 rfl ?_
    refine x_cVi0 dX1_readFactor_23 ml_X1_71 mX1_nameHere (ct_X1_nameHere κ.2.1 g aR aRt aRc n a cl.length b (-1) (by omega) (hn) (hb)) [0, 1] rfl rfl 0 rfl rfl rfl (Nat.le_of_ble_eq_true rfl) (by decide) (Nat.le_refl _) (Nat.le_refl _) ?_
    refine x_if_lt dX1_readFactor_26 (fun c26 => ?_) (fun c26 => ?_)
    · have c26 : (nmhI b n a) < 0 := c26
      refine x_aload_n dX1_readFactor_53 rfl ?_
      refine x_bipush 40 dX1_readFactor_54 (by decide) ?_
      refine x_cVi0 dX1_readFactor_56 ml_X1_54 mX1_sees (ct_X1_sees κ.2.1 g aR aRt aRc n a cl.length b (-1) 40 (by omega) (hn) (hb) (by decide)) [0, 1] rfl rfl 0 rfl rfl rfl (Nat.le_of_ble_eq_true rfl) (by decide) (Nat.le_refl _) (Nat.le_refl _) ?_
      refine x_if_eq dX1_readFactor_59 (fun c59 => ?_) (fun c59 => ?_)
      · have c59 : (seesI b n a 40) = 0 := c59
        refine x_aload_n dX1_readFactor_87 rfl ?_
        refine x_aload_n dX1_readFactor_88 rfl ?_
        refine x_get dX1_readFactor_89 0 4 inX1 fl_X1_41 rfl rfl (by decide) rfl ?_
        refine x_put (ws' := [(aR, .inr (1, [.ref aRt, .ref aRc, .int (nI n), .int (nI cl.length), .int (nI a), .int (nI a)])), (aRt, .inl (g.2.1 1, 60, .inl (fun j => sgB (b j)))), (aRc, .inl (g.2.1 0, 60, .inl (coL cl f0)))]) dX1_readFactor_92 0 5 inX1 tyX1_ok nmX1 fl_X1_44 rfl rfl (by decide) rfl (rfl) rfl (xlt rfl) rfl ?_
        rw [← hQ]
        refine x_vret dX1_readFactor_95 rfl (Nat.le_of_ble_eq_true rfl) (Nat.le_of_ble_eq_true rfl) ?_
        exact ⟨rfl, by first | (rw [facL, fac_num (dig1 c12)] <;> rfl) | (rw [facL, fac_nm (dig0 c12) (nmh1 c26)] <;> rfl) | (rw [facL, fac_br (dig0 c12) (nmh0 c26) (sees1 c59)] <;> rfl) | (rw [facL, fac_bad (dig0 c12) (nmh0 c26) (sees0 c59)] <;> rfl)⟩
      · have c59 : ¬ ((seesI b n a 40) = 0) := c59
        refine x_iload_n dX1_readFactor_62 rfl ?_
        refine x_iconst 4 dX1_readFactor_63 (by decide) ?_
        refine x_icmp_ge dX1_readFactor_64 (fun c64 => ?_) (fun c64 => ?_)
        rotate_left
        · exact absurd c64 (by decide)
        refine x_aload_n dX1_readFactor_87 rfl ?_
        refine x_aload_n dX1_readFactor_88 rfl ?_
        refine x_get dX1_readFactor_89 0 4 inX1 fl_X1_41 rfl rfl (by decide) rfl ?_
        refine x_put (ws' := [(aR, .inr (1, [.ref aRt, .ref aRc, .int (nI n), .int (nI cl.length), .int (nI a), .int (nI a)])), (aRt, .inl (g.2.1 1, 60, .inl (fun j => sgB (b j)))), (aRc, .inl (g.2.1 0, 60, .inl (coL cl f0)))]) dX1_readFactor_92 0 5 inX1 tyX1_ok nmX1 fl_X1_44 rfl rfl (by decide) rfl (rfl) rfl (xlt rfl) rfl ?_
        rw [← hQ]
        refine x_vret dX1_readFactor_95 rfl (Nat.le_of_ble_eq_true rfl) (Nat.le_of_ble_eq_true rfl) ?_
        exact ⟨rfl, by first | (rw [facL, fac_num (dig1 c12)] <;> rfl) | (rw [facL, fac_nm (dig0 c12) (nmh1 c26)] <;> rfl) | (rw [facL, fac_br (dig0 c12) (nmh0 c26) (sees1 c59)] <;> rfl) | (rw [facL, fac_bad (dig0 c12) (nmh0 c26) (sees0 c59)] <;> rfl)⟩
    · have c26 : ¬ ((nmhI b n a) < 0) := c26
      refine x_aload_n dX1_readFactor_29 rfl ?_
      refine x_bipush (-10) dX1_readFactor_30 (by decide) ?_
      refine x_aload_n dX1_readFactor_32 rfl ?_
      refine x_cVi0 dX1_readFactor_33 ml_X1_71 mX1_nameHere (ct_X1_nameHere κ.2.1 g aR aRt aRc n a cl.length b (-1) (by omega) (hn) (hb)) [0, 1] rfl rfl 0 rfl rfl rfl (Nat.le_of_ble_eq_true rfl) (by decide) (Nat.le_refl _) (Nat.le_refl _) ?_
      refine x_rei (nI (nmIx (hB b n a))) (if_pos (nmh1 c26)) ?_
      refine x_isub dX1_readFactor_36 ?_
      refine x_cVv (ws' := [(aR, .inr (1, [.ref aRt, .ref aRc, .int (nI n), .int (nI ((putL ((-10) - (nI (nmIx (hB b n a)))) cl).length)), .int (nI a), .int (-1)])), (aRt, .inl (g.2.1 1, 60, .inl (fun j => sgB (b j)))), (aRc, .inl (g.2.1 0, 60, .inl (coL (putL ((-10) - (nI (nmIx (hB b n a)))) cl) f0)))]) dX1_readFactor_37 ml_X1_58 mX1_put (ct_X1_put κ.2.1 g aR aRt aRc n a f0 cl (-1) ((-10) - (nI (nmIx (hB b n a)))) (hl)) [0, 2] rfl rfl 0 rfl rfl rfl (Nat.le_of_ble_eq_true rfl) (by decide) (Nat.le_refl _) (Nat.le_refl _) (rfl : [aR, aRc] = [aR, aRc]) rfl ?_
      refine x_aload_n dX1_readFactor_40 rfl ?_
      refine x_dup dX1_readFactor_41 rfl ?_
      refine x_get dX1_readFactor_42 0 4 inX1 fl_X1_41 rfl rfl (by decide) rfl ?_
      refine x_iconst 1 dX1_readFactor_45 (by decide) ?_
      refine x_iadd dX1_readFactor_46 ?_
      refine x_rei (nI (a + 1)) (nI_addc a 1 rfl) ?_
      refine x_put (ws' := [(aR, .inr (1, [.ref aRt, .ref aRc, .int (nI n), .int (nI ((putL ((-10) - (nI (nmIx (hB b n a)))) cl).length)), .int (nI (a + 1)), .int (-1)])), (aRt, .inl (g.2.1 1, 60, .inl (fun j => sgB (b j)))), (aRc, .inl (g.2.1 0, 60, .inl (coL (putL ((-10) - (nI (nmIx (hB b n a)))) cl) f0)))]) dX1_readFactor_47 0 4 inX1 tyX1_ok nmX1 fl_X1_41 rfl rfl (by decide) rfl (rfl) rfl (xlt rfl) rfl ?_
      refine x_goto dX1_readFactor_50 ?_
      rw [← hQ]
      refine x_vret dX1_readFactor_95 rfl (Nat.le_of_ble_eq_true rfl) (Nat.le_of_ble_eq_true rfl) ?_
      exact ⟨rfl, by first | (rw [facL, fac_num (dig1 c12)] <;> rfl) | (rw [facL, fac_nm (dig0 c12) (nmh1 c26)] <;> rfl) | (rw [facL, fac_br (dig0 c12) (nmh0 c26) (sees1 c59)] <;> rfl) | (rw [facL, fac_bad (dig0 c12) (nmh0 c26) (sees0 c59)] <;> rfl)⟩
  · have c12 : ¬ ((digI b n a) < 0) := c12
    refine x_aload_n dX1_readFactor_15 rfl ?_
    refine x_cVv (ws' := [(aR, .inr (1, [.ref aRt, .ref aRc, .int (nI n), .int (nI ((putL (nI (numI (hB b n) a).2) cl).length)), .int (nI ((numI (hB b n) a).1)), .int (-1)])), (aRt, .inl (g.2.1 1, 60, .inl (fun j => sgB (b j)))), (aRc, .inl (g.2.1 0, 60, .inl (coL (putL (nI (numI (hB b n) a).2) cl) f0)))]) dX1_readFactor_16 ml_X1_68 mX1_readNumber (ct_X1_readNumber κ.2.1 g aR aRt aRc n a b f0 cl (by omega) (hn) (hb) (by omega)) [0, 1, 2] rfl rfl 0 rfl rfl rfl (Nat.le_of_ble_eq_true rfl) (by decide) (Nat.le_refl _) (Nat.le_refl _) (rfl : [aR, aRt, aRc] = [aR, aRt, aRc]) rfl ?_
    refine x_goto dX1_readFactor_19 ?_
    rw [← hQ]
    refine x_vret dX1_readFactor_95 rfl (Nat.le_of_ble_eq_true rfl) (Nat.le_of_ble_eq_true rfl) ?_
    exact ⟨rfl, by first | (rw [facL, fac_num (dig1 c12)] <;> rfl) | (rw [facL, fac_nm (dig0 c12) (nmh1 c26)] <;> rfl) | (rw [facL, fac_br (dig0 c12) (nmh0 c26) (sees1 c59)] <;> rfl) | (rw [facL, fac_bad (dig0 c12) (nmh0 c26) (sees0 c59)] <;> rfl)⟩

-- == rp_0 ==
theorem dX1_readProduct_0 : xd cX1_readProduct 0 (.aload_n 0) 1 1 := ⟨by decide +kernel, rfl⟩
theorem dX1_readProduct_1 : xd cX1_readProduct 1 (.iload_n 1) 1 2 := ⟨by decide +kernel, rfl⟩
theorem dX1_readProduct_2 : xd cX1_readProduct 2 (.invokevirtual 61) 3 5 := ⟨by decide +kernel, rfl⟩
theorem dX1_readProduct_5 : xd cX1_readProduct 5 (.iconst 0) 1 6 := ⟨by decide +kernel, rfl⟩
theorem dX1_readProduct_6 : xd cX1_readProduct 6 (.istore_n 2) 1 7 := ⟨by decide +kernel, rfl⟩
theorem dX1_readProduct_7 : xd cX1_readProduct 7 (.iload_n 2) 1 8 := ⟨by decide +kernel, rfl⟩
theorem dX1_readProduct_8 : xd cX1_readProduct 8 (.bipush 60) 2 10 := ⟨by decide +kernel, rfl⟩
theorem dX1_readProduct_10 : xj cX1_readProduct 10 (.if_icmp .ge) 13 56 := ⟨46, by decide +kernel, rfl, by decide⟩
theorem dX1_readProduct_13 : xd cX1_readProduct 13 (.aload_n 0) 1 14 := ⟨by decide +kernel, rfl⟩
theorem dX1_readProduct_14 : xd cX1_readProduct 14 (.getfield 44) 3 17 := ⟨by decide +kernel, rfl⟩
theorem dX1_readProduct_17 : xj cX1_readProduct 17 (.ifCond .ge) 20 56 := ⟨39, by decide +kernel, rfl, by decide⟩
theorem dX1_readProduct_20 : xd cX1_readProduct 20 (.aload_n 0) 1 21 := ⟨by decide +kernel, rfl⟩
theorem dX1_readProduct_21 : xd cX1_readProduct 21 (.bipush 42) 2 23 := ⟨by decide +kernel, rfl⟩
theorem dX1_readProduct_23 : xd cX1_readProduct 23 (.invokevirtual 54) 3 26 := ⟨by decide +kernel, rfl⟩
theorem dX1_readProduct_26 : xj cX1_readProduct 26 (.ifCond .eq) 29 56 := ⟨30, by decide +kernel, rfl, by decide⟩
theorem dX1_readProduct_29 : xd cX1_readProduct 29 (.aload_n 0) 1 30 := ⟨by decide +kernel, rfl⟩
theorem dX1_readProduct_30 : xd cX1_readProduct 30 .dup 1 31 := ⟨by decide +kernel, rfl⟩
theorem dX1_readProduct_31 : xd cX1_readProduct 31 (.getfield 41) 3 34 := ⟨by decide +kernel, rfl⟩
theorem dX1_readProduct_34 : xd cX1_readProduct 34 (.iconst 1) 1 35 := ⟨by decide +kernel, rfl⟩
theorem dX1_readProduct_35 : xd cX1_readProduct 35 .iadd 1 36 := ⟨by decide +kernel, rfl⟩
theorem dX1_readProduct_36 : xd cX1_readProduct 36 (.putfield 41) 3 39 := ⟨by decide +kernel, rfl⟩
theorem dX1_readProduct_39 : xd cX1_readProduct 39 (.aload_n 0) 1 40 := ⟨by decide +kernel, rfl⟩
theorem dX1_readProduct_40 : xd cX1_readProduct 40 (.iload_n 1) 1 41 := ⟨by decide +kernel, rfl⟩
theorem dX1_readProduct_41 : xd cX1_readProduct 41 (.invokevirtual 61) 3 44 := ⟨by decide +kernel, rfl⟩
theorem dX1_readProduct_44 : xd cX1_readProduct 44 (.aload_n 0) 1 45 := ⟨by decide +kernel, rfl⟩
theorem dX1_readProduct_45 : xd cX1_readProduct 45 (.bipush (-3)) 2 47 := ⟨by decide +kernel, rfl⟩
theorem dX1_readProduct_47 : xd cX1_readProduct 47 (.invokevirtual 58) 3 50 := ⟨by decide +kernel, rfl⟩
theorem dX1_readProduct_50 : xd cX1_readProduct 50 (.iinc 2 1) 3 53 := ⟨by decide +kernel, rfl⟩
theorem dX1_readProduct_53 : xj cX1_readProduct 53 .goto 56 7 := ⟨(-46), by decide +kernel, rfl, by decide⟩
theorem dX1_readProduct_56 : xd cX1_readProduct 56 .return_ 1 57 := ⟨by decide +kernel, rfl⟩

set_option maxRecDepth 100000 in
set_option maxHeartbeats 4000000 in
theorem ct_rp_0 (l : Launch) (g : XG) (aR aRt aRc n a : Nat) (b : Nat → Nat) (f0 : Nat → Int32) (cl : List Int32) (ha : a ≤ n) (hn : n ≤ 60) (hb : ∀ j, b j < 256) (hl : cl.length ≤ 60) : Ct l g 8 0 0 yX1_readProduct cX1_readProduct 3 none [.ref aR, .int 4] [(aR, .inr (1, [.ref aRt, .ref aRc, .int (nI n), .int (nI cl.length), .int (nI a), .int ((-1))])), (aRt, .inl (g.2.1 1, 60, .inl (fun j => sgB (b j)))), (aRc, .inl (g.2.1 0, 60, .inl (coL cl f0)))] (xpv [(aR, .inr (1, [.ref aRt, .ref aRc, .int (nI n), .int (nI ((prodL (hB b n) 0 (a, false, cl)).2.2.length)), .int (nI ((prodL (hB b n) 0 (a, false, cl)).1)), .int (flB (prodL (hB b n) 0 (a, false, cl)).2.1 (prodL (hB b n) 0 (a, false, cl)).1)])), (aRt, .inl (g.2.1 1, 60, .inl (fun j => sgB (b j)))), (aRc, .inl (g.2.1 0, 60, .inl (coL ((prodL (hB b n) 0 (a, false, cl)).2.2) f0)))]) := by
  refine Ct.ofX (lv := [some (.ref aR), some (.int 4), none]) (by decide) rfl (Nat.le_of_ble_eq_true rfl) (fun κ => ?_)
  generalize hQ : xQ κ g 0 0 _ = Q
  refine x_aload_n dX1_readProduct_0 rfl ?_
  refine x_iload_n dX1_readProduct_1 rfl ?_
  refine x_cVv (ws' := [(aR, .inr (1, [.ref aRt, .ref aRc, .int (nI n), .int (nI ((facL (hB b n) 0 (a, false, cl)).2.2.length)), .int (nI ((facL (hB b n) 0 (a, false, cl)).1)), .int (flB (facL (hB b n) 0 (a, false, cl)).2.1 (facL (hB b n) 0 (a, false, cl)).1)])), (aRt, .inl (g.2.1 1, 60, .inl (fun j => sgB (b j)))), (aRc, .inl (g.2.1 0, 60, .inl (coL ((facL (hB b n) 0 (a, false, cl)).2.2) f0)))]) dX1_readProduct_2 ml_X1_61 mX1_readFactor (ct_rf_0 κ.2.1 g aR aRt aRc n a b f0 cl (by omega) (hn) (hb) (by omega)) [0, 1, 2] rfl rfl 0 rfl rfl rfl (Nat.le_of_ble_eq_true rfl) (by decide) (Nat.le_refl _) (Nat.le_refl _) (rfl : [aR, aRt, aRc] = [aR, aRt, aRc]) rfl ?_
  have hk0 := facL_ok (okH_hB b n) 0 (a, false, cl) ⟨ha, hl⟩
  refine x_iconst 0 dX1_readProduct_5 (by decide) ?_
  refine x_istore_n (lv' := [some (.ref aR), some (.int 4), some (.int 0)]) dX1_readProduct_6 (xlt rfl) rfl ?_
  have L7_1 : ∀ (i : Nat), i ≤ 60 → ∀ (qa : Nat), ∀ (qb : Bool), ∀ (qc : List Int32), (qa, qb, qc) = itr (prS (hB b n) (facL (hB b n) 0)) i (facL (hB b n) 0 (a, false, cl)) → qa ≤ n → qc.length ≤ 60 → Xs κ g 8 0 0 cX1_readProduct yX1_readProduct none Q 0 0 7 [some (.ref aR), some (.int 4), some (.int (nI i))] [] [(aR, .inr (1, [.ref aRt, .ref aRc, .int (nI n), .int (nI qc.length), .int (nI qa), .int (flB qb qa)])), (aRt, .inl (g.2.1 1, 60, .inl (fun j => sgB (b j)))), (aRc, .inl (g.2.1 0, 60, .inl (coL qc f0)))] := by
    refine upTo 60 (fun i hi7 ih7 => ?_)
    intro qa
    intro qb
    intro qc
    intro hqq hqa hqc
    refine x_iload_n dX1_readProduct_7 rfl ?_
    refine x_bipush 60 dX1_readProduct_8 (by decide) ?_
    refine x_icmp_ge dX1_readProduct_10 (fun c10 => ?_) (fun c10 => ?_)
    · have c10 : 60 ≤ (nI i) := c10
      have c10n := (nI_leI (a := 60) (b := i) (by omega) (by omega)).mp c10
      have hxc10 : i = 60 := by omega
      try rw [hxc10]
      try rw [hxc10] at hqq
      try rw [hxc10] at hqa
      try rw [hxc10] at hqc
      rw [← hQ]
      refine x_vret dX1_readProduct_56 rfl (Nat.le_of_ble_eq_true rfl) (Nat.le_of_ble_eq_true rfl) ?_
      exact ⟨rfl, by first | (rw [show prodL (hB b n) 0 (a, false, cl) = (qa, qb, qc) from Eq.trans (rfl) (hqq.symm)] <;> rfl) | (rw [show prodL (hB b n) 0 (a, false, cl) = (qa, true, qc) from Eq.trans (rfl) (itr_fix hqq rfl (by omega))] <;> rfl) | (rw [show prodL (hB b n) 0 (a, false, cl) = (qa, false, qc) from Eq.trans (rfl) (itr_fix hqq (by simp [prS, sees0 c26]) (by omega))] <;> rfl)⟩
    · have c10 : ¬ (60 ≤ (nI i)) := c10
      have c10n := mt (nI_leI (a := 60) (b := i) (by omega) (by omega)).mpr c10
      cases qb
      · skip
        refine x_eq (lv' := [some (.ref aR), some (.int 4), some (.int (nI i))]) (st' := []) (ws' := [(aR, .inr (1, [.ref aRt, .ref aRc, .int (nI n), .int (nI qc.length), .int (nI qa), .int ((-1))])), (aRt, .inl (g.2.1 1, 60, .inl (fun j => sgB (b j)))), (aRc, .inl (g.2.1 0, 60, .inl (coL qc f0)))]) ?_ rfl rfl rfl
        refine x_aload_n dX1_readProduct_13 rfl ?_
        refine x_get dX1_readProduct_14 0 5 inX1 fl_X1_44 rfl rfl (by decide) rfl ?_
        refine x_if_ge dX1_readProduct_17 (fun c17 => ?_) (fun c17 => ?_)
        · exact absurd c17 (by decide)
        refine x_aload_n dX1_readProduct_20 rfl ?_
        refine x_bipush 42 dX1_readProduct_21 (by decide) ?_
        refine x_cVi0 dX1_readProduct_23 ml_X1_54 mX1_sees (ct_X1_sees κ.2.1 g aR aRt aRc n qa qc.length b (-1) 42 (by omega) (hn) (hb) (by decide)) [0, 1] rfl rfl 0 rfl rfl rfl (Nat.le_of_ble_eq_true rfl) (by decide) (Nat.le_refl _) (Nat.le_refl _) ?_
        refine x_if_eq dX1_readProduct_26 (fun c26 => ?_) (fun c26 => ?_)
        · have c26 : (seesI b n qa 42) = 0 := c26
          rw [← hQ]
          refine x_vret dX1_readProduct_56 rfl (Nat.le_of_ble_eq_true rfl) (Nat.le_of_ble_eq_true rfl) ?_
          exact ⟨rfl, by first | (rw [show prodL (hB b n) 0 (a, false, cl) = (qa, qb, qc) from Eq.trans (rfl) (hqq.symm)] <;> rfl) | (rw [show prodL (hB b n) 0 (a, false, cl) = (qa, true, qc) from Eq.trans (rfl) (itr_fix hqq rfl (by omega))] <;> rfl) | (rw [show prodL (hB b n) 0 (a, false, cl) = (qa, false, qc) from Eq.trans (rfl) (itr_fix hqq (by simp [prS, sees0 c26]) (by omega))] <;> rfl)⟩
        · have c26 : ¬ ((seesI b n qa 42) = 0) := c26
          refine x_aload_n dX1_readProduct_29 rfl ?_
          refine x_dup dX1_readProduct_30 rfl ?_
          refine x_get dX1_readProduct_31 0 4 inX1 fl_X1_41 rfl rfl (by decide) rfl ?_
          refine x_iconst 1 dX1_readProduct_34 (by decide) ?_
          refine x_iadd dX1_readProduct_35 ?_
          refine x_rei (nI (qa + 1)) (nI_addc qa 1 rfl) ?_
          refine x_put (ws' := [(aR, .inr (1, [.ref aRt, .ref aRc, .int (nI n), .int (nI qc.length), .int (nI (qa + 1)), .int ((-1))])), (aRt, .inl (g.2.1 1, 60, .inl (fun j => sgB (b j)))), (aRc, .inl (g.2.1 0, 60, .inl (coL qc f0)))]) dX1_readProduct_36 0 4 inX1 tyX1_ok nmX1 fl_X1_41 rfl rfl (by decide) rfl (rfl) rfl (xlt rfl) rfl ?_
          refine x_aload_n dX1_readProduct_39 rfl ?_
          have hav := adv_le (okH_hB b n) (sees1 c26) (by decide)
          refine x_iload_n dX1_readProduct_40 rfl ?_
          refine x_cVv (ws' := [(aR, .inr (1, [.ref aRt, .ref aRc, .int (nI n), .int (nI ((facL (hB b n) 0 ((qa + 1), false, qc)).2.2.length)), .int (nI ((facL (hB b n) 0 ((qa + 1), false, qc)).1)), .int (flB (facL (hB b n) 0 ((qa + 1), false, qc)).2.1 (facL (hB b n) 0 ((qa + 1), false, qc)).1)])), (aRt, .inl (g.2.1 1, 60, .inl (fun j => sgB (b j)))), (aRc, .inl (g.2.1 0, 60, .inl (coL ((facL (hB b n) 0 ((qa + 1), false, qc)).2.2) f0)))]) dX1_readProduct_41 ml_X1_61 mX1_readFactor (ct_rf_0 κ.2.1 g aR aRt aRc n (qa + 1) b f0 qc (by omega) (hn) (hb) (by omega)) [0, 1, 2] rfl rfl 0 rfl rfl rfl (Nat.le_of_ble_eq_true rfl) (by decide) (Nat.le_refl _) (Nat.le_refl _) (rfl : [aR, aRt, aRc] = [aR, aRt, aRc]) rfl ?_
          have hk := facL_ok (okH_hB b n) 0 (qa + 1, false, qc) ⟨hav, hqc⟩
          refine x_aload_n dX1_readProduct_44 rfl ?_
          refine x_bipush (-3) dX1_readProduct_45 (by decide) ?_
          refine x_cVv (ws' := [(aR, .inr (1, [.ref aRt, .ref aRc, .int (nI n), .int (nI ((putL (-3) ((facL (hB b n) 0 ((qa + 1), false, qc)).2.2)).length)), .int (nI ((facL (hB b n) 0 ((qa + 1), false, qc)).1)), .int (flB (facL (hB b n) 0 ((qa + 1), false, qc)).2.1 (facL (hB b n) 0 ((qa + 1), false, qc)).1)])), (aRt, .inl (g.2.1 1, 60, .inl (fun j => sgB (b j)))), (aRc, .inl (g.2.1 0, 60, .inl (coL (putL (-3) ((facL (hB b n) 0 ((qa + 1), false, qc)).2.2)) f0)))]) dX1_readProduct_47 ml_X1_58 mX1_put (ct_X1_put κ.2.1 g aR aRt aRc n ((facL (hB b n) 0 ((qa + 1), false, qc)).1) f0 ((facL (hB b n) 0 ((qa + 1), false, qc)).2.2) (flB (facL (hB b n) 0 ((qa + 1), false, qc)).2.1 (facL (hB b n) 0 ((qa + 1), false, qc)).1) (-3) (hk.2)) [0, 2] rfl rfl 0 rfl rfl rfl (Nat.le_of_ble_eq_true rfl) (by decide) (Nat.le_refl _) (Nat.le_refl _) (rfl : [aR, aRc] = [aR, aRc]) rfl ?_
          refine x_iinc (lv' := [some (.ref aR), some (.int 4), some (.int (nI (i + 1)))]) (nI (i + 1)) dX1_readProduct_50 rfl (nI_addc i 1 rfl) rfl ?_
          refine x_goto dX1_readProduct_53 ?_
          exact ih7 (by omega) ((facL (hB b n) 0 ((qa + 1), false, qc)).1) ((facL (hB b n) 0 ((qa + 1), false, qc)).2.1) (putL (-3) (facL (hB b n) 0 ((qa + 1), false, qc)).2.2) (by rw [itr, ← hqq]; simp only [prS, sees1 c26]; rfl) (hk.1) (putL_le hk.2)
      · skip
        refine x_eq (lv' := [some (.ref aR), some (.int 4), some (.int (nI i))]) (st' := []) (ws' := [(aR, .inr (1, [.ref aRt, .ref aRc, .int (nI n), .int (nI qc.length), .int (nI qa), .int (nI qa)])), (aRt, .inl (g.2.1 1, 60, .inl (fun j => sgB (b j)))), (aRc, .inl (g.2.1 0, 60, .inl (coL qc f0)))]) ?_ rfl rfl rfl
        refine x_aload_n dX1_readProduct_13 rfl ?_
        refine x_get dX1_readProduct_14 0 5 inX1 fl_X1_44 rfl rfl (by decide) rfl ?_
        refine x_if_ge dX1_readProduct_17 (fun c17 => ?_) (fun c17 => ?_)
        · have c17 : 0 ≤ (nI qa) := c17
          have c17n := (nI_leI (a := 0) (b := qa) (by omega) (by omega)).mp c17
          rw [← hQ]
          refine x_vret dX1_readProduct_56 rfl (Nat.le_of_ble_eq_true rfl) (Nat.le_of_ble_eq_true rfl) ?_
          exact ⟨rfl, by first | (rw [show prodL (hB b n) 0 (a, false, cl) = (qa, qb, qc) from Eq.trans (rfl) (hqq.symm)] <;> rfl) | (rw [show prodL (hB b n) 0 (a, false, cl) = (qa, true, qc) from Eq.trans (rfl) (itr_fix hqq rfl (by omega))] <;> rfl) | (rw [show prodL (hB b n) 0 (a, false, cl) = (qa, false, qc) from Eq.trans (rfl) (itr_fix hqq (by simp [prS, sees0 c26]) (by omega))] <;> rfl)⟩
        · have c17 : ¬ (0 ≤ (nI qa)) := c17
          have c17n := mt (nI_leI (a := 0) (b := qa) (by omega) (by omega)).mpr c17
          exact absurd c17n (by omega)
  exact L7_1 0 (Nat.zero_le _) ((facL (hB b n) 0 (a, false, cl)).1) ((facL (hB b n) 0 (a, false, cl)).2.1) ((facL (hB b n) 0 (a, false, cl)).2.2) (rfl) (hk0.1) (hk0.2)

-- == rs_0 ==
theorem dX1_readSum_0 : xd cX1_readSum 0 (.aload_n 0) 1 1 := ⟨by decide +kernel, rfl⟩
theorem dX1_readSum_1 : xd cX1_readSum 1 (.iload_n 1) 1 2 := ⟨by decide +kernel, rfl⟩
theorem dX1_readSum_2 : xd cX1_readSum 2 (.invokevirtual 51) 3 5 := ⟨by decide +kernel, rfl⟩
theorem dX1_readSum_5 : xd cX1_readSum 5 (.iconst 0) 1 6 := ⟨by decide +kernel, rfl⟩
theorem dX1_readSum_6 : xd cX1_readSum 6 (.istore_n 2) 1 7 := ⟨by decide +kernel, rfl⟩
theorem dX1_readSum_7 : xd cX1_readSum 7 (.iload_n 2) 1 8 := ⟨by decide +kernel, rfl⟩
theorem dX1_readSum_8 : xd cX1_readSum 8 (.bipush 60) 2 10 := ⟨by decide +kernel, rfl⟩
theorem dX1_readSum_10 : xj cX1_readSum 10 (.if_icmp .ge) 13 80 := ⟨70, by decide +kernel, rfl, by decide⟩
theorem dX1_readSum_13 : xd cX1_readSum 13 (.aload_n 0) 1 14 := ⟨by decide +kernel, rfl⟩
theorem dX1_readSum_14 : xd cX1_readSum 14 (.getfield 44) 3 17 := ⟨by decide +kernel, rfl⟩
theorem dX1_readSum_17 : xj cX1_readSum 17 (.ifCond .ge) 20 80 := ⟨63, by decide +kernel, rfl, by decide⟩
theorem dX1_readSum_20 : xd cX1_readSum 20 (.aload_n 0) 1 21 := ⟨by decide +kernel, rfl⟩
theorem dX1_readSum_21 : xd cX1_readSum 21 (.bipush 43) 2 23 := ⟨by decide +kernel, rfl⟩
theorem dX1_readSum_23 : xd cX1_readSum 23 (.invokevirtual 54) 3 26 := ⟨by decide +kernel, rfl⟩
theorem dX1_readSum_26 : xj cX1_readSum 26 (.ifCond .ne) 29 38 := ⟨12, by decide +kernel, rfl, by decide⟩
theorem dX1_readSum_29 : xd cX1_readSum 29 (.aload_n 0) 1 30 := ⟨by decide +kernel, rfl⟩
theorem dX1_readSum_30 : xd cX1_readSum 30 (.bipush 45) 2 32 := ⟨by decide +kernel, rfl⟩
theorem dX1_readSum_32 : xd cX1_readSum 32 (.invokevirtual 54) 3 35 := ⟨by decide +kernel, rfl⟩
theorem dX1_readSum_35 : xj cX1_readSum 35 (.ifCond .eq) 38 80 := ⟨45, by decide +kernel, rfl, by decide⟩
theorem dX1_readSum_38 : xd cX1_readSum 38 (.aload_n 0) 1 39 := ⟨by decide +kernel, rfl⟩
theorem dX1_readSum_39 : xd cX1_readSum 39 (.bipush 43) 2 41 := ⟨by decide +kernel, rfl⟩
theorem dX1_readSum_41 : xd cX1_readSum 41 (.invokevirtual 54) 3 44 := ⟨by decide +kernel, rfl⟩
theorem dX1_readSum_44 : xj cX1_readSum 44 (.ifCond .eq) 47 51 := ⟨7, by decide +kernel, rfl, by decide⟩
theorem dX1_readSum_47 : xd cX1_readSum 47 (.iconst (-1)) 1 48 := ⟨by decide +kernel, rfl⟩
theorem dX1_readSum_48 : xj cX1_readSum 48 .goto 51 53 := ⟨5, by decide +kernel, rfl, by decide⟩
theorem dX1_readSum_51 : xd cX1_readSum 51 (.bipush (-2)) 2 53 := ⟨by decide +kernel, rfl⟩
theorem dX1_readSum_53 : xd cX1_readSum 53 (.istore_n 3) 1 54 := ⟨by decide +kernel, rfl⟩
theorem dX1_readSum_54 : xd cX1_readSum 54 (.aload_n 0) 1 55 := ⟨by decide +kernel, rfl⟩
theorem dX1_readSum_55 : xd cX1_readSum 55 .dup 1 56 := ⟨by decide +kernel, rfl⟩
theorem dX1_readSum_56 : xd cX1_readSum 56 (.getfield 41) 3 59 := ⟨by decide +kernel, rfl⟩
theorem dX1_readSum_59 : xd cX1_readSum 59 (.iconst 1) 1 60 := ⟨by decide +kernel, rfl⟩
theorem dX1_readSum_60 : xd cX1_readSum 60 .iadd 1 61 := ⟨by decide +kernel, rfl⟩
theorem dX1_readSum_61 : xd cX1_readSum 61 (.putfield 41) 3 64 := ⟨by decide +kernel, rfl⟩
theorem dX1_readSum_64 : xd cX1_readSum 64 (.aload_n 0) 1 65 := ⟨by decide +kernel, rfl⟩
theorem dX1_readSum_65 : xd cX1_readSum 65 (.iload_n 1) 1 66 := ⟨by decide +kernel, rfl⟩
theorem dX1_readSum_66 : xd cX1_readSum 66 (.invokevirtual 51) 3 69 := ⟨by decide +kernel, rfl⟩
theorem dX1_readSum_69 : xd cX1_readSum 69 (.aload_n 0) 1 70 := ⟨by decide +kernel, rfl⟩
theorem dX1_readSum_70 : xd cX1_readSum 70 (.iload_n 3) 1 71 := ⟨by decide +kernel, rfl⟩
theorem dX1_readSum_71 : xd cX1_readSum 71 (.invokevirtual 58) 3 74 := ⟨by decide +kernel, rfl⟩
theorem dX1_readSum_74 : xd cX1_readSum 74 (.iinc 2 1) 3 77 := ⟨by decide +kernel, rfl⟩
theorem dX1_readSum_77 : xj cX1_readSum 77 .goto 80 7 := ⟨(-70), by decide +kernel, rfl, by decide⟩
theorem dX1_readSum_80 : xd cX1_readSum 80 .return_ 1 81 := ⟨by decide +kernel, rfl⟩

set_option maxRecDepth 100000 in
set_option maxHeartbeats 4000000 in
theorem ct_rs_0 (l : Launch) (g : XG) (aR aRt aRc n a : Nat) (b : Nat → Nat) (f0 : Nat → Int32) (cl : List Int32) (ha : a ≤ n) (hn : n ≤ 60) (hb : ∀ j, b j < 256) (hl : cl.length ≤ 60) : Ct l g 9 0 0 yX1_readSum cX1_readSum 4 none [.ref aR, .int 4] [(aR, .inr (1, [.ref aRt, .ref aRc, .int (nI n), .int (nI cl.length), .int (nI a), .int ((-1))])), (aRt, .inl (g.2.1 1, 60, .inl (fun j => sgB (b j)))), (aRc, .inl (g.2.1 0, 60, .inl (coL cl f0)))] (xpv [(aR, .inr (1, [.ref aRt, .ref aRc, .int (nI n), .int (nI ((sumL_ (hB b n) 0 (a, false, cl)).2.2.length)), .int (nI ((sumL_ (hB b n) 0 (a, false, cl)).1)), .int (flB (sumL_ (hB b n) 0 (a, false, cl)).2.1 (sumL_ (hB b n) 0 (a, false, cl)).1)])), (aRt, .inl (g.2.1 1, 60, .inl (fun j => sgB (b j)))), (aRc, .inl (g.2.1 0, 60, .inl (coL ((sumL_ (hB b n) 0 (a, false, cl)).2.2) f0)))]) := by
  refine Ct.ofX (lv := [some (.ref aR), some (.int 4), none, none]) (by decide) rfl (Nat.le_of_ble_eq_true rfl) (fun κ => ?_)
  generalize hQ : xQ κ g 0 0 _ = Q
  refine x_aload_n dX1_readSum_0 rfl ?_
  refine x_iload_n dX1_readSum_1 rfl ?_
  refine x_cVv (ws' := [(aR, .inr (1, [.ref aRt, .ref aRc, .int (nI n), .int (nI ((prodL (hB b n) 0 (a, false, cl)).2.2.length)), .int (nI ((prodL (hB b n) 0 (a, false, cl)).1)), .int (flB (prodL (hB b n) 0 (a, false, cl)).2.1 (prodL (hB b n) 0 (a, false, cl)).1)])), (aRt, .inl (g.2.1 1, 60, .inl (fun j => sgB (b j)))), (aRc, .inl (g.2.1 0, 60, .inl (coL ((prodL (hB b n) 0 (a, false, cl)).2.2) f0)))]) dX1_readSum_2 ml_X1_51 mX1_readProduct (ct_rp_0 κ.2.1 g aR aRt aRc n a b f0 cl (by omega) (hn) (hb) (by omega)) [0, 1, 2] rfl rfl 0 rfl rfl rfl (Nat.le_of_ble_eq_true rfl) (by decide) (Nat.le_refl _) (Nat.le_refl _) (rfl : [aR, aRt, aRc] = [aR, aRt, aRc]) rfl ?_
  have hk0 := prodL_ok (okH_hB b n) 0 (a, false, cl) ⟨ha, hl⟩
  refine x_iconst 0 dX1_readSum_5 (by decide) ?_
  refine x_istore_n (lv' := [some (.ref aR), some (.int 4), some (.int 0), none]) dX1_readSum_6 (xlt rfl) rfl ?_
  have L7_1 : ∀ (i : Nat), i ≤ 60 → ∀ (qa : Nat), ∀ (qb : Bool), ∀ (qc : List Int32), (qa, qb, qc) = itr (smS (hB b n) (prodL (hB b n) 0)) i (prodL (hB b n) 0 (a, false, cl)) → qa ≤ n → qc.length ≤ 60 → Xs κ g 9 0 0 cX1_readSum yX1_readSum none Q 0 0 7 [some (.ref aR), some (.int 4), some (.int (nI i)), none] [] [(aR, .inr (1, [.ref aRt, .ref aRc, .int (nI n), .int (nI qc.length), .int (nI qa), .int (flB qb qa)])), (aRt, .inl (g.2.1 1, 60, .inl (fun j => sgB (b j)))), (aRc, .inl (g.2.1 0, 60, .inl (coL qc f0)))] := by
    refine upTo 60 (fun i hi7 ih7 => ?_)
    intro qa
    intro qb
    intro qc
    intro hqq hqa hqc
    refine x_iload_n dX1_readSum_7 rfl ?_
    refine x_bipush 60 dX1_readSum_8 (by decide) ?_
    refine x_icmp_ge dX1_readSum_10 (fun c10 => ?_) (fun c10 => ?_)
    · have c10 : 60 ≤ (nI i) := c10
      have c10n := (nI_leI (a := 60) (b := i) (by omega) (by omega)).mp c10
      have hxc10 : i = 60 := by omega
      try rw [hxc10]
      try rw [hxc10] at hqq
      try rw [hxc10] at hqa
      try rw [hxc10] at hqc
      rw [← hQ]
      refine x_vret dX1_readSum_80 rfl (Nat.le_of_ble_eq_true rfl) (Nat.le_of_ble_eq_true rfl) ?_
      exact ⟨rfl, by first | (rw [show sumL_ (hB b n) 0 (a, false, cl) = (qa, qb, qc) from Eq.trans (congrFun (sumL_eq (hB b n) 0) (a, false, cl)) (hqq.symm)] <;> rfl) | (rw [show sumL_ (hB b n) 0 (a, false, cl) = (qa, true, qc) from Eq.trans (congrFun (sumL_eq (hB b n) 0) (a, false, cl)) (itr_fix hqq rfl (by omega))] <;> rfl) | (rw [show sumL_ (hB b n) 0 (a, false, cl) = (qa, false, qc) from Eq.trans (congrFun (sumL_eq (hB b n) 0) (a, false, cl)) (itr_fix hqq (by simp [smS, sees0 c26, sees0 c35]) (by omega))] <;> rfl)⟩
    · have c10 : ¬ (60 ≤ (nI i)) := c10
      have c10n := mt (nI_leI (a := 60) (b := i) (by omega) (by omega)).mpr c10
      cases qb
      · skip
        refine x_eq (lv' := [some (.ref aR), some (.int 4), some (.int (nI i)), none]) (st' := []) (ws' := [(aR, .inr (1, [.ref aRt, .ref aRc, .int (nI n), .int (nI qc.length), .int (nI qa), .int ((-1))])), (aRt, .inl (g.2.1 1, 60, .inl (fun j => sgB (b j)))), (aRc, .inl (g.2.1 0, 60, .inl (coL qc f0)))]) ?_ rfl rfl rfl
        refine x_aload_n dX1_readSum_13 rfl ?_
        refine x_get dX1_readSum_14 0 5 inX1 fl_X1_44 rfl rfl (by decide) rfl ?_
        refine x_if_ge dX1_readSum_17 (fun c17 => ?_) (fun c17 => ?_)
        · exact absurd c17 (by decide)
        refine x_aload_n dX1_readSum_20 rfl ?_
        refine x_bipush 43 dX1_readSum_21 (by decide) ?_
        refine x_cVi0 dX1_readSum_23 ml_X1_54 mX1_sees (ct_X1_sees κ.2.1 g aR aRt aRc n qa qc.length b (-1) 43 (by omega) (hn) (hb) (by decide)) [0, 1] rfl rfl 0 rfl rfl rfl (Nat.le_of_ble_eq_true rfl) (by decide) (Nat.le_refl _) (Nat.le_refl _) ?_
        refine x_if_ne dX1_readSum_26 (fun c26 => ?_) (fun c26 => ?_)
        · have c26 : ¬ ((seesI b n qa 43) = 0) := c26
          refine x_aload_n dX1_readSum_38 rfl ?_
          refine x_bipush 43 dX1_readSum_39 (by decide) ?_
          refine x_cVi0 dX1_readSum_41 ml_X1_54 mX1_sees (ct_X1_sees κ.2.1 g aR aRt aRc n qa qc.length b (-1) 43 (by omega) (hn) (hb) (by decide)) [0, 1] rfl rfl 0 rfl rfl rfl (Nat.le_of_ble_eq_true rfl) (by decide) (Nat.le_refl _) (Nat.le_refl _) ?_
          refine x_if_eq dX1_readSum_44 (fun c44 => ?_) (fun c44 => ?_)
          · have c44 : (seesI b n qa 43) = 0 := c44
            exact absurd c44 c26
          · have c44 : ¬ ((seesI b n qa 43) = 0) := c44
            refine x_iconst (-1) dX1_readSum_47 (by decide) ?_
            refine x_goto dX1_readSum_48 ?_
            refine x_istore_n (lv' := [some (.ref aR), some (.int 4), some (.int (nI i)), some (.int ((-1)))]) dX1_readSum_53 (xlt rfl) rfl ?_
            refine x_aload_n dX1_readSum_54 rfl ?_
            refine x_dup dX1_readSum_55 rfl ?_
            refine x_get dX1_readSum_56 0 4 inX1 fl_X1_41 rfl rfl (by decide) rfl ?_
            refine x_iconst 1 dX1_readSum_59 (by decide) ?_
            refine x_iadd dX1_readSum_60 ?_
            refine x_rei (nI (qa + 1)) (nI_addc qa 1 rfl) ?_
            refine x_put (ws' := [(aR, .inr (1, [.ref aRt, .ref aRc, .int (nI n), .int (nI qc.length), .int (nI (qa + 1)), .int ((-1))])), (aRt, .inl (g.2.1 1, 60, .inl (fun j => sgB (b j)))), (aRc, .inl (g.2.1 0, 60, .inl (coL qc f0)))]) dX1_readSum_61 0 4 inX1 tyX1_ok nmX1 fl_X1_41 rfl rfl (by decide) rfl (rfl) rfl (xlt rfl) rfl ?_
            refine x_aload_n dX1_readSum_64 rfl ?_
            have hav : qa + 1 ≤ n := by first | exact adv_le (okH_hB b n) (sees1 c26) (by decide) | exact adv_le (okH_hB b n) (sees1 c35) (by decide)
            refine x_iload_n dX1_readSum_65 rfl ?_
            refine x_cVv (ws' := [(aR, .inr (1, [.ref aRt, .ref aRc, .int (nI n), .int (nI ((prodL (hB b n) 0 ((qa + 1), false, qc)).2.2.length)), .int (nI ((prodL (hB b n) 0 ((qa + 1), false, qc)).1)), .int (flB (prodL (hB b n) 0 ((qa + 1), false, qc)).2.1 (prodL (hB b n) 0 ((qa + 1), false, qc)).1)])), (aRt, .inl (g.2.1 1, 60, .inl (fun j => sgB (b j)))), (aRc, .inl (g.2.1 0, 60, .inl (coL ((prodL (hB b n) 0 ((qa + 1), false, qc)).2.2) f0)))]) dX1_readSum_66 ml_X1_51 mX1_readProduct (ct_rp_0 κ.2.1 g aR aRt aRc n (qa + 1) b f0 qc (by omega) (hn) (hb) (by omega)) [0, 1, 2] rfl rfl 0 rfl rfl rfl (Nat.le_of_ble_eq_true rfl) (by decide) (Nat.le_refl _) (Nat.le_refl _) (rfl : [aR, aRt, aRc] = [aR, aRt, aRc]) rfl ?_
            have hk := prodL_ok (okH_hB b n) 0 (qa + 1, false, qc) ⟨hav, hqc⟩
            refine x_aload_n dX1_readSum_69 rfl ?_
            refine x_iload_n dX1_readSum_70 rfl ?_
            refine x_cVv (ws' := [(aR, .inr (1, [.ref aRt, .ref aRc, .int (nI n), .int (nI ((putL (-1) ((prodL (hB b n) 0 ((qa + 1), false, qc)).2.2)).length)), .int (nI ((prodL (hB b n) 0 ((qa + 1), false, qc)).1)), .int (flB (prodL (hB b n) 0 ((qa + 1), false, qc)).2.1 (prodL (hB b n) 0 ((qa + 1), false, qc)).1)])), (aRt, .inl (g.2.1 1, 60, .inl (fun j => sgB (b j)))), (aRc, .inl (g.2.1 0, 60, .inl (coL (putL (-1) ((prodL (hB b n) 0 ((qa + 1), false, qc)).2.2)) f0)))]) dX1_readSum_71 ml_X1_58 mX1_put (ct_X1_put κ.2.1 g aR aRt aRc n ((prodL (hB b n) 0 ((qa + 1), false, qc)).1) f0 ((prodL (hB b n) 0 ((qa + 1), false, qc)).2.2) (flB (prodL (hB b n) 0 ((qa + 1), false, qc)).2.1 (prodL (hB b n) 0 ((qa + 1), false, qc)).1) (-1) (hk.2)) [0, 2] rfl rfl 0 rfl rfl rfl (Nat.le_of_ble_eq_true rfl) (by decide) (Nat.le_refl _) (Nat.le_refl _) (rfl : [aR, aRc] = [aR, aRc]) rfl ?_
            refine x_iinc (lv' := [some (.ref aR), some (.int 4), some (.int (nI (i + 1))), some (.int ((-1)))]) (nI (i + 1)) dX1_readSum_74 rfl (nI_addc i 1 rfl) rfl ?_
            refine x_goto dX1_readSum_77 ?_
            refine x_fgt (lv' := [some (.ref aR), some (.int 4), some (.int (nI (i + 1))), none]) ⟨Or.inr rfl, Or.inr rfl, Or.inr rfl, Or.inl rfl, trivial⟩ ?_
            exact ih7 (by omega) ((prodL (hB b n) 0 ((qa + 1), false, qc)).1) ((prodL (hB b n) 0 ((qa + 1), false, qc)).2.1) (putL (-1) (prodL (hB b n) 0 ((qa + 1), false, qc)).2.2) (by rw [itr, ← hqq]; simp only [smS, sees1 c26]; rfl) (hk.1) (putL_le hk.2)
        · have c26 : (seesI b n qa 43) = 0 := c26
          refine x_aload_n dX1_readSum_29 rfl ?_
          refine x_bipush 45 dX1_readSum_30 (by decide) ?_
          refine x_cVi0 dX1_readSum_32 ml_X1_54 mX1_sees (ct_X1_sees κ.2.1 g aR aRt aRc n qa qc.length b (-1) 45 (by omega) (hn) (hb) (by decide)) [0, 1] rfl rfl 0 rfl rfl rfl (Nat.le_of_ble_eq_true rfl) (by decide) (Nat.le_refl _) (Nat.le_refl _) ?_
          refine x_if_eq dX1_readSum_35 (fun c35 => ?_) (fun c35 => ?_)
          · have c35 : (seesI b n qa 45) = 0 := c35
            rw [← hQ]
            refine x_vret dX1_readSum_80 rfl (Nat.le_of_ble_eq_true rfl) (Nat.le_of_ble_eq_true rfl) ?_
            exact ⟨rfl, by first | (rw [show sumL_ (hB b n) 0 (a, false, cl) = (qa, qb, qc) from Eq.trans (congrFun (sumL_eq (hB b n) 0) (a, false, cl)) (hqq.symm)] <;> rfl) | (rw [show sumL_ (hB b n) 0 (a, false, cl) = (qa, true, qc) from Eq.trans (congrFun (sumL_eq (hB b n) 0) (a, false, cl)) (itr_fix hqq rfl (by omega))] <;> rfl) | (rw [show sumL_ (hB b n) 0 (a, false, cl) = (qa, false, qc) from Eq.trans (congrFun (sumL_eq (hB b n) 0) (a, false, cl)) (itr_fix hqq (by simp [smS, sees0 c26, sees0 c35]) (by omega))] <;> rfl)⟩
          · have c35 : ¬ ((seesI b n qa 45) = 0) := c35
            refine x_aload_n dX1_readSum_38 rfl ?_
            refine x_bipush 43 dX1_readSum_39 (by decide) ?_
            refine x_cVi0 dX1_readSum_41 ml_X1_54 mX1_sees (ct_X1_sees κ.2.1 g aR aRt aRc n qa qc.length b (-1) 43 (by omega) (hn) (hb) (by decide)) [0, 1] rfl rfl 0 rfl rfl rfl (Nat.le_of_ble_eq_true rfl) (by decide) (Nat.le_refl _) (Nat.le_refl _) ?_
            refine x_if_eq dX1_readSum_44 (fun c44 => ?_) (fun c44 => ?_)
            · have c44 : (seesI b n qa 43) = 0 := c44
              refine x_bipush (-2) dX1_readSum_51 (by decide) ?_
              refine x_istore_n (lv' := [some (.ref aR), some (.int 4), some (.int (nI i)), some (.int ((-2)))]) dX1_readSum_53 (xlt rfl) rfl ?_
              refine x_aload_n dX1_readSum_54 rfl ?_
              refine x_dup dX1_readSum_55 rfl ?_
              refine x_get dX1_readSum_56 0 4 inX1 fl_X1_41 rfl rfl (by decide) rfl ?_
              refine x_iconst 1 dX1_readSum_59 (by decide) ?_
              refine x_iadd dX1_readSum_60 ?_
              refine x_rei (nI (qa + 1)) (nI_addc qa 1 rfl) ?_
              refine x_put (ws' := [(aR, .inr (1, [.ref aRt, .ref aRc, .int (nI n), .int (nI qc.length), .int (nI (qa + 1)), .int ((-1))])), (aRt, .inl (g.2.1 1, 60, .inl (fun j => sgB (b j)))), (aRc, .inl (g.2.1 0, 60, .inl (coL qc f0)))]) dX1_readSum_61 0 4 inX1 tyX1_ok nmX1 fl_X1_41 rfl rfl (by decide) rfl (rfl) rfl (xlt rfl) rfl ?_
              refine x_aload_n dX1_readSum_64 rfl ?_
              have hav : qa + 1 ≤ n := by first | exact adv_le (okH_hB b n) (sees1 c26) (by decide) | exact adv_le (okH_hB b n) (sees1 c35) (by decide)
              refine x_iload_n dX1_readSum_65 rfl ?_
              refine x_cVv (ws' := [(aR, .inr (1, [.ref aRt, .ref aRc, .int (nI n), .int (nI ((prodL (hB b n) 0 ((qa + 1), false, qc)).2.2.length)), .int (nI ((prodL (hB b n) 0 ((qa + 1), false, qc)).1)), .int (flB (prodL (hB b n) 0 ((qa + 1), false, qc)).2.1 (prodL (hB b n) 0 ((qa + 1), false, qc)).1)])), (aRt, .inl (g.2.1 1, 60, .inl (fun j => sgB (b j)))), (aRc, .inl (g.2.1 0, 60, .inl (coL ((prodL (hB b n) 0 ((qa + 1), false, qc)).2.2) f0)))]) dX1_readSum_66 ml_X1_51 mX1_readProduct (ct_rp_0 κ.2.1 g aR aRt aRc n (qa + 1) b f0 qc (by omega) (hn) (hb) (by omega)) [0, 1, 2] rfl rfl 0 rfl rfl rfl (Nat.le_of_ble_eq_true rfl) (by decide) (Nat.le_refl _) (Nat.le_refl _) (rfl : [aR, aRt, aRc] = [aR, aRt, aRc]) rfl ?_
              have hk := prodL_ok (okH_hB b n) 0 (qa + 1, false, qc) ⟨hav, hqc⟩
              refine x_aload_n dX1_readSum_69 rfl ?_
              refine x_iload_n dX1_readSum_70 rfl ?_
              refine x_cVv (ws' := [(aR, .inr (1, [.ref aRt, .ref aRc, .int (nI n), .int (nI ((putL (-2) ((prodL (hB b n) 0 ((qa + 1), false, qc)).2.2)).length)), .int (nI ((prodL (hB b n) 0 ((qa + 1), false, qc)).1)), .int (flB (prodL (hB b n) 0 ((qa + 1), false, qc)).2.1 (prodL (hB b n) 0 ((qa + 1), false, qc)).1)])), (aRt, .inl (g.2.1 1, 60, .inl (fun j => sgB (b j)))), (aRc, .inl (g.2.1 0, 60, .inl (coL (putL (-2) ((prodL (hB b n) 0 ((qa + 1), false, qc)).2.2)) f0)))]) dX1_readSum_71 ml_X1_58 mX1_put (ct_X1_put κ.2.1 g aR aRt aRc n ((prodL (hB b n) 0 ((qa + 1), false, qc)).1) f0 ((prodL (hB b n) 0 ((qa + 1), false, qc)).2.2) (flB (prodL (hB b n) 0 ((qa + 1), false, qc)).2.1 (prodL (hB b n) 0 ((qa + 1), false, qc)).1) (-2) (hk.2)) [0, 2] rfl rfl 0 rfl rfl rfl (Nat.le_of_ble_eq_true rfl) (by decide) (Nat.le_refl _) (Nat.le_refl _) (rfl : [aR, aRc] = [aR, aRc]) rfl ?_
              refine x_iinc (lv' := [some (.ref aR), some (.int 4), some (.int (nI (i + 1))), some (.int ((-2)))]) (nI (i + 1)) dX1_readSum_74 rfl (nI_addc i 1 rfl) rfl ?_
              refine x_goto dX1_readSum_77 ?_
              refine x_fgt (lv' := [some (.ref aR), some (.int 4), some (.int (nI (i + 1))), none]) ⟨Or.inr rfl, Or.inr rfl, Or.inr rfl, Or.inl rfl, trivial⟩ ?_
              exact ih7 (by omega) ((prodL (hB b n) 0 ((qa + 1), false, qc)).1) ((prodL (hB b n) 0 ((qa + 1), false, qc)).2.1) (putL (-2) (prodL (hB b n) 0 ((qa + 1), false, qc)).2.2) (by rw [itr, ← hqq]; simp only [smS, sees1 c35]; rfl) (hk.1) (putL_le hk.2)
            · have c44 : ¬ ((seesI b n qa 43) = 0) := c44
              exact absurd c26 c44
      · skip
        refine x_eq (lv' := [some (.ref aR), some (.int 4), some (.int (nI i)), none]) (st' := []) (ws' := [(aR, .inr (1, [.ref aRt, .ref aRc, .int (nI n), .int (nI qc.length), .int (nI qa), .int (nI qa)])), (aRt, .inl (g.2.1 1, 60, .inl (fun j => sgB (b j)))), (aRc, .inl (g.2.1 0, 60, .inl (coL qc f0)))]) ?_ rfl rfl rfl
        refine x_aload_n dX1_readSum_13 rfl ?_
        refine x_get dX1_readSum_14 0 5 inX1 fl_X1_44 rfl rfl (by decide) rfl ?_
        refine x_if_ge dX1_readSum_17 (fun c17 => ?_) (fun c17 => ?_)
        · have c17 : 0 ≤ (nI qa) := c17
          have c17n := (nI_leI (a := 0) (b := qa) (by omega) (by omega)).mp c17
          rw [← hQ]
          refine x_vret dX1_readSum_80 rfl (Nat.le_of_ble_eq_true rfl) (Nat.le_of_ble_eq_true rfl) ?_
          exact ⟨rfl, by first | (rw [show sumL_ (hB b n) 0 (a, false, cl) = (qa, qb, qc) from Eq.trans (congrFun (sumL_eq (hB b n) 0) (a, false, cl)) (hqq.symm)] <;> rfl) | (rw [show sumL_ (hB b n) 0 (a, false, cl) = (qa, true, qc) from Eq.trans (congrFun (sumL_eq (hB b n) 0) (a, false, cl)) (itr_fix hqq rfl (by omega))] <;> rfl) | (rw [show sumL_ (hB b n) 0 (a, false, cl) = (qa, false, qc) from Eq.trans (congrFun (sumL_eq (hB b n) 0) (a, false, cl)) (itr_fix hqq (by simp [smS, sees0 c26, sees0 c35]) (by omega))] <;> rfl)⟩
        · have c17 : ¬ (0 ≤ (nI qa)) := c17
          have c17n := mt (nI_leI (a := 0) (b := qa) (by omega) (by omega)).mpr c17
          exact absurd c17n (by omega)
  exact L7_1 0 (Nat.zero_le _) ((prodL (hB b n) 0 (a, false, cl)).1) ((prodL (hB b n) 0 (a, false, cl)).2.1) ((prodL (hB b n) 0 (a, false, cl)).2.2) (rfl) (hk0.1) (hk0.2)

-- == rb_0 ==
theorem dX1_readBracket_0 : xd cX1_readBracket 0 (.aload_n 0) 1 1 := ⟨by decide +kernel, rfl⟩
theorem dX1_readBracket_1 : xd cX1_readBracket 1 (.iload_n 1) 1 2 := ⟨by decide +kernel, rfl⟩
theorem dX1_readBracket_2 : xd cX1_readBracket 2 (.invokevirtual 47) 3 5 := ⟨by decide +kernel, rfl⟩
theorem dX1_readBracket_5 : xd cX1_readBracket 5 (.aload_n 0) 1 6 := ⟨by decide +kernel, rfl⟩
theorem dX1_readBracket_6 : xd cX1_readBracket 6 (.getfield 44) 3 9 := ⟨by decide +kernel, rfl⟩
theorem dX1_readBracket_9 : xj cX1_readBracket 9 (.ifCond .ge) 12 60 := ⟨51, by decide +kernel, rfl, by decide⟩
theorem dX1_readBracket_12 : xd cX1_readBracket 12 (.aload_n 0) 1 13 := ⟨by decide +kernel, rfl⟩
theorem dX1_readBracket_13 : xd cX1_readBracket 13 (.bipush 63) 2 15 := ⟨by decide +kernel, rfl⟩
theorem dX1_readBracket_15 : xd cX1_readBracket 15 (.invokevirtual 54) 3 18 := ⟨by decide +kernel, rfl⟩
theorem dX1_readBracket_18 : xj cX1_readBracket 18 (.ifCond .eq) 21 60 := ⟨42, by decide +kernel, rfl, by decide⟩
theorem dX1_readBracket_21 : xd cX1_readBracket 21 (.aload_n 0) 1 22 := ⟨by decide +kernel, rfl⟩
theorem dX1_readBracket_22 : xd cX1_readBracket 22 .dup 1 23 := ⟨by decide +kernel, rfl⟩
theorem dX1_readBracket_23 : xd cX1_readBracket 23 (.getfield 41) 3 26 := ⟨by decide +kernel, rfl⟩
theorem dX1_readBracket_26 : xd cX1_readBracket 26 (.iconst 1) 1 27 := ⟨by decide +kernel, rfl⟩
theorem dX1_readBracket_27 : xd cX1_readBracket 27 .iadd 1 28 := ⟨by decide +kernel, rfl⟩
theorem dX1_readBracket_28 : xd cX1_readBracket 28 (.putfield 41) 3 31 := ⟨by decide +kernel, rfl⟩
theorem dX1_readBracket_31 : xd cX1_readBracket 31 (.aload_n 0) 1 32 := ⟨by decide +kernel, rfl⟩
theorem dX1_readBracket_32 : xd cX1_readBracket 32 (.iload_n 1) 1 33 := ⟨by decide +kernel, rfl⟩
theorem dX1_readBracket_33 : xd cX1_readBracket 33 (.invokevirtual 47) 3 36 := ⟨by decide +kernel, rfl⟩
theorem dX1_readBracket_36 : xd cX1_readBracket 36 (.aload_n 0) 1 37 := ⟨by decide +kernel, rfl⟩
theorem dX1_readBracket_37 : xd cX1_readBracket 37 (.bipush 58) 2 39 := ⟨by decide +kernel, rfl⟩
theorem dX1_readBracket_39 : xd cX1_readBracket 39 (.invokevirtual 77) 3 42 := ⟨by decide +kernel, rfl⟩
theorem dX1_readBracket_42 : xd cX1_readBracket 42 (.aload_n 0) 1 43 := ⟨by decide +kernel, rfl⟩
theorem dX1_readBracket_43 : xd cX1_readBracket 43 (.getfield 44) 3 46 := ⟨by decide +kernel, rfl⟩
theorem dX1_readBracket_46 : xj cX1_readBracket 46 (.ifCond .ge) 49 54 := ⟨8, by decide +kernel, rfl, by decide⟩
theorem dX1_readBracket_49 : xd cX1_readBracket 49 (.aload_n 0) 1 50 := ⟨by decide +kernel, rfl⟩
theorem dX1_readBracket_50 : xd cX1_readBracket 50 (.iload_n 1) 1 51 := ⟨by decide +kernel, rfl⟩
theorem dX1_readBracket_51 : xd cX1_readBracket 51 (.invokevirtual 47) 3 54 := ⟨by decide +kernel, rfl⟩
theorem dX1_readBracket_54 : xd cX1_readBracket 54 (.aload_n 0) 1 55 := ⟨by decide +kernel, rfl⟩
theorem dX1_readBracket_55 : xd cX1_readBracket 55 (.bipush (-4)) 2 57 := ⟨by decide +kernel, rfl⟩
theorem dX1_readBracket_57 : xd cX1_readBracket 57 (.invokevirtual 58) 3 60 := ⟨by decide +kernel, rfl⟩
theorem dX1_readBracket_60 : xd cX1_readBracket 60 (.aload_n 0) 1 61 := ⟨by decide +kernel, rfl⟩
theorem dX1_readBracket_61 : xd cX1_readBracket 61 (.bipush 41) 2 63 := ⟨by decide +kernel, rfl⟩
theorem dX1_readBracket_63 : xd cX1_readBracket 63 (.invokevirtual 77) 3 66 := ⟨by decide +kernel, rfl⟩
theorem dX1_readBracket_66 : xd cX1_readBracket 66 .return_ 1 67 := ⟨by decide +kernel, rfl⟩

set_option maxRecDepth 100000 in
set_option maxHeartbeats 4000000 in
theorem ct_rb_0 (l : Launch) (g : XG) (aR aRt aRc n a : Nat) (b : Nat → Nat) (f0 : Nat → Int32) (cl : List Int32) (ha : a ≤ n) (hn : n ≤ 60) (hb : ∀ j, b j < 256) (hl : cl.length ≤ 60) : Ct l g 10 0 0 yX1_readBracket cX1_readBracket 2 none [.ref aR, .int 4] [(aR, .inr (1, [.ref aRt, .ref aRc, .int (nI n), .int (nI cl.length), .int (nI a), .int ((-1))])), (aRt, .inl (g.2.1 1, 60, .inl (fun j => sgB (b j)))), (aRc, .inl (g.2.1 0, 60, .inl (coL cl f0)))] (xpv [(aR, .inr (1, [.ref aRt, .ref aRc, .int (nI n), .int (nI ((brkL (hB b n) 0 (a, false, cl)).2.2.length)), .int (nI ((brkL (hB b n) 0 (a, false, cl)).1)), .int (flB (brkL (hB b n) 0 (a, false, cl)).2.1 (brkL (hB b n) 0 (a, false, cl)).1)])), (aRt, .inl (g.2.1 1, 60, .inl (fun j => sgB (b j)))), (aRc, .inl (g.2.1 0, 60, .inl (coL ((brkL (hB b n) 0 (a, false, cl)).2.2) f0)))]) := by
  refine Ct.ofX (lv := [some (.ref aR), some (.int 4)]) (by decide) rfl (Nat.le_of_ble_eq_true rfl) (fun κ => ?_)
  generalize hQ : xQ κ g 0 0 _ = Q
  refine x_aload_n dX1_readBracket_0 rfl ?_
  refine x_iload_n dX1_readBracket_1 rfl ?_
  refine x_cVv (ws' := [(aR, .inr (1, [.ref aRt, .ref aRc, .int (nI n), .int (nI ((sumL_ (hB b n) 0 (a, false, cl)).2.2.length)), .int (nI ((sumL_ (hB b n) 0 (a, false, cl)).1)), .int (flB (sumL_ (hB b n) 0 (a, false, cl)).2.1 (sumL_ (hB b n) 0 (a, false, cl)).1)])), (aRt, .inl (g.2.1 1, 60, .inl (fun j => sgB (b j)))), (aRc, .inl (g.2.1 0, 60, .inl (coL ((sumL_ (hB b n) 0 (a, false, cl)).2.2) f0)))]) dX1_readBracket_2 ml_X1_47 mX1_readSum (ct_rs_0 κ.2.1 g aR aRt aRc n a b f0 cl (by omega) (hn) (hb) (by omega)) [0, 1, 2] rfl rfl 0 rfl rfl rfl (Nat.le_of_ble_eq_true rfl) (by decide) (Nat.le_refl _) (Nat.le_refl _) (rfl : [aR, aRt, aRc] = [aR, aRt, aRc]) rfl ?_
  have hk1 := sumL_ok (okH_hB b n) 0 (a, false, cl) ⟨ha, hl⟩
  generalize hR1 : sumL_ (hB b n) 0 (a, false, cl) = R1 at hk1 ⊢
  obtain ⟨a1, b1, c1⟩ := R1
  dsimp only [okS] at hk1
  cases b1
  · skip
    refine x_eq (lv' := [some (.ref aR), some (.int 4)]) (st' := []) (ws' := [(aR, .inr (1, [.ref aRt, .ref aRc, .int (nI n), .int (nI c1.length), .int (nI a1), .int ((-1))])), (aRt, .inl (g.2.1 1, 60, .inl (fun j => sgB (b j)))), (aRc, .inl (g.2.1 0, 60, .inl (coL (c1) f0)))]) ?_ rfl rfl rfl
    refine x_aload_n dX1_readBracket_5 rfl ?_
    refine x_get dX1_readBracket_6 0 5 inX1 fl_X1_44 rfl rfl (by decide) rfl ?_
    refine x_if_ge dX1_readBracket_9 (fun c9 => ?_) (fun c9 => ?_)
    · exact absurd c9 (by decide)
    refine x_aload_n dX1_readBracket_12 rfl ?_
    refine x_bipush 63 dX1_readBracket_13 (by decide) ?_
    refine x_cVi0 dX1_readBracket_15 ml_X1_54 mX1_sees (ct_X1_sees κ.2.1 g aR aRt aRc n a1 c1.length b (-1) 63 (by omega) (hn) (hb) (by decide)) [0, 1] rfl rfl 0 rfl rfl rfl (Nat.le_of_ble_eq_true rfl) (by decide) (Nat.le_refl _) (Nat.le_refl _) ?_
    refine x_if_eq dX1_readBracket_18 (fun c18 => ?_) (fun c18 => ?_)
    · have c18 : (seesI b n a1 63) = 0 := c18
      refine x_aload_n dX1_readBracket_60 rfl ?_
      refine x_bipush 41 dX1_readBracket_61 (by decide) ?_
      refine x_cVv (ws' := [(aR, .inr (1, [.ref aRt, .ref aRc, .int (nI n), .int (nI c1.length), .int (nI ((pasA (hB b n) 41 false a1).1)), .int (flB (pasA (hB b n) 41 false a1).2 (pasA (hB b n) 41 false a1).1)])), (aRt, .inl (g.2.1 1, 60, .inl (fun j => sgB (b j)))), (aRc, .inl (g.2.1 0, 60, .inl (coL (c1) f0)))]) dX1_readBracket_63 ml_X1_77 mX1_pass (ct_X1_pass κ.2.1 g aR aRt aRc n a1 c1.length b 41 false (by omega) (hn) (hb) (by decide)) [0, 1] rfl rfl 0 rfl rfl rfl (Nat.le_of_ble_eq_true rfl) (by decide) (Nat.le_refl _) (Nat.le_refl _) (rfl : [aR, aRt] = [aR, aRt]) rfl ?_
      rw [← hQ]
      refine x_vret dX1_readBracket_66 rfl (Nat.le_of_ble_eq_true rfl) (Nat.le_of_ble_eq_true rfl) ?_
      exact ⟨rfl, by first | (rw [brkL, brkA hR1] <;> rfl) | (rw [brkL, brkB hR1 (sees0 c18)] <;> rfl) | (rw [brkL, brkC hR1 (sees1 c18) hR3] <;> rfl) | (rw [brkL, brkD hR1 (sees1 c18) hR3] <;> rfl)⟩
    · have c18 : ¬ ((seesI b n a1 63) = 0) := c18
      refine x_aload_n dX1_readBracket_21 rfl ?_
      refine x_dup dX1_readBracket_22 rfl ?_
      refine x_get dX1_readBracket_23 0 4 inX1 fl_X1_41 rfl rfl (by decide) rfl ?_
      refine x_iconst 1 dX1_readBracket_26 (by decide) ?_
      refine x_iadd dX1_readBracket_27 ?_
      refine x_rei (nI (a1 + 1)) (nI_addc a1 1 rfl) ?_
      refine x_put (ws' := [(aR, .inr (1, [.ref aRt, .ref aRc, .int (nI n), .int (nI c1.length), .int (nI (a1 + 1)), .int ((-1))])), (aRt, .inl (g.2.1 1, 60, .inl (fun j => sgB (b j)))), (aRc, .inl (g.2.1 0, 60, .inl (coL (c1) f0)))]) dX1_readBracket_28 0 4 inX1 tyX1_ok nmX1 fl_X1_41 rfl rfl (by decide) rfl (rfl) rfl (xlt rfl) rfl ?_
      refine x_aload_n dX1_readBracket_31 rfl ?_
      have hav := adv_le (okH_hB b n) (sees1 c18) (by decide)
      refine x_iload_n dX1_readBracket_32 rfl ?_
      refine x_cVv (ws' := [(aR, .inr (1, [.ref aRt, .ref aRc, .int (nI n), .int (nI ((sumL_ (hB b n) 0 ((a1 + 1), false, c1)).2.2.length)), .int (nI ((sumL_ (hB b n) 0 ((a1 + 1), false, c1)).1)), .int (flB (sumL_ (hB b n) 0 ((a1 + 1), false, c1)).2.1 (sumL_ (hB b n) 0 ((a1 + 1), false, c1)).1)])), (aRt, .inl (g.2.1 1, 60, .inl (fun j => sgB (b j)))), (aRc, .inl (g.2.1 0, 60, .inl (coL ((sumL_ (hB b n) 0 ((a1 + 1), false, c1)).2.2) f0)))]) dX1_readBracket_33 ml_X1_47 mX1_readSum (ct_rs_0 κ.2.1 g aR aRt aRc n (a1 + 1) b f0 c1 (by omega) (hn) (hb) (by omega)) [0, 1, 2] rfl rfl 0 rfl rfl rfl (Nat.le_of_ble_eq_true rfl) (by decide) (Nat.le_refl _) (Nat.le_refl _) (rfl : [aR, aRt, aRc] = [aR, aRt, aRc]) rfl ?_
      have hk2 := sumL_ok (okH_hB b n) 0 (a1 + 1, false, c1) ⟨hav, hk1.2⟩
      dsimp only [okS] at hk2
      refine x_aload_n dX1_readBracket_36 rfl ?_
      refine x_bipush 58 dX1_readBracket_37 (by decide) ?_
      refine x_cVv (ws' := [(aR, .inr (1, [.ref aRt, .ref aRc, .int (nI n), .int (nI ((sumL_ (hB b n) 0 ((a1 + 1), false, c1)).2.2.length)), .int (nI ((pasA (hB b n) 58 ((sumL_ (hB b n) 0 ((a1 + 1), false, c1)).2.1) ((sumL_ (hB b n) 0 ((a1 + 1), false, c1)).1)).1)), .int (flB (pasA (hB b n) 58 ((sumL_ (hB b n) 0 ((a1 + 1), false, c1)).2.1) ((sumL_ (hB b n) 0 ((a1 + 1), false, c1)).1)).2 (pasA (hB b n) 58 ((sumL_ (hB b n) 0 ((a1 + 1), false, c1)).2.1) ((sumL_ (hB b n) 0 ((a1 + 1), false, c1)).1)).1)])), (aRt, .inl (g.2.1 1, 60, .inl (fun j => sgB (b j)))), (aRc, .inl (g.2.1 0, 60, .inl (coL ((sumL_ (hB b n) 0 ((a1 + 1), false, c1)).2.2) f0)))]) dX1_readBracket_39 ml_X1_77 mX1_pass (ct_X1_pass κ.2.1 g aR aRt aRc n ((sumL_ (hB b n) 0 ((a1 + 1), false, c1)).1) ((sumL_ (hB b n) 0 ((a1 + 1), false, c1)).2.2.length) b 58 ((sumL_ (hB b n) 0 ((a1 + 1), false, c1)).2.1) (by omega) (hn) (hb) (by decide)) [0, 1] rfl rfl 0 rfl rfl rfl (Nat.le_of_ble_eq_true rfl) (by decide) (Nat.le_refl _) (Nat.le_refl _) (rfl : [aR, aRt] = [aR, aRt]) rfl ?_
      have hk3 := pasA_le (okH_hB b n) (c := 58) (by decide) (bd := (sumL_ (hB b n) 0 ((a1 + 1), false, c1)).2.1) hk2.1
      generalize hR3 : pasA (hB b n) 58 ((sumL_ (hB b n) 0 ((a1 + 1), false, c1)).2.1) ((sumL_ (hB b n) 0 ((a1 + 1), false, c1)).1) = R3 at hk3 ⊢
      obtain ⟨a3, b3⟩ := R3
      dsimp only at hk3
      cases b3
      · skip
        refine x_eq (lv' := [some (.ref aR), some (.int 4)]) (st' := []) (ws' := [(aR, .inr (1, [.ref aRt, .ref aRc, .int (nI n), .int (nI ((sumL_ (hB b n) 0 ((a1 + 1), false, c1)).2.2.length)), .int (nI a3), .int ((-1))])), (aRt, .inl (g.2.1 1, 60, .inl (fun j => sgB (b j)))), (aRc, .inl (g.2.1 0, 60, .inl (coL ((sumL_ (hB b n) 0 ((a1 + 1), false, c1)).2.2) f0)))]) ?_ rfl rfl rfl
        refine x_aload_n dX1_readBracket_42 rfl ?_
        refine x_get dX1_readBracket_43 0 5 inX1 fl_X1_44 rfl rfl (by decide) rfl ?_
        refine x_if_ge dX1_readBracket_46 (fun c46 => ?_) (fun c46 => ?_)
        · exact absurd c46 (by decide)
        refine x_aload_n dX1_readBracket_49 rfl ?_
        refine x_iload_n dX1_readBracket_50 rfl ?_
        refine x_cVv (ws' := [(aR, .inr (1, [.ref aRt, .ref aRc, .int (nI n), .int (nI ((sumL_ (hB b n) 0 (a3, false, ((sumL_ (hB b n) 0 ((a1 + 1), false, c1)).2.2))).2.2.length)), .int (nI ((sumL_ (hB b n) 0 (a3, false, ((sumL_ (hB b n) 0 ((a1 + 1), false, c1)).2.2))).1)), .int (flB (sumL_ (hB b n) 0 (a3, false, ((sumL_ (hB b n) 0 ((a1 + 1), false, c1)).2.2))).2.1 (sumL_ (hB b n) 0 (a3, false, ((sumL_ (hB b n) 0 ((a1 + 1), false, c1)).2.2))).1)])), (aRt, .inl (g.2.1 1, 60, .inl (fun j => sgB (b j)))), (aRc, .inl (g.2.1 0, 60, .inl (coL ((sumL_ (hB b n) 0 (a3, false, ((sumL_ (hB b n) 0 ((a1 + 1), false, c1)).2.2))).2.2) f0)))]) dX1_readBracket_51 ml_X1_47 mX1_readSum (ct_rs_0 κ.2.1 g aR aRt aRc n a3 b f0 ((sumL_ (hB b n) 0 ((a1 + 1), false, c1)).2.2) (by omega) (hn) (hb) (by omega)) [0, 1, 2] rfl rfl 0 rfl rfl rfl (Nat.le_of_ble_eq_true rfl) (by decide) (Nat.le_refl _) (Nat.le_refl _) (rfl : [aR, aRt, aRc] = [aR, aRt, aRc]) rfl ?_
        have hk4 := sumL_ok (okH_hB b n) 0 (a3, false, (sumL_ (hB b n) 0 ((a1 + 1), false, c1)).2.2) ⟨hk3, hk2.2⟩
        dsimp only [okS] at hk4
        refine x_aload_n dX1_readBracket_54 rfl ?_
        refine x_bipush (-4) dX1_readBracket_55 (by decide) ?_
        refine x_cVv (ws' := [(aR, .inr (1, [.ref aRt, .ref aRc, .int (nI n), .int (nI ((putL (-4) ((sumL_ (hB b n) 0 (a3, false, ((sumL_ (hB b n) 0 ((a1 + 1), false, c1)).2.2))).2.2)).length)), .int (nI ((sumL_ (hB b n) 0 (a3, false, ((sumL_ (hB b n) 0 ((a1 + 1), false, c1)).2.2))).1)), .int (flB (sumL_ (hB b n) 0 (a3, false, ((sumL_ (hB b n) 0 ((a1 + 1), false, c1)).2.2))).2.1 (sumL_ (hB b n) 0 (a3, false, ((sumL_ (hB b n) 0 ((a1 + 1), false, c1)).2.2))).1)])), (aRt, .inl (g.2.1 1, 60, .inl (fun j => sgB (b j)))), (aRc, .inl (g.2.1 0, 60, .inl (coL (putL (-4) ((sumL_ (hB b n) 0 (a3, false, ((sumL_ (hB b n) 0 ((a1 + 1), false, c1)).2.2))).2.2)) f0)))]) dX1_readBracket_57 ml_X1_58 mX1_put (ct_X1_put κ.2.1 g aR aRt aRc n ((sumL_ (hB b n) 0 (a3, false, ((sumL_ (hB b n) 0 ((a1 + 1), false, c1)).2.2))).1) f0 ((sumL_ (hB b n) 0 (a3, false, ((sumL_ (hB b n) 0 ((a1 + 1), false, c1)).2.2))).2.2) (flB (sumL_ (hB b n) 0 (a3, false, ((sumL_ (hB b n) 0 ((a1 + 1), false, c1)).2.2))).2.1 (sumL_ (hB b n) 0 (a3, false, ((sumL_ (hB b n) 0 ((a1 + 1), false, c1)).2.2))).1) (-4) (by first | exact hk4.2 | exact hk2.2)) [0, 2] rfl rfl 0 rfl rfl rfl (Nat.le_of_ble_eq_true rfl) (by decide) (Nat.le_refl _) (Nat.le_refl _) (rfl : [aR, aRc] = [aR, aRc]) rfl ?_
        refine x_aload_n dX1_readBracket_60 rfl ?_
        refine x_bipush 41 dX1_readBracket_61 (by decide) ?_
        refine x_cVv (ws' := [(aR, .inr (1, [.ref aRt, .ref aRc, .int (nI n), .int (nI ((putL (-4) ((sumL_ (hB b n) 0 (a3, false, ((sumL_ (hB b n) 0 ((a1 + 1), false, c1)).2.2))).2.2)).length)), .int (nI ((pasA (hB b n) 41 ((sumL_ (hB b n) 0 (a3, false, ((sumL_ (hB b n) 0 ((a1 + 1), false, c1)).2.2))).2.1) ((sumL_ (hB b n) 0 (a3, false, ((sumL_ (hB b n) 0 ((a1 + 1), false, c1)).2.2))).1)).1)), .int (flB (pasA (hB b n) 41 ((sumL_ (hB b n) 0 (a3, false, ((sumL_ (hB b n) 0 ((a1 + 1), false, c1)).2.2))).2.1) ((sumL_ (hB b n) 0 (a3, false, ((sumL_ (hB b n) 0 ((a1 + 1), false, c1)).2.2))).1)).2 (pasA (hB b n) 41 ((sumL_ (hB b n) 0 (a3, false, ((sumL_ (hB b n) 0 ((a1 + 1), false, c1)).2.2))).2.1) ((sumL_ (hB b n) 0 (a3, false, ((sumL_ (hB b n) 0 ((a1 + 1), false, c1)).2.2))).1)).1)])), (aRt, .inl (g.2.1 1, 60, .inl (fun j => sgB (b j)))), (aRc, .inl (g.2.1 0, 60, .inl (coL (putL (-4) ((sumL_ (hB b n) 0 (a3, false, ((sumL_ (hB b n) 0 ((a1 + 1), false, c1)).2.2))).2.2)) f0)))]) dX1_readBracket_63 ml_X1_77 mX1_pass (ct_X1_pass κ.2.1 g aR aRt aRc n ((sumL_ (hB b n) 0 (a3, false, ((sumL_ (hB b n) 0 ((a1 + 1), false, c1)).2.2))).1) ((putL (-4) ((sumL_ (hB b n) 0 (a3, false, ((sumL_ (hB b n) 0 ((a1 + 1), false, c1)).2.2))).2.2)).length) b 41 ((sumL_ (hB b n) 0 (a3, false, ((sumL_ (hB b n) 0 ((a1 + 1), false, c1)).2.2))).2.1) (by omega) (hn) (hb) (by decide)) [0, 1] rfl rfl 0 rfl rfl rfl (Nat.le_of_ble_eq_true rfl) (by decide) (Nat.le_refl _) (Nat.le_refl _) (rfl : [aR, aRt] = [aR, aRt]) rfl ?_
        rw [← hQ]
        refine x_vret dX1_readBracket_66 rfl (Nat.le_of_ble_eq_true rfl) (Nat.le_of_ble_eq_true rfl) ?_
        exact ⟨rfl, by first | (rw [brkL, brkA hR1] <;> rfl) | (rw [brkL, brkB hR1 (sees0 c18)] <;> rfl) | (rw [brkL, brkC hR1 (sees1 c18) hR3] <;> rfl) | (rw [brkL, brkD hR1 (sees1 c18) hR3] <;> rfl)⟩
      · skip
        refine x_eq (lv' := [some (.ref aR), some (.int 4)]) (st' := []) (ws' := [(aR, .inr (1, [.ref aRt, .ref aRc, .int (nI n), .int (nI ((sumL_ (hB b n) 0 ((a1 + 1), false, c1)).2.2.length)), .int (nI a3), .int (nI a3)])), (aRt, .inl (g.2.1 1, 60, .inl (fun j => sgB (b j)))), (aRc, .inl (g.2.1 0, 60, .inl (coL ((sumL_ (hB b n) 0 ((a1 + 1), false, c1)).2.2) f0)))]) ?_ rfl rfl rfl
        refine x_aload_n dX1_readBracket_42 rfl ?_
        refine x_get dX1_readBracket_43 0 5 inX1 fl_X1_44 rfl rfl (by decide) rfl ?_
        refine x_if_ge dX1_readBracket_46 (fun c46 => ?_) (fun c46 => ?_)
        · have c46 : 0 ≤ (nI a3) := c46
          have c46n := (nI_leI (a := 0) (b := a3) (by omega) (by omega)).mp c46
          skip
          refine x_aload_n dX1_readBracket_54 rfl ?_
          refine x_bipush (-4) dX1_readBracket_55 (by decide) ?_
          refine x_cVv (ws' := [(aR, .inr (1, [.ref aRt, .ref aRc, .int (nI n), .int (nI ((putL (-4) ((sumL_ (hB b n) 0 ((a1 + 1), false, c1)).2.2)).length)), .int (nI a3), .int (nI a3)])), (aRt, .inl (g.2.1 1, 60, .inl (fun j => sgB (b j)))), (aRc, .inl (g.2.1 0, 60, .inl (coL (putL (-4) ((sumL_ (hB b n) 0 ((a1 + 1), false, c1)).2.2)) f0)))]) dX1_readBracket_57 ml_X1_58 mX1_put (ct_X1_put κ.2.1 g aR aRt aRc n a3 f0 ((sumL_ (hB b n) 0 ((a1 + 1), false, c1)).2.2) (nI a3) (-4) (by first | exact hk4.2 | exact hk2.2)) [0, 2] rfl rfl 0 rfl rfl rfl (Nat.le_of_ble_eq_true rfl) (by decide) (Nat.le_refl _) (Nat.le_refl _) (rfl : [aR, aRc] = [aR, aRc]) rfl ?_
          refine x_aload_n dX1_readBracket_60 rfl ?_
          refine x_bipush 41 dX1_readBracket_61 (by decide) ?_
          refine x_cVv (ws' := [(aR, .inr (1, [.ref aRt, .ref aRc, .int (nI n), .int (nI ((putL (-4) ((sumL_ (hB b n) 0 ((a1 + 1), false, c1)).2.2)).length)), .int (nI ((pasA (hB b n) 41 true a3).1)), .int (flB (pasA (hB b n) 41 true a3).2 (pasA (hB b n) 41 true a3).1)])), (aRt, .inl (g.2.1 1, 60, .inl (fun j => sgB (b j)))), (aRc, .inl (g.2.1 0, 60, .inl (coL (putL (-4) ((sumL_ (hB b n) 0 ((a1 + 1), false, c1)).2.2)) f0)))]) dX1_readBracket_63 ml_X1_77 mX1_pass (ct_X1_pass κ.2.1 g aR aRt aRc n a3 ((putL (-4) ((sumL_ (hB b n) 0 ((a1 + 1), false, c1)).2.2)).length) b 41 true (by omega) (hn) (hb) (by decide)) [0, 1] rfl rfl 0 rfl rfl rfl (Nat.le_of_ble_eq_true rfl) (by decide) (Nat.le_refl _) (Nat.le_refl _) (rfl : [aR, aRt] = [aR, aRt]) rfl ?_
          rw [← hQ]
          refine x_vret dX1_readBracket_66 rfl (Nat.le_of_ble_eq_true rfl) (Nat.le_of_ble_eq_true rfl) ?_
          exact ⟨rfl, by first | (rw [brkL, brkA hR1] <;> rfl) | (rw [brkL, brkB hR1 (sees0 c18)] <;> rfl) | (rw [brkL, brkC hR1 (sees1 c18) hR3] <;> rfl) | (rw [brkL, brkD hR1 (sees1 c18) hR3] <;> rfl)⟩
        · have c46 : ¬ (0 ≤ (nI a3)) := c46
          have c46n := mt (nI_leI (a := 0) (b := a3) (by omega) (by omega)).mpr c46
          exact absurd c46n (by omega)
  · skip
    refine x_eq (lv' := [some (.ref aR), some (.int 4)]) (st' := []) (ws' := [(aR, .inr (1, [.ref aRt, .ref aRc, .int (nI n), .int (nI c1.length), .int (nI a1), .int (nI a1)])), (aRt, .inl (g.2.1 1, 60, .inl (fun j => sgB (b j)))), (aRc, .inl (g.2.1 0, 60, .inl (coL (c1) f0)))]) ?_ rfl rfl rfl
    refine x_aload_n dX1_readBracket_5 rfl ?_
    refine x_get dX1_readBracket_6 0 5 inX1 fl_X1_44 rfl rfl (by decide) rfl ?_
    refine x_if_ge dX1_readBracket_9 (fun c9 => ?_) (fun c9 => ?_)
    · have c9 : 0 ≤ (nI a1) := c9
      have c9n := (nI_leI (a := 0) (b := a1) (by omega) (by omega)).mp c9
      refine x_aload_n dX1_readBracket_60 rfl ?_
      refine x_bipush 41 dX1_readBracket_61 (by decide) ?_
      refine x_cVv (ws' := [(aR, .inr (1, [.ref aRt, .ref aRc, .int (nI n), .int (nI c1.length), .int (nI ((pasA (hB b n) 41 true a1).1)), .int (flB (pasA (hB b n) 41 true a1).2 (pasA (hB b n) 41 true a1).1)])), (aRt, .inl (g.2.1 1, 60, .inl (fun j => sgB (b j)))), (aRc, .inl (g.2.1 0, 60, .inl (coL (c1) f0)))]) dX1_readBracket_63 ml_X1_77 mX1_pass (ct_X1_pass κ.2.1 g aR aRt aRc n a1 c1.length b 41 true (by omega) (hn) (hb) (by decide)) [0, 1] rfl rfl 0 rfl rfl rfl (Nat.le_of_ble_eq_true rfl) (by decide) (Nat.le_refl _) (Nat.le_refl _) (rfl : [aR, aRt] = [aR, aRt]) rfl ?_
      rw [← hQ]
      refine x_vret dX1_readBracket_66 rfl (Nat.le_of_ble_eq_true rfl) (Nat.le_of_ble_eq_true rfl) ?_
      exact ⟨rfl, by first | (rw [brkL, brkA hR1] <;> rfl) | (rw [brkL, brkB hR1 (sees0 c18)] <;> rfl) | (rw [brkL, brkC hR1 (sees1 c18) hR3] <;> rfl) | (rw [brkL, brkD hR1 (sees1 c18) hR3] <;> rfl)⟩
    · have c9 : ¬ (0 ≤ (nI a1)) := c9
      have c9n := mt (nI_leI (a := 0) (b := a1) (by omega) (by omega)).mpr c9
      exact absurd c9n (by omega)

-- == rf_1 ==
set_option maxRecDepth 100000 in
set_option maxHeartbeats 4000000 in
theorem ct_rf_1 (l : Launch) (g : XG) (aR aRt aRc n a : Nat) (b : Nat → Nat) (f0 : Nat → Int32) (cl : List Int32) (ha : a ≤ n) (hn : n ≤ 60) (hb : ∀ j, b j < 256) (hl : cl.length ≤ 60) : Ct l g 11 0 0 yX1_readFactor cX1_readFactor 2 none [.ref aR, .int 3] [(aR, .inr (1, [.ref aRt, .ref aRc, .int (nI n), .int (nI cl.length), .int (nI a), .int ((-1))])), (aRt, .inl (g.2.1 1, 60, .inl (fun j => sgB (b j)))), (aRc, .inl (g.2.1 0, 60, .inl (coL cl f0)))] (xpv [(aR, .inr (1, [.ref aRt, .ref aRc, .int (nI n), .int (nI ((facL (hB b n) 1 (a, false, cl)).2.2.length)), .int (nI ((facL (hB b n) 1 (a, false, cl)).1)), .int (flB (facL (hB b n) 1 (a, false, cl)).2.1 (facL (hB b n) 1 (a, false, cl)).1)])), (aRt, .inl (g.2.1 1, 60, .inl (fun j => sgB (b j)))), (aRc, .inl (g.2.1 0, 60, .inl (coL ((facL (hB b n) 1 (a, false, cl)).2.2) f0)))]) := by
  refine Ct.ofX (lv := [some (.ref aR), some (.int 3)]) (by decide) rfl (Nat.le_of_ble_eq_true rfl) (fun κ => ?_)
  generalize hQ : xQ κ g 0 0 _ = Q
  refine x_aload_n dX1_readFactor_0 rfl ?_
  refine x_get dX1_readFactor_1 0 5 inX1 fl_X1_44 rfl rfl (by decide) rfl ?_
  refine x_if_lt dX1_readFactor_4 (fun c4 => ?_) (fun c4 => ?_)
  rotate_left
  · exact absurd c4 (by decide)
  refine x_aload_n dX1_readFactor_8 rfl ?_
  refine x_cVi0 dX1_readFactor_9 ml_X1_64 mX1_digit (ct_X1_digit κ.2.1 g aR aRt aRc n a cl.length b (-1) (by omega) (hn) (hb)) [0, 1] rfl rfl 0 rfl rfl rfl (Nat.le_of_ble_eq_true rfl) (by decide) (Nat.le_refl _) (Nat.le_refl _) ?_
  refine x_if_lt dX1_readFactor_12 (fun c12 => ?_) (fun c12 => ?_)
  · have c12 : (digI b n a) < 0 := c12
    refine x_aload_n dX1_readFactor_22 rfl ?_
    refine x_cVi0 dX1_readFactor_23 ml_X1_71 mX1_nameHere (ct_X1_nameHere κ.2.1 g aR aRt aRc n a cl.length b (-1) (by omega) (hn) (hb)) [0, 1] rfl rfl 0 rfl rfl rfl (Nat.le_of_ble_eq_true rfl) (by decide) (Nat.le_refl _) (Nat.le_refl _) ?_
    refine x_if_lt dX1_readFactor_26 (fun c26 => ?_) (fun c26 => ?_)
    · have c26 : (nmhI b n a) < 0 := c26
      refine x_aload_n dX1_readFactor_53 rfl ?_
      refine x_bipush 40 dX1_readFactor_54 (by decide) ?_
      refine x_cVi0 dX1_readFactor_56 ml_X1_54 mX1_sees (ct_X1_sees κ.2.1 g aR aRt aRc n a cl.length b (-1) 40 (by omega) (hn) (hb) (by decide)) [0, 1] rfl rfl 0 rfl rfl rfl (Nat.le_of_ble_eq_true rfl) (by decide) (Nat.le_refl _) (Nat.le_refl _) ?_
      refine x_if_eq dX1_readFactor_59 (fun c59 => ?_) (fun c59 => ?_)
      · have c59 : (seesI b n a 40) = 0 := c59
        refine x_aload_n dX1_readFactor_87 rfl ?_
        refine x_aload_n dX1_readFactor_88 rfl ?_
        refine x_get dX1_readFactor_89 0 4 inX1 fl_X1_41 rfl rfl (by decide) rfl ?_
        refine x_put (ws' := [(aR, .inr (1, [.ref aRt, .ref aRc, .int (nI n), .int (nI cl.length), .int (nI a), .int (nI a)])), (aRt, .inl (g.2.1 1, 60, .inl (fun j => sgB (b j)))), (aRc, .inl (g.2.1 0, 60, .inl (coL cl f0)))]) dX1_readFactor_92 0 5 inX1 tyX1_ok nmX1 fl_X1_44 rfl rfl (by decide) rfl (rfl) rfl (xlt rfl) rfl ?_
        rw [← hQ]
        refine x_vret dX1_readFactor_95 rfl (Nat.le_of_ble_eq_true rfl) (Nat.le_of_ble_eq_true rfl) ?_
        exact ⟨rfl, by first | (rw [facL, fac_num (dig1 c12)] <;> rfl) | (rw [facL, fac_nm (dig0 c12) (nmh1 c26)] <;> rfl) | (rw [facL, fac_br (dig0 c12) (nmh0 c26) (sees1 c59)] <;> rfl) | (rw [facL, fac_bad (dig0 c12) (nmh0 c26) (sees0 c59)] <;> rfl)⟩
      · have c59 : ¬ ((seesI b n a 40) = 0) := c59
        refine x_iload_n dX1_readFactor_62 rfl ?_
        refine x_iconst 4 dX1_readFactor_63 (by decide) ?_
        refine x_icmp_ge dX1_readFactor_64 (fun c64 => ?_) (fun c64 => ?_)
        · exact absurd c64 (by decide)
        refine x_aload_n dX1_readFactor_67 rfl ?_
        refine x_dup dX1_readFactor_68 rfl ?_
        refine x_get dX1_readFactor_69 0 4 inX1 fl_X1_41 rfl rfl (by decide) rfl ?_
        refine x_iconst 1 dX1_readFactor_72 (by decide) ?_
        refine x_iadd dX1_readFactor_73 ?_
        refine x_rei (nI (a + 1)) (nI_addc a 1 rfl) ?_
        refine x_put (ws' := [(aR, .inr (1, [.ref aRt, .ref aRc, .int (nI n), .int (nI cl.length), .int (nI (a + 1)), .int ((-1))])), (aRt, .inl (g.2.1 1, 60, .inl (fun j => sgB (b j)))), (aRc, .inl (g.2.1 0, 60, .inl (coL cl f0)))]) dX1_readFactor_74 0 4 inX1 tyX1_ok nmX1 fl_X1_41 rfl rfl (by decide) rfl (rfl) rfl (xlt rfl) rfl ?_
        refine x_aload_n dX1_readFactor_77 rfl ?_
        refine x_iload_n dX1_readFactor_78 rfl ?_
        refine x_iconst 1 dX1_readFactor_79 (by decide) ?_
        have hav := adv_le (okH_hB b n) (sees1 c59) (by decide)
        refine x_iadd dX1_readFactor_80 ?_
        refine x_rei 4 (by decide) ?_
        refine x_cVv (ws' := [(aR, .inr (1, [.ref aRt, .ref aRc, .int (nI n), .int (nI ((brkL (hB b n) 0 ((a + 1), false, cl)).2.2.length)), .int (nI ((brkL (hB b n) 0 ((a + 1), false, cl)).1)), .int (flB (brkL (hB b n) 0 ((a + 1), false, cl)).2.1 (brkL (hB b n) 0 ((a + 1), false, cl)).1)])), (aRt, .inl (g.2.1 1, 60, .inl (fun j => sgB (b j)))), (aRc, .inl (g.2.1 0, 60, .inl (coL ((brkL (hB b n) 0 ((a + 1), false, cl)).2.2) f0)))]) dX1_readFactor_81 ml_X1_74 mX1_readBracket (ct_rb_0 κ.2.1 g aR aRt aRc n (a + 1) b f0 cl (by omega) (hn) (hb) (by omega)) [0, 1, 2] rfl rfl 0 rfl rfl rfl (Nat.le_of_ble_eq_true rfl) (by decide) (Nat.le_refl _) (Nat.le_refl _) (rfl : [aR, aRt, aRc] = [aR, aRt, aRc]) rfl ?_
        refine x_goto dX1_readFactor_84 ?_
        rw [← hQ]
        refine x_vret dX1_readFactor_95 rfl (Nat.le_of_ble_eq_true rfl) (Nat.le_of_ble_eq_true rfl) ?_
        exact ⟨rfl, by first | (rw [facL, fac_num (dig1 c12)] <;> rfl) | (rw [facL, fac_nm (dig0 c12) (nmh1 c26)] <;> rfl) | (rw [facL, fac_br (dig0 c12) (nmh0 c26) (sees1 c59)] <;> rfl) | (rw [facL, fac_bad (dig0 c12) (nmh0 c26) (sees0 c59)] <;> rfl)⟩
    · have c26 : ¬ ((nmhI b n a) < 0) := c26
      refine x_aload_n dX1_readFactor_29 rfl ?_
      refine x_bipush (-10) dX1_readFactor_30 (by decide) ?_
      refine x_aload_n dX1_readFactor_32 rfl ?_
      refine x_cVi0 dX1_readFactor_33 ml_X1_71 mX1_nameHere (ct_X1_nameHere κ.2.1 g aR aRt aRc n a cl.length b (-1) (by omega) (hn) (hb)) [0, 1] rfl rfl 0 rfl rfl rfl (Nat.le_of_ble_eq_true rfl) (by decide) (Nat.le_refl _) (Nat.le_refl _) ?_
      refine x_rei (nI (nmIx (hB b n a))) (if_pos (nmh1 c26)) ?_
      refine x_isub dX1_readFactor_36 ?_
      refine x_cVv (ws' := [(aR, .inr (1, [.ref aRt, .ref aRc, .int (nI n), .int (nI ((putL ((-10) - (nI (nmIx (hB b n a)))) cl).length)), .int (nI a), .int (-1)])), (aRt, .inl (g.2.1 1, 60, .inl (fun j => sgB (b j)))), (aRc, .inl (g.2.1 0, 60, .inl (coL (putL ((-10) - (nI (nmIx (hB b n a)))) cl) f0)))]) dX1_readFactor_37 ml_X1_58 mX1_put (ct_X1_put κ.2.1 g aR aRt aRc n a f0 cl (-1) ((-10) - (nI (nmIx (hB b n a)))) (hl)) [0, 2] rfl rfl 0 rfl rfl rfl (Nat.le_of_ble_eq_true rfl) (by decide) (Nat.le_refl _) (Nat.le_refl _) (rfl : [aR, aRc] = [aR, aRc]) rfl ?_
      refine x_aload_n dX1_readFactor_40 rfl ?_
      refine x_dup dX1_readFactor_41 rfl ?_
      refine x_get dX1_readFactor_42 0 4 inX1 fl_X1_41 rfl rfl (by decide) rfl ?_
      refine x_iconst 1 dX1_readFactor_45 (by decide) ?_
      refine x_iadd dX1_readFactor_46 ?_
      refine x_rei (nI (a + 1)) (nI_addc a 1 rfl) ?_
      refine x_put (ws' := [(aR, .inr (1, [.ref aRt, .ref aRc, .int (nI n), .int (nI ((putL ((-10) - (nI (nmIx (hB b n a)))) cl).length)), .int (nI (a + 1)), .int (-1)])), (aRt, .inl (g.2.1 1, 60, .inl (fun j => sgB (b j)))), (aRc, .inl (g.2.1 0, 60, .inl (coL (putL ((-10) - (nI (nmIx (hB b n a)))) cl) f0)))]) dX1_readFactor_47 0 4 inX1 tyX1_ok nmX1 fl_X1_41 rfl rfl (by decide) rfl (rfl) rfl (xlt rfl) rfl ?_
      refine x_goto dX1_readFactor_50 ?_
      rw [← hQ]
      refine x_vret dX1_readFactor_95 rfl (Nat.le_of_ble_eq_true rfl) (Nat.le_of_ble_eq_true rfl) ?_
      exact ⟨rfl, by first | (rw [facL, fac_num (dig1 c12)] <;> rfl) | (rw [facL, fac_nm (dig0 c12) (nmh1 c26)] <;> rfl) | (rw [facL, fac_br (dig0 c12) (nmh0 c26) (sees1 c59)] <;> rfl) | (rw [facL, fac_bad (dig0 c12) (nmh0 c26) (sees0 c59)] <;> rfl)⟩
  · have c12 : ¬ ((digI b n a) < 0) := c12
    refine x_aload_n dX1_readFactor_15 rfl ?_
    refine x_cVv (ws' := [(aR, .inr (1, [.ref aRt, .ref aRc, .int (nI n), .int (nI ((putL (nI (numI (hB b n) a).2) cl).length)), .int (nI ((numI (hB b n) a).1)), .int (-1)])), (aRt, .inl (g.2.1 1, 60, .inl (fun j => sgB (b j)))), (aRc, .inl (g.2.1 0, 60, .inl (coL (putL (nI (numI (hB b n) a).2) cl) f0)))]) dX1_readFactor_16 ml_X1_68 mX1_readNumber (ct_X1_readNumber κ.2.1 g aR aRt aRc n a b f0 cl (by omega) (hn) (hb) (by omega)) [0, 1, 2] rfl rfl 0 rfl rfl rfl (Nat.le_of_ble_eq_true rfl) (by decide) (Nat.le_refl _) (Nat.le_refl _) (rfl : [aR, aRt, aRc] = [aR, aRt, aRc]) rfl ?_
    refine x_goto dX1_readFactor_19 ?_
    rw [← hQ]
    refine x_vret dX1_readFactor_95 rfl (Nat.le_of_ble_eq_true rfl) (Nat.le_of_ble_eq_true rfl) ?_
    exact ⟨rfl, by first | (rw [facL, fac_num (dig1 c12)] <;> rfl) | (rw [facL, fac_nm (dig0 c12) (nmh1 c26)] <;> rfl) | (rw [facL, fac_br (dig0 c12) (nmh0 c26) (sees1 c59)] <;> rfl) | (rw [facL, fac_bad (dig0 c12) (nmh0 c26) (sees0 c59)] <;> rfl)⟩

-- == rp_1 ==
set_option maxRecDepth 100000 in
set_option maxHeartbeats 4000000 in
theorem ct_rp_1 (l : Launch) (g : XG) (aR aRt aRc n a : Nat) (b : Nat → Nat) (f0 : Nat → Int32) (cl : List Int32) (ha : a ≤ n) (hn : n ≤ 60) (hb : ∀ j, b j < 256) (hl : cl.length ≤ 60) : Ct l g 12 0 0 yX1_readProduct cX1_readProduct 3 none [.ref aR, .int 3] [(aR, .inr (1, [.ref aRt, .ref aRc, .int (nI n), .int (nI cl.length), .int (nI a), .int ((-1))])), (aRt, .inl (g.2.1 1, 60, .inl (fun j => sgB (b j)))), (aRc, .inl (g.2.1 0, 60, .inl (coL cl f0)))] (xpv [(aR, .inr (1, [.ref aRt, .ref aRc, .int (nI n), .int (nI ((prodL (hB b n) 1 (a, false, cl)).2.2.length)), .int (nI ((prodL (hB b n) 1 (a, false, cl)).1)), .int (flB (prodL (hB b n) 1 (a, false, cl)).2.1 (prodL (hB b n) 1 (a, false, cl)).1)])), (aRt, .inl (g.2.1 1, 60, .inl (fun j => sgB (b j)))), (aRc, .inl (g.2.1 0, 60, .inl (coL ((prodL (hB b n) 1 (a, false, cl)).2.2) f0)))]) := by
  refine Ct.ofX (lv := [some (.ref aR), some (.int 3), none]) (by decide) rfl (Nat.le_of_ble_eq_true rfl) (fun κ => ?_)
  generalize hQ : xQ κ g 0 0 _ = Q
  refine x_aload_n dX1_readProduct_0 rfl ?_
  refine x_iload_n dX1_readProduct_1 rfl ?_
  refine x_cVv (ws' := [(aR, .inr (1, [.ref aRt, .ref aRc, .int (nI n), .int (nI ((facL (hB b n) 1 (a, false, cl)).2.2.length)), .int (nI ((facL (hB b n) 1 (a, false, cl)).1)), .int (flB (facL (hB b n) 1 (a, false, cl)).2.1 (facL (hB b n) 1 (a, false, cl)).1)])), (aRt, .inl (g.2.1 1, 60, .inl (fun j => sgB (b j)))), (aRc, .inl (g.2.1 0, 60, .inl (coL ((facL (hB b n) 1 (a, false, cl)).2.2) f0)))]) dX1_readProduct_2 ml_X1_61 mX1_readFactor (ct_rf_1 κ.2.1 g aR aRt aRc n a b f0 cl (by omega) (hn) (hb) (by omega)) [0, 1, 2] rfl rfl 0 rfl rfl rfl (Nat.le_of_ble_eq_true rfl) (by decide) (Nat.le_refl _) (Nat.le_refl _) (rfl : [aR, aRt, aRc] = [aR, aRt, aRc]) rfl ?_
  have hk0 := facL_ok (okH_hB b n) 1 (a, false, cl) ⟨ha, hl⟩
  refine x_iconst 0 dX1_readProduct_5 (by decide) ?_
  refine x_istore_n (lv' := [some (.ref aR), some (.int 3), some (.int 0)]) dX1_readProduct_6 (xlt rfl) rfl ?_
  have L7_1 : ∀ (i : Nat), i ≤ 60 → ∀ (qa : Nat), ∀ (qb : Bool), ∀ (qc : List Int32), (qa, qb, qc) = itr (prS (hB b n) (facL (hB b n) 1)) i (facL (hB b n) 1 (a, false, cl)) → qa ≤ n → qc.length ≤ 60 → Xs κ g 12 0 0 cX1_readProduct yX1_readProduct none Q 0 0 7 [some (.ref aR), some (.int 3), some (.int (nI i))] [] [(aR, .inr (1, [.ref aRt, .ref aRc, .int (nI n), .int (nI qc.length), .int (nI qa), .int (flB qb qa)])), (aRt, .inl (g.2.1 1, 60, .inl (fun j => sgB (b j)))), (aRc, .inl (g.2.1 0, 60, .inl (coL qc f0)))] := by
    refine upTo 60 (fun i hi7 ih7 => ?_)
    intro qa
    intro qb
    intro qc
    intro hqq hqa hqc
    refine x_iload_n dX1_readProduct_7 rfl ?_
    refine x_bipush 60 dX1_readProduct_8 (by decide) ?_
    refine x_icmp_ge dX1_readProduct_10 (fun c10 => ?_) (fun c10 => ?_)
    · have c10 : 60 ≤ (nI i) := c10
      have c10n := (nI_leI (a := 60) (b := i) (by omega) (by omega)).mp c10
      have hxc10 : i = 60 := by omega
      try rw [hxc10]
      try rw [hxc10] at hqq
      try rw [hxc10] at hqa
      try rw [hxc10] at hqc
      rw [← hQ]
      refine x_vret dX1_readProduct_56 rfl (Nat.le_of_ble_eq_true rfl) (Nat.le_of_ble_eq_true rfl) ?_
      exact ⟨rfl, by first | (rw [show prodL (hB b n) 1 (a, false, cl) = (qa, qb, qc) from Eq.trans (rfl) (hqq.symm)] <;> rfl) | (rw [show prodL (hB b n) 1 (a, false, cl) = (qa, true, qc) from Eq.trans (rfl) (itr_fix hqq rfl (by omega))] <;> rfl) | (rw [show prodL (hB b n) 1 (a, false, cl) = (qa, false, qc) from Eq.trans (rfl) (itr_fix hqq (by simp [prS, sees0 c26]) (by omega))] <;> rfl)⟩
    · have c10 : ¬ (60 ≤ (nI i)) := c10
      have c10n := mt (nI_leI (a := 60) (b := i) (by omega) (by omega)).mpr c10
      cases qb
      · skip
        refine x_eq (lv' := [some (.ref aR), some (.int 3), some (.int (nI i))]) (st' := []) (ws' := [(aR, .inr (1, [.ref aRt, .ref aRc, .int (nI n), .int (nI qc.length), .int (nI qa), .int ((-1))])), (aRt, .inl (g.2.1 1, 60, .inl (fun j => sgB (b j)))), (aRc, .inl (g.2.1 0, 60, .inl (coL qc f0)))]) ?_ rfl rfl rfl
        refine x_aload_n dX1_readProduct_13 rfl ?_
        refine x_get dX1_readProduct_14 0 5 inX1 fl_X1_44 rfl rfl (by decide) rfl ?_
        refine x_if_ge dX1_readProduct_17 (fun c17 => ?_) (fun c17 => ?_)
        · exact absurd c17 (by decide)
        refine x_aload_n dX1_readProduct_20 rfl ?_
        refine x_bipush 42 dX1_readProduct_21 (by decide) ?_
        refine x_cVi0 dX1_readProduct_23 ml_X1_54 mX1_sees (ct_X1_sees κ.2.1 g aR aRt aRc n qa qc.length b (-1) 42 (by omega) (hn) (hb) (by decide)) [0, 1] rfl rfl 0 rfl rfl rfl (Nat.le_of_ble_eq_true rfl) (by decide) (Nat.le_refl _) (Nat.le_refl _) ?_
        refine x_if_eq dX1_readProduct_26 (fun c26 => ?_) (fun c26 => ?_)
        · have c26 : (seesI b n qa 42) = 0 := c26
          rw [← hQ]
          refine x_vret dX1_readProduct_56 rfl (Nat.le_of_ble_eq_true rfl) (Nat.le_of_ble_eq_true rfl) ?_
          exact ⟨rfl, by first | (rw [show prodL (hB b n) 1 (a, false, cl) = (qa, qb, qc) from Eq.trans (rfl) (hqq.symm)] <;> rfl) | (rw [show prodL (hB b n) 1 (a, false, cl) = (qa, true, qc) from Eq.trans (rfl) (itr_fix hqq rfl (by omega))] <;> rfl) | (rw [show prodL (hB b n) 1 (a, false, cl) = (qa, false, qc) from Eq.trans (rfl) (itr_fix hqq (by simp [prS, sees0 c26]) (by omega))] <;> rfl)⟩
        · have c26 : ¬ ((seesI b n qa 42) = 0) := c26
          refine x_aload_n dX1_readProduct_29 rfl ?_
          refine x_dup dX1_readProduct_30 rfl ?_
          refine x_get dX1_readProduct_31 0 4 inX1 fl_X1_41 rfl rfl (by decide) rfl ?_
          refine x_iconst 1 dX1_readProduct_34 (by decide) ?_
          refine x_iadd dX1_readProduct_35 ?_
          refine x_rei (nI (qa + 1)) (nI_addc qa 1 rfl) ?_
          refine x_put (ws' := [(aR, .inr (1, [.ref aRt, .ref aRc, .int (nI n), .int (nI qc.length), .int (nI (qa + 1)), .int ((-1))])), (aRt, .inl (g.2.1 1, 60, .inl (fun j => sgB (b j)))), (aRc, .inl (g.2.1 0, 60, .inl (coL qc f0)))]) dX1_readProduct_36 0 4 inX1 tyX1_ok nmX1 fl_X1_41 rfl rfl (by decide) rfl (rfl) rfl (xlt rfl) rfl ?_
          refine x_aload_n dX1_readProduct_39 rfl ?_
          have hav := adv_le (okH_hB b n) (sees1 c26) (by decide)
          refine x_iload_n dX1_readProduct_40 rfl ?_
          refine x_cVv (ws' := [(aR, .inr (1, [.ref aRt, .ref aRc, .int (nI n), .int (nI ((facL (hB b n) 1 ((qa + 1), false, qc)).2.2.length)), .int (nI ((facL (hB b n) 1 ((qa + 1), false, qc)).1)), .int (flB (facL (hB b n) 1 ((qa + 1), false, qc)).2.1 (facL (hB b n) 1 ((qa + 1), false, qc)).1)])), (aRt, .inl (g.2.1 1, 60, .inl (fun j => sgB (b j)))), (aRc, .inl (g.2.1 0, 60, .inl (coL ((facL (hB b n) 1 ((qa + 1), false, qc)).2.2) f0)))]) dX1_readProduct_41 ml_X1_61 mX1_readFactor (ct_rf_1 κ.2.1 g aR aRt aRc n (qa + 1) b f0 qc (by omega) (hn) (hb) (by omega)) [0, 1, 2] rfl rfl 0 rfl rfl rfl (Nat.le_of_ble_eq_true rfl) (by decide) (Nat.le_refl _) (Nat.le_refl _) (rfl : [aR, aRt, aRc] = [aR, aRt, aRc]) rfl ?_
          have hk := facL_ok (okH_hB b n) 1 (qa + 1, false, qc) ⟨hav, hqc⟩
          refine x_aload_n dX1_readProduct_44 rfl ?_
          refine x_bipush (-3) dX1_readProduct_45 (by decide) ?_
          refine x_cVv (ws' := [(aR, .inr (1, [.ref aRt, .ref aRc, .int (nI n), .int (nI ((putL (-3) ((facL (hB b n) 1 ((qa + 1), false, qc)).2.2)).length)), .int (nI ((facL (hB b n) 1 ((qa + 1), false, qc)).1)), .int (flB (facL (hB b n) 1 ((qa + 1), false, qc)).2.1 (facL (hB b n) 1 ((qa + 1), false, qc)).1)])), (aRt, .inl (g.2.1 1, 60, .inl (fun j => sgB (b j)))), (aRc, .inl (g.2.1 0, 60, .inl (coL (putL (-3) ((facL (hB b n) 1 ((qa + 1), false, qc)).2.2)) f0)))]) dX1_readProduct_47 ml_X1_58 mX1_put (ct_X1_put κ.2.1 g aR aRt aRc n ((facL (hB b n) 1 ((qa + 1), false, qc)).1) f0 ((facL (hB b n) 1 ((qa + 1), false, qc)).2.2) (flB (facL (hB b n) 1 ((qa + 1), false, qc)).2.1 (facL (hB b n) 1 ((qa + 1), false, qc)).1) (-3) (hk.2)) [0, 2] rfl rfl 0 rfl rfl rfl (Nat.le_of_ble_eq_true rfl) (by decide) (Nat.le_refl _) (Nat.le_refl _) (rfl : [aR, aRc] = [aR, aRc]) rfl ?_
          refine x_iinc (lv' := [some (.ref aR), some (.int 3), some (.int (nI (i + 1)))]) (nI (i + 1)) dX1_readProduct_50 rfl (nI_addc i 1 rfl) rfl ?_
          refine x_goto dX1_readProduct_53 ?_
          exact ih7 (by omega) ((facL (hB b n) 1 ((qa + 1), false, qc)).1) ((facL (hB b n) 1 ((qa + 1), false, qc)).2.1) (putL (-3) (facL (hB b n) 1 ((qa + 1), false, qc)).2.2) (by rw [itr, ← hqq]; simp only [prS, sees1 c26]; rfl) (hk.1) (putL_le hk.2)
      · skip
        refine x_eq (lv' := [some (.ref aR), some (.int 3), some (.int (nI i))]) (st' := []) (ws' := [(aR, .inr (1, [.ref aRt, .ref aRc, .int (nI n), .int (nI qc.length), .int (nI qa), .int (nI qa)])), (aRt, .inl (g.2.1 1, 60, .inl (fun j => sgB (b j)))), (aRc, .inl (g.2.1 0, 60, .inl (coL qc f0)))]) ?_ rfl rfl rfl
        refine x_aload_n dX1_readProduct_13 rfl ?_
        refine x_get dX1_readProduct_14 0 5 inX1 fl_X1_44 rfl rfl (by decide) rfl ?_
        refine x_if_ge dX1_readProduct_17 (fun c17 => ?_) (fun c17 => ?_)
        · have c17 : 0 ≤ (nI qa) := c17
          have c17n := (nI_leI (a := 0) (b := qa) (by omega) (by omega)).mp c17
          rw [← hQ]
          refine x_vret dX1_readProduct_56 rfl (Nat.le_of_ble_eq_true rfl) (Nat.le_of_ble_eq_true rfl) ?_
          exact ⟨rfl, by first | (rw [show prodL (hB b n) 1 (a, false, cl) = (qa, qb, qc) from Eq.trans (rfl) (hqq.symm)] <;> rfl) | (rw [show prodL (hB b n) 1 (a, false, cl) = (qa, true, qc) from Eq.trans (rfl) (itr_fix hqq rfl (by omega))] <;> rfl) | (rw [show prodL (hB b n) 1 (a, false, cl) = (qa, false, qc) from Eq.trans (rfl) (itr_fix hqq (by simp [prS, sees0 c26]) (by omega))] <;> rfl)⟩
        · have c17 : ¬ (0 ≤ (nI qa)) := c17
          have c17n := mt (nI_leI (a := 0) (b := qa) (by omega) (by omega)).mpr c17
          exact absurd c17n (by omega)
  exact L7_1 0 (Nat.zero_le _) ((facL (hB b n) 1 (a, false, cl)).1) ((facL (hB b n) 1 (a, false, cl)).2.1) ((facL (hB b n) 1 (a, false, cl)).2.2) (rfl) (hk0.1) (hk0.2)

-- == rs_1 ==
set_option maxRecDepth 100000 in
set_option maxHeartbeats 4000000 in
theorem ct_rs_1 (l : Launch) (g : XG) (aR aRt aRc n a : Nat) (b : Nat → Nat) (f0 : Nat → Int32) (cl : List Int32) (ha : a ≤ n) (hn : n ≤ 60) (hb : ∀ j, b j < 256) (hl : cl.length ≤ 60) : Ct l g 13 0 0 yX1_readSum cX1_readSum 4 none [.ref aR, .int 3] [(aR, .inr (1, [.ref aRt, .ref aRc, .int (nI n), .int (nI cl.length), .int (nI a), .int ((-1))])), (aRt, .inl (g.2.1 1, 60, .inl (fun j => sgB (b j)))), (aRc, .inl (g.2.1 0, 60, .inl (coL cl f0)))] (xpv [(aR, .inr (1, [.ref aRt, .ref aRc, .int (nI n), .int (nI ((sumL_ (hB b n) 1 (a, false, cl)).2.2.length)), .int (nI ((sumL_ (hB b n) 1 (a, false, cl)).1)), .int (flB (sumL_ (hB b n) 1 (a, false, cl)).2.1 (sumL_ (hB b n) 1 (a, false, cl)).1)])), (aRt, .inl (g.2.1 1, 60, .inl (fun j => sgB (b j)))), (aRc, .inl (g.2.1 0, 60, .inl (coL ((sumL_ (hB b n) 1 (a, false, cl)).2.2) f0)))]) := by
  refine Ct.ofX (lv := [some (.ref aR), some (.int 3), none, none]) (by decide) rfl (Nat.le_of_ble_eq_true rfl) (fun κ => ?_)
  generalize hQ : xQ κ g 0 0 _ = Q
  refine x_aload_n dX1_readSum_0 rfl ?_
  refine x_iload_n dX1_readSum_1 rfl ?_
  refine x_cVv (ws' := [(aR, .inr (1, [.ref aRt, .ref aRc, .int (nI n), .int (nI ((prodL (hB b n) 1 (a, false, cl)).2.2.length)), .int (nI ((prodL (hB b n) 1 (a, false, cl)).1)), .int (flB (prodL (hB b n) 1 (a, false, cl)).2.1 (prodL (hB b n) 1 (a, false, cl)).1)])), (aRt, .inl (g.2.1 1, 60, .inl (fun j => sgB (b j)))), (aRc, .inl (g.2.1 0, 60, .inl (coL ((prodL (hB b n) 1 (a, false, cl)).2.2) f0)))]) dX1_readSum_2 ml_X1_51 mX1_readProduct (ct_rp_1 κ.2.1 g aR aRt aRc n a b f0 cl (by omega) (hn) (hb) (by omega)) [0, 1, 2] rfl rfl 0 rfl rfl rfl (Nat.le_of_ble_eq_true rfl) (by decide) (Nat.le_refl _) (Nat.le_refl _) (rfl : [aR, aRt, aRc] = [aR, aRt, aRc]) rfl ?_
  have hk0 := prodL_ok (okH_hB b n) 1 (a, false, cl) ⟨ha, hl⟩
  refine x_iconst 0 dX1_readSum_5 (by decide) ?_
  refine x_istore_n (lv' := [some (.ref aR), some (.int 3), some (.int 0), none]) dX1_readSum_6 (xlt rfl) rfl ?_
  have L7_1 : ∀ (i : Nat), i ≤ 60 → ∀ (qa : Nat), ∀ (qb : Bool), ∀ (qc : List Int32), (qa, qb, qc) = itr (smS (hB b n) (prodL (hB b n) 1)) i (prodL (hB b n) 1 (a, false, cl)) → qa ≤ n → qc.length ≤ 60 → Xs κ g 13 0 0 cX1_readSum yX1_readSum none Q 0 0 7 [some (.ref aR), some (.int 3), some (.int (nI i)), none] [] [(aR, .inr (1, [.ref aRt, .ref aRc, .int (nI n), .int (nI qc.length), .int (nI qa), .int (flB qb qa)])), (aRt, .inl (g.2.1 1, 60, .inl (fun j => sgB (b j)))), (aRc, .inl (g.2.1 0, 60, .inl (coL qc f0)))] := by
    refine upTo 60 (fun i hi7 ih7 => ?_)
    intro qa
    intro qb
    intro qc
    intro hqq hqa hqc
    refine x_iload_n dX1_readSum_7 rfl ?_
    refine x_bipush 60 dX1_readSum_8 (by decide) ?_
    refine x_icmp_ge dX1_readSum_10 (fun c10 => ?_) (fun c10 => ?_)
    · have c10 : 60 ≤ (nI i) := c10
      have c10n := (nI_leI (a := 60) (b := i) (by omega) (by omega)).mp c10
      have hxc10 : i = 60 := by omega
      try rw [hxc10]
      try rw [hxc10] at hqq
      try rw [hxc10] at hqa
      try rw [hxc10] at hqc
      rw [← hQ]
      refine x_vret dX1_readSum_80 rfl (Nat.le_of_ble_eq_true rfl) (Nat.le_of_ble_eq_true rfl) ?_
      exact ⟨rfl, by first | (rw [show sumL_ (hB b n) 1 (a, false, cl) = (qa, qb, qc) from Eq.trans (congrFun (sumL_eq (hB b n) 1) (a, false, cl)) (hqq.symm)] <;> rfl) | (rw [show sumL_ (hB b n) 1 (a, false, cl) = (qa, true, qc) from Eq.trans (congrFun (sumL_eq (hB b n) 1) (a, false, cl)) (itr_fix hqq rfl (by omega))] <;> rfl) | (rw [show sumL_ (hB b n) 1 (a, false, cl) = (qa, false, qc) from Eq.trans (congrFun (sumL_eq (hB b n) 1) (a, false, cl)) (itr_fix hqq (by simp [smS, sees0 c26, sees0 c35]) (by omega))] <;> rfl)⟩
    · have c10 : ¬ (60 ≤ (nI i)) := c10
      have c10n := mt (nI_leI (a := 60) (b := i) (by omega) (by omega)).mpr c10
      cases qb
      · skip
        refine x_eq (lv' := [some (.ref aR), some (.int 3), some (.int (nI i)), none]) (st' := []) (ws' := [(aR, .inr (1, [.ref aRt, .ref aRc, .int (nI n), .int (nI qc.length), .int (nI qa), .int ((-1))])), (aRt, .inl (g.2.1 1, 60, .inl (fun j => sgB (b j)))), (aRc, .inl (g.2.1 0, 60, .inl (coL qc f0)))]) ?_ rfl rfl rfl
        refine x_aload_n dX1_readSum_13 rfl ?_
        refine x_get dX1_readSum_14 0 5 inX1 fl_X1_44 rfl rfl (by decide) rfl ?_
        refine x_if_ge dX1_readSum_17 (fun c17 => ?_) (fun c17 => ?_)
        · exact absurd c17 (by decide)
        refine x_aload_n dX1_readSum_20 rfl ?_
        refine x_bipush 43 dX1_readSum_21 (by decide) ?_
        refine x_cVi0 dX1_readSum_23 ml_X1_54 mX1_sees (ct_X1_sees κ.2.1 g aR aRt aRc n qa qc.length b (-1) 43 (by omega) (hn) (hb) (by decide)) [0, 1] rfl rfl 0 rfl rfl rfl (Nat.le_of_ble_eq_true rfl) (by decide) (Nat.le_refl _) (Nat.le_refl _) ?_
        refine x_if_ne dX1_readSum_26 (fun c26 => ?_) (fun c26 => ?_)
        · have c26 : ¬ ((seesI b n qa 43) = 0) := c26
          refine x_aload_n dX1_readSum_38 rfl ?_
          refine x_bipush 43 dX1_readSum_39 (by decide) ?_
          refine x_cVi0 dX1_readSum_41 ml_X1_54 mX1_sees (ct_X1_sees κ.2.1 g aR aRt aRc n qa qc.length b (-1) 43 (by omega) (hn) (hb) (by decide)) [0, 1] rfl rfl 0 rfl rfl rfl (Nat.le_of_ble_eq_true rfl) (by decide) (Nat.le_refl _) (Nat.le_refl _) ?_
          refine x_if_eq dX1_readSum_44 (fun c44 => ?_) (fun c44 => ?_)
          · have c44 : (seesI b n qa 43) = 0 := c44
            exact absurd c44 c26
          · have c44 : ¬ ((seesI b n qa 43) = 0) := c44
            refine x_iconst (-1) dX1_readSum_47 (by decide) ?_
            refine x_goto dX1_readSum_48 ?_
            refine x_istore_n (lv' := [some (.ref aR), some (.int 3), some (.int (nI i)), some (.int ((-1)))]) dX1_readSum_53 (xlt rfl) rfl ?_
            refine x_aload_n dX1_readSum_54 rfl ?_
            refine x_dup dX1_readSum_55 rfl ?_
            refine x_get dX1_readSum_56 0 4 inX1 fl_X1_41 rfl rfl (by decide) rfl ?_
            refine x_iconst 1 dX1_readSum_59 (by decide) ?_
            refine x_iadd dX1_readSum_60 ?_
            refine x_rei (nI (qa + 1)) (nI_addc qa 1 rfl) ?_
            refine x_put (ws' := [(aR, .inr (1, [.ref aRt, .ref aRc, .int (nI n), .int (nI qc.length), .int (nI (qa + 1)), .int ((-1))])), (aRt, .inl (g.2.1 1, 60, .inl (fun j => sgB (b j)))), (aRc, .inl (g.2.1 0, 60, .inl (coL qc f0)))]) dX1_readSum_61 0 4 inX1 tyX1_ok nmX1 fl_X1_41 rfl rfl (by decide) rfl (rfl) rfl (xlt rfl) rfl ?_
            refine x_aload_n dX1_readSum_64 rfl ?_
            have hav : qa + 1 ≤ n := by first | exact adv_le (okH_hB b n) (sees1 c26) (by decide) | exact adv_le (okH_hB b n) (sees1 c35) (by decide)
            refine x_iload_n dX1_readSum_65 rfl ?_
            refine x_cVv (ws' := [(aR, .inr (1, [.ref aRt, .ref aRc, .int (nI n), .int (nI ((prodL (hB b n) 1 ((qa + 1), false, qc)).2.2.length)), .int (nI ((prodL (hB b n) 1 ((qa + 1), false, qc)).1)), .int (flB (prodL (hB b n) 1 ((qa + 1), false, qc)).2.1 (prodL (hB b n) 1 ((qa + 1), false, qc)).1)])), (aRt, .inl (g.2.1 1, 60, .inl (fun j => sgB (b j)))), (aRc, .inl (g.2.1 0, 60, .inl (coL ((prodL (hB b n) 1 ((qa + 1), false, qc)).2.2) f0)))]) dX1_readSum_66 ml_X1_51 mX1_readProduct (ct_rp_1 κ.2.1 g aR aRt aRc n (qa + 1) b f0 qc (by omega) (hn) (hb) (by omega)) [0, 1, 2] rfl rfl 0 rfl rfl rfl (Nat.le_of_ble_eq_true rfl) (by decide) (Nat.le_refl _) (Nat.le_refl _) (rfl : [aR, aRt, aRc] = [aR, aRt, aRc]) rfl ?_
            have hk := prodL_ok (okH_hB b n) 1 (qa + 1, false, qc) ⟨hav, hqc⟩
            refine x_aload_n dX1_readSum_69 rfl ?_
            refine x_iload_n dX1_readSum_70 rfl ?_
            refine x_cVv (ws' := [(aR, .inr (1, [.ref aRt, .ref aRc, .int (nI n), .int (nI ((putL (-1) ((prodL (hB b n) 1 ((qa + 1), false, qc)).2.2)).length)), .int (nI ((prodL (hB b n) 1 ((qa + 1), false, qc)).1)), .int (flB (prodL (hB b n) 1 ((qa + 1), false, qc)).2.1 (prodL (hB b n) 1 ((qa + 1), false, qc)).1)])), (aRt, .inl (g.2.1 1, 60, .inl (fun j => sgB (b j)))), (aRc, .inl (g.2.1 0, 60, .inl (coL (putL (-1) ((prodL (hB b n) 1 ((qa + 1), false, qc)).2.2)) f0)))]) dX1_readSum_71 ml_X1_58 mX1_put (ct_X1_put κ.2.1 g aR aRt aRc n ((prodL (hB b n) 1 ((qa + 1), false, qc)).1) f0 ((prodL (hB b n) 1 ((qa + 1), false, qc)).2.2) (flB (prodL (hB b n) 1 ((qa + 1), false, qc)).2.1 (prodL (hB b n) 1 ((qa + 1), false, qc)).1) (-1) (hk.2)) [0, 2] rfl rfl 0 rfl rfl rfl (Nat.le_of_ble_eq_true rfl) (by decide) (Nat.le_refl _) (Nat.le_refl _) (rfl : [aR, aRc] = [aR, aRc]) rfl ?_
            refine x_iinc (lv' := [some (.ref aR), some (.int 3), some (.int (nI (i + 1))), some (.int ((-1)))]) (nI (i + 1)) dX1_readSum_74 rfl (nI_addc i 1 rfl) rfl ?_
            refine x_goto dX1_readSum_77 ?_
            refine x_fgt (lv' := [some (.ref aR), some (.int 3), some (.int (nI (i + 1))), none]) ⟨Or.inr rfl, Or.inr rfl, Or.inr rfl, Or.inl rfl, trivial⟩ ?_
            exact ih7 (by omega) ((prodL (hB b n) 1 ((qa + 1), false, qc)).1) ((prodL (hB b n) 1 ((qa + 1), false, qc)).2.1) (putL (-1) (prodL (hB b n) 1 ((qa + 1), false, qc)).2.2) (by rw [itr, ← hqq]; simp only [smS, sees1 c26]; rfl) (hk.1) (putL_le hk.2)
        · have c26 : (seesI b n qa 43) = 0 := c26
          refine x_aload_n dX1_readSum_29 rfl ?_
          refine x_bipush 45 dX1_readSum_30 (by decide) ?_
          refine x_cVi0 dX1_readSum_32 ml_X1_54 mX1_sees (ct_X1_sees κ.2.1 g aR aRt aRc n qa qc.length b (-1) 45 (by omega) (hn) (hb) (by decide)) [0, 1] rfl rfl 0 rfl rfl rfl (Nat.le_of_ble_eq_true rfl) (by decide) (Nat.le_refl _) (Nat.le_refl _) ?_
          refine x_if_eq dX1_readSum_35 (fun c35 => ?_) (fun c35 => ?_)
          · have c35 : (seesI b n qa 45) = 0 := c35
            rw [← hQ]
            refine x_vret dX1_readSum_80 rfl (Nat.le_of_ble_eq_true rfl) (Nat.le_of_ble_eq_true rfl) ?_
            exact ⟨rfl, by first | (rw [show sumL_ (hB b n) 1 (a, false, cl) = (qa, qb, qc) from Eq.trans (congrFun (sumL_eq (hB b n) 1) (a, false, cl)) (hqq.symm)] <;> rfl) | (rw [show sumL_ (hB b n) 1 (a, false, cl) = (qa, true, qc) from Eq.trans (congrFun (sumL_eq (hB b n) 1) (a, false, cl)) (itr_fix hqq rfl (by omega))] <;> rfl) | (rw [show sumL_ (hB b n) 1 (a, false, cl) = (qa, false, qc) from Eq.trans (congrFun (sumL_eq (hB b n) 1) (a, false, cl)) (itr_fix hqq (by simp [smS, sees0 c26, sees0 c35]) (by omega))] <;> rfl)⟩
          · have c35 : ¬ ((seesI b n qa 45) = 0) := c35
            refine x_aload_n dX1_readSum_38 rfl ?_
            refine x_bipush 43 dX1_readSum_39 (by decide) ?_
            refine x_cVi0 dX1_readSum_41 ml_X1_54 mX1_sees (ct_X1_sees κ.2.1 g aR aRt aRc n qa qc.length b (-1) 43 (by omega) (hn) (hb) (by decide)) [0, 1] rfl rfl 0 rfl rfl rfl (Nat.le_of_ble_eq_true rfl) (by decide) (Nat.le_refl _) (Nat.le_refl _) ?_
            refine x_if_eq dX1_readSum_44 (fun c44 => ?_) (fun c44 => ?_)
            · have c44 : (seesI b n qa 43) = 0 := c44
              refine x_bipush (-2) dX1_readSum_51 (by decide) ?_
              refine x_istore_n (lv' := [some (.ref aR), some (.int 3), some (.int (nI i)), some (.int ((-2)))]) dX1_readSum_53 (xlt rfl) rfl ?_
              refine x_aload_n dX1_readSum_54 rfl ?_
              refine x_dup dX1_readSum_55 rfl ?_
              refine x_get dX1_readSum_56 0 4 inX1 fl_X1_41 rfl rfl (by decide) rfl ?_
              refine x_iconst 1 dX1_readSum_59 (by decide) ?_
              refine x_iadd dX1_readSum_60 ?_
              refine x_rei (nI (qa + 1)) (nI_addc qa 1 rfl) ?_
              refine x_put (ws' := [(aR, .inr (1, [.ref aRt, .ref aRc, .int (nI n), .int (nI qc.length), .int (nI (qa + 1)), .int ((-1))])), (aRt, .inl (g.2.1 1, 60, .inl (fun j => sgB (b j)))), (aRc, .inl (g.2.1 0, 60, .inl (coL qc f0)))]) dX1_readSum_61 0 4 inX1 tyX1_ok nmX1 fl_X1_41 rfl rfl (by decide) rfl (rfl) rfl (xlt rfl) rfl ?_
              refine x_aload_n dX1_readSum_64 rfl ?_
              have hav : qa + 1 ≤ n := by first | exact adv_le (okH_hB b n) (sees1 c26) (by decide) | exact adv_le (okH_hB b n) (sees1 c35) (by decide)
              refine x_iload_n dX1_readSum_65 rfl ?_
              refine x_cVv (ws' := [(aR, .inr (1, [.ref aRt, .ref aRc, .int (nI n), .int (nI ((prodL (hB b n) 1 ((qa + 1), false, qc)).2.2.length)), .int (nI ((prodL (hB b n) 1 ((qa + 1), false, qc)).1)), .int (flB (prodL (hB b n) 1 ((qa + 1), false, qc)).2.1 (prodL (hB b n) 1 ((qa + 1), false, qc)).1)])), (aRt, .inl (g.2.1 1, 60, .inl (fun j => sgB (b j)))), (aRc, .inl (g.2.1 0, 60, .inl (coL ((prodL (hB b n) 1 ((qa + 1), false, qc)).2.2) f0)))]) dX1_readSum_66 ml_X1_51 mX1_readProduct (ct_rp_1 κ.2.1 g aR aRt aRc n (qa + 1) b f0 qc (by omega) (hn) (hb) (by omega)) [0, 1, 2] rfl rfl 0 rfl rfl rfl (Nat.le_of_ble_eq_true rfl) (by decide) (Nat.le_refl _) (Nat.le_refl _) (rfl : [aR, aRt, aRc] = [aR, aRt, aRc]) rfl ?_
              have hk := prodL_ok (okH_hB b n) 1 (qa + 1, false, qc) ⟨hav, hqc⟩
              refine x_aload_n dX1_readSum_69 rfl ?_
              refine x_iload_n dX1_readSum_70 rfl ?_
              refine x_cVv (ws' := [(aR, .inr (1, [.ref aRt, .ref aRc, .int (nI n), .int (nI ((putL (-2) ((prodL (hB b n) 1 ((qa + 1), false, qc)).2.2)).length)), .int (nI ((prodL (hB b n) 1 ((qa + 1), false, qc)).1)), .int (flB (prodL (hB b n) 1 ((qa + 1), false, qc)).2.1 (prodL (hB b n) 1 ((qa + 1), false, qc)).1)])), (aRt, .inl (g.2.1 1, 60, .inl (fun j => sgB (b j)))), (aRc, .inl (g.2.1 0, 60, .inl (coL (putL (-2) ((prodL (hB b n) 1 ((qa + 1), false, qc)).2.2)) f0)))]) dX1_readSum_71 ml_X1_58 mX1_put (ct_X1_put κ.2.1 g aR aRt aRc n ((prodL (hB b n) 1 ((qa + 1), false, qc)).1) f0 ((prodL (hB b n) 1 ((qa + 1), false, qc)).2.2) (flB (prodL (hB b n) 1 ((qa + 1), false, qc)).2.1 (prodL (hB b n) 1 ((qa + 1), false, qc)).1) (-2) (hk.2)) [0, 2] rfl rfl 0 rfl rfl rfl (Nat.le_of_ble_eq_true rfl) (by decide) (Nat.le_refl _) (Nat.le_refl _) (rfl : [aR, aRc] = [aR, aRc]) rfl ?_
              refine x_iinc (lv' := [some (.ref aR), some (.int 3), some (.int (nI (i + 1))), some (.int ((-2)))]) (nI (i + 1)) dX1_readSum_74 rfl (nI_addc i 1 rfl) rfl ?_
              refine x_goto dX1_readSum_77 ?_
              refine x_fgt (lv' := [some (.ref aR), some (.int 3), some (.int (nI (i + 1))), none]) ⟨Or.inr rfl, Or.inr rfl, Or.inr rfl, Or.inl rfl, trivial⟩ ?_
              exact ih7 (by omega) ((prodL (hB b n) 1 ((qa + 1), false, qc)).1) ((prodL (hB b n) 1 ((qa + 1), false, qc)).2.1) (putL (-2) (prodL (hB b n) 1 ((qa + 1), false, qc)).2.2) (by rw [itr, ← hqq]; simp only [smS, sees1 c35]; rfl) (hk.1) (putL_le hk.2)
            · have c44 : ¬ ((seesI b n qa 43) = 0) := c44
              exact absurd c26 c44
      · skip
        refine x_eq (lv' := [some (.ref aR), some (.int 3), some (.int (nI i)), none]) (st' := []) (ws' := [(aR, .inr (1, [.ref aRt, .ref aRc, .int (nI n), .int (nI qc.length), .int (nI qa), .int (nI qa)])), (aRt, .inl (g.2.1 1, 60, .inl (fun j => sgB (b j)))), (aRc, .inl (g.2.1 0, 60, .inl (coL qc f0)))]) ?_ rfl rfl rfl
        refine x_aload_n dX1_readSum_13 rfl ?_
        refine x_get dX1_readSum_14 0 5 inX1 fl_X1_44 rfl rfl (by decide) rfl ?_
        refine x_if_ge dX1_readSum_17 (fun c17 => ?_) (fun c17 => ?_)
        · have c17 : 0 ≤ (nI qa) := c17
          have c17n := (nI_leI (a := 0) (b := qa) (by omega) (by omega)).mp c17
          rw [← hQ]
          refine x_vret dX1_readSum_80 rfl (Nat.le_of_ble_eq_true rfl) (Nat.le_of_ble_eq_true rfl) ?_
          exact ⟨rfl, by first | (rw [show sumL_ (hB b n) 1 (a, false, cl) = (qa, qb, qc) from Eq.trans (congrFun (sumL_eq (hB b n) 1) (a, false, cl)) (hqq.symm)] <;> rfl) | (rw [show sumL_ (hB b n) 1 (a, false, cl) = (qa, true, qc) from Eq.trans (congrFun (sumL_eq (hB b n) 1) (a, false, cl)) (itr_fix hqq rfl (by omega))] <;> rfl) | (rw [show sumL_ (hB b n) 1 (a, false, cl) = (qa, false, qc) from Eq.trans (congrFun (sumL_eq (hB b n) 1) (a, false, cl)) (itr_fix hqq (by simp [smS, sees0 c26, sees0 c35]) (by omega))] <;> rfl)⟩
        · have c17 : ¬ (0 ≤ (nI qa)) := c17
          have c17n := mt (nI_leI (a := 0) (b := qa) (by omega) (by omega)).mpr c17
          exact absurd c17n (by omega)
  exact L7_1 0 (Nat.zero_le _) ((prodL (hB b n) 1 (a, false, cl)).1) ((prodL (hB b n) 1 (a, false, cl)).2.1) ((prodL (hB b n) 1 (a, false, cl)).2.2) (rfl) (hk0.1) (hk0.2)

-- == rb_1 ==
set_option maxRecDepth 100000 in
set_option maxHeartbeats 4000000 in
theorem ct_rb_1 (l : Launch) (g : XG) (aR aRt aRc n a : Nat) (b : Nat → Nat) (f0 : Nat → Int32) (cl : List Int32) (ha : a ≤ n) (hn : n ≤ 60) (hb : ∀ j, b j < 256) (hl : cl.length ≤ 60) : Ct l g 14 0 0 yX1_readBracket cX1_readBracket 2 none [.ref aR, .int 3] [(aR, .inr (1, [.ref aRt, .ref aRc, .int (nI n), .int (nI cl.length), .int (nI a), .int ((-1))])), (aRt, .inl (g.2.1 1, 60, .inl (fun j => sgB (b j)))), (aRc, .inl (g.2.1 0, 60, .inl (coL cl f0)))] (xpv [(aR, .inr (1, [.ref aRt, .ref aRc, .int (nI n), .int (nI ((brkL (hB b n) 1 (a, false, cl)).2.2.length)), .int (nI ((brkL (hB b n) 1 (a, false, cl)).1)), .int (flB (brkL (hB b n) 1 (a, false, cl)).2.1 (brkL (hB b n) 1 (a, false, cl)).1)])), (aRt, .inl (g.2.1 1, 60, .inl (fun j => sgB (b j)))), (aRc, .inl (g.2.1 0, 60, .inl (coL ((brkL (hB b n) 1 (a, false, cl)).2.2) f0)))]) := by
  refine Ct.ofX (lv := [some (.ref aR), some (.int 3)]) (by decide) rfl (Nat.le_of_ble_eq_true rfl) (fun κ => ?_)
  generalize hQ : xQ κ g 0 0 _ = Q
  refine x_aload_n dX1_readBracket_0 rfl ?_
  refine x_iload_n dX1_readBracket_1 rfl ?_
  refine x_cVv (ws' := [(aR, .inr (1, [.ref aRt, .ref aRc, .int (nI n), .int (nI ((sumL_ (hB b n) 1 (a, false, cl)).2.2.length)), .int (nI ((sumL_ (hB b n) 1 (a, false, cl)).1)), .int (flB (sumL_ (hB b n) 1 (a, false, cl)).2.1 (sumL_ (hB b n) 1 (a, false, cl)).1)])), (aRt, .inl (g.2.1 1, 60, .inl (fun j => sgB (b j)))), (aRc, .inl (g.2.1 0, 60, .inl (coL ((sumL_ (hB b n) 1 (a, false, cl)).2.2) f0)))]) dX1_readBracket_2 ml_X1_47 mX1_readSum (ct_rs_1 κ.2.1 g aR aRt aRc n a b f0 cl (by omega) (hn) (hb) (by omega)) [0, 1, 2] rfl rfl 0 rfl rfl rfl (Nat.le_of_ble_eq_true rfl) (by decide) (Nat.le_refl _) (Nat.le_refl _) (rfl : [aR, aRt, aRc] = [aR, aRt, aRc]) rfl ?_
  have hk1 := sumL_ok (okH_hB b n) 1 (a, false, cl) ⟨ha, hl⟩
  generalize hR1 : sumL_ (hB b n) 1 (a, false, cl) = R1 at hk1 ⊢
  obtain ⟨a1, b1, c1⟩ := R1
  dsimp only [okS] at hk1
  cases b1
  · skip
    refine x_eq (lv' := [some (.ref aR), some (.int 3)]) (st' := []) (ws' := [(aR, .inr (1, [.ref aRt, .ref aRc, .int (nI n), .int (nI c1.length), .int (nI a1), .int ((-1))])), (aRt, .inl (g.2.1 1, 60, .inl (fun j => sgB (b j)))), (aRc, .inl (g.2.1 0, 60, .inl (coL (c1) f0)))]) ?_ rfl rfl rfl
    refine x_aload_n dX1_readBracket_5 rfl ?_
    refine x_get dX1_readBracket_6 0 5 inX1 fl_X1_44 rfl rfl (by decide) rfl ?_
    refine x_if_ge dX1_readBracket_9 (fun c9 => ?_) (fun c9 => ?_)
    · exact absurd c9 (by decide)
    refine x_aload_n dX1_readBracket_12 rfl ?_
    refine x_bipush 63 dX1_readBracket_13 (by decide) ?_
    refine x_cVi0 dX1_readBracket_15 ml_X1_54 mX1_sees (ct_X1_sees κ.2.1 g aR aRt aRc n a1 c1.length b (-1) 63 (by omega) (hn) (hb) (by decide)) [0, 1] rfl rfl 0 rfl rfl rfl (Nat.le_of_ble_eq_true rfl) (by decide) (Nat.le_refl _) (Nat.le_refl _) ?_
    refine x_if_eq dX1_readBracket_18 (fun c18 => ?_) (fun c18 => ?_)
    · have c18 : (seesI b n a1 63) = 0 := c18
      refine x_aload_n dX1_readBracket_60 rfl ?_
      refine x_bipush 41 dX1_readBracket_61 (by decide) ?_
      refine x_cVv (ws' := [(aR, .inr (1, [.ref aRt, .ref aRc, .int (nI n), .int (nI c1.length), .int (nI ((pasA (hB b n) 41 false a1).1)), .int (flB (pasA (hB b n) 41 false a1).2 (pasA (hB b n) 41 false a1).1)])), (aRt, .inl (g.2.1 1, 60, .inl (fun j => sgB (b j)))), (aRc, .inl (g.2.1 0, 60, .inl (coL (c1) f0)))]) dX1_readBracket_63 ml_X1_77 mX1_pass (ct_X1_pass κ.2.1 g aR aRt aRc n a1 c1.length b 41 false (by omega) (hn) (hb) (by decide)) [0, 1] rfl rfl 0 rfl rfl rfl (Nat.le_of_ble_eq_true rfl) (by decide) (Nat.le_refl _) (Nat.le_refl _) (rfl : [aR, aRt] = [aR, aRt]) rfl ?_
      rw [← hQ]
      refine x_vret dX1_readBracket_66 rfl (Nat.le_of_ble_eq_true rfl) (Nat.le_of_ble_eq_true rfl) ?_
      exact ⟨rfl, by first | (rw [brkL, brkA hR1] <;> rfl) | (rw [brkL, brkB hR1 (sees0 c18)] <;> rfl) | (rw [brkL, brkC hR1 (sees1 c18) hR3] <;> rfl) | (rw [brkL, brkD hR1 (sees1 c18) hR3] <;> rfl)⟩
    · have c18 : ¬ ((seesI b n a1 63) = 0) := c18
      refine x_aload_n dX1_readBracket_21 rfl ?_
      refine x_dup dX1_readBracket_22 rfl ?_
      refine x_get dX1_readBracket_23 0 4 inX1 fl_X1_41 rfl rfl (by decide) rfl ?_
      refine x_iconst 1 dX1_readBracket_26 (by decide) ?_
      refine x_iadd dX1_readBracket_27 ?_
      refine x_rei (nI (a1 + 1)) (nI_addc a1 1 rfl) ?_
      refine x_put (ws' := [(aR, .inr (1, [.ref aRt, .ref aRc, .int (nI n), .int (nI c1.length), .int (nI (a1 + 1)), .int ((-1))])), (aRt, .inl (g.2.1 1, 60, .inl (fun j => sgB (b j)))), (aRc, .inl (g.2.1 0, 60, .inl (coL (c1) f0)))]) dX1_readBracket_28 0 4 inX1 tyX1_ok nmX1 fl_X1_41 rfl rfl (by decide) rfl (rfl) rfl (xlt rfl) rfl ?_
      refine x_aload_n dX1_readBracket_31 rfl ?_
      have hav := adv_le (okH_hB b n) (sees1 c18) (by decide)
      refine x_iload_n dX1_readBracket_32 rfl ?_
      refine x_cVv (ws' := [(aR, .inr (1, [.ref aRt, .ref aRc, .int (nI n), .int (nI ((sumL_ (hB b n) 1 ((a1 + 1), false, c1)).2.2.length)), .int (nI ((sumL_ (hB b n) 1 ((a1 + 1), false, c1)).1)), .int (flB (sumL_ (hB b n) 1 ((a1 + 1), false, c1)).2.1 (sumL_ (hB b n) 1 ((a1 + 1), false, c1)).1)])), (aRt, .inl (g.2.1 1, 60, .inl (fun j => sgB (b j)))), (aRc, .inl (g.2.1 0, 60, .inl (coL ((sumL_ (hB b n) 1 ((a1 + 1), false, c1)).2.2) f0)))]) dX1_readBracket_33 ml_X1_47 mX1_readSum (ct_rs_1 κ.2.1 g aR aRt aRc n (a1 + 1) b f0 c1 (by omega) (hn) (hb) (by omega)) [0, 1, 2] rfl rfl 0 rfl rfl rfl (Nat.le_of_ble_eq_true rfl) (by decide) (Nat.le_refl _) (Nat.le_refl _) (rfl : [aR, aRt, aRc] = [aR, aRt, aRc]) rfl ?_
      have hk2 := sumL_ok (okH_hB b n) 1 (a1 + 1, false, c1) ⟨hav, hk1.2⟩
      dsimp only [okS] at hk2
      refine x_aload_n dX1_readBracket_36 rfl ?_
      refine x_bipush 58 dX1_readBracket_37 (by decide) ?_
      refine x_cVv (ws' := [(aR, .inr (1, [.ref aRt, .ref aRc, .int (nI n), .int (nI ((sumL_ (hB b n) 1 ((a1 + 1), false, c1)).2.2.length)), .int (nI ((pasA (hB b n) 58 ((sumL_ (hB b n) 1 ((a1 + 1), false, c1)).2.1) ((sumL_ (hB b n) 1 ((a1 + 1), false, c1)).1)).1)), .int (flB (pasA (hB b n) 58 ((sumL_ (hB b n) 1 ((a1 + 1), false, c1)).2.1) ((sumL_ (hB b n) 1 ((a1 + 1), false, c1)).1)).2 (pasA (hB b n) 58 ((sumL_ (hB b n) 1 ((a1 + 1), false, c1)).2.1) ((sumL_ (hB b n) 1 ((a1 + 1), false, c1)).1)).1)])), (aRt, .inl (g.2.1 1, 60, .inl (fun j => sgB (b j)))), (aRc, .inl (g.2.1 0, 60, .inl (coL ((sumL_ (hB b n) 1 ((a1 + 1), false, c1)).2.2) f0)))]) dX1_readBracket_39 ml_X1_77 mX1_pass (ct_X1_pass κ.2.1 g aR aRt aRc n ((sumL_ (hB b n) 1 ((a1 + 1), false, c1)).1) ((sumL_ (hB b n) 1 ((a1 + 1), false, c1)).2.2.length) b 58 ((sumL_ (hB b n) 1 ((a1 + 1), false, c1)).2.1) (by omega) (hn) (hb) (by decide)) [0, 1] rfl rfl 0 rfl rfl rfl (Nat.le_of_ble_eq_true rfl) (by decide) (Nat.le_refl _) (Nat.le_refl _) (rfl : [aR, aRt] = [aR, aRt]) rfl ?_
      have hk3 := pasA_le (okH_hB b n) (c := 58) (by decide) (bd := (sumL_ (hB b n) 1 ((a1 + 1), false, c1)).2.1) hk2.1
      generalize hR3 : pasA (hB b n) 58 ((sumL_ (hB b n) 1 ((a1 + 1), false, c1)).2.1) ((sumL_ (hB b n) 1 ((a1 + 1), false, c1)).1) = R3 at hk3 ⊢
      obtain ⟨a3, b3⟩ := R3
      dsimp only at hk3
      cases b3
      · skip
        refine x_eq (lv' := [some (.ref aR), some (.int 3)]) (st' := []) (ws' := [(aR, .inr (1, [.ref aRt, .ref aRc, .int (nI n), .int (nI ((sumL_ (hB b n) 1 ((a1 + 1), false, c1)).2.2.length)), .int (nI a3), .int ((-1))])), (aRt, .inl (g.2.1 1, 60, .inl (fun j => sgB (b j)))), (aRc, .inl (g.2.1 0, 60, .inl (coL ((sumL_ (hB b n) 1 ((a1 + 1), false, c1)).2.2) f0)))]) ?_ rfl rfl rfl
        refine x_aload_n dX1_readBracket_42 rfl ?_
        refine x_get dX1_readBracket_43 0 5 inX1 fl_X1_44 rfl rfl (by decide) rfl ?_
        refine x_if_ge dX1_readBracket_46 (fun c46 => ?_) (fun c46 => ?_)
        · exact absurd c46 (by decide)
        refine x_aload_n dX1_readBracket_49 rfl ?_
        refine x_iload_n dX1_readBracket_50 rfl ?_
        refine x_cVv (ws' := [(aR, .inr (1, [.ref aRt, .ref aRc, .int (nI n), .int (nI ((sumL_ (hB b n) 1 (a3, false, ((sumL_ (hB b n) 1 ((a1 + 1), false, c1)).2.2))).2.2.length)), .int (nI ((sumL_ (hB b n) 1 (a3, false, ((sumL_ (hB b n) 1 ((a1 + 1), false, c1)).2.2))).1)), .int (flB (sumL_ (hB b n) 1 (a3, false, ((sumL_ (hB b n) 1 ((a1 + 1), false, c1)).2.2))).2.1 (sumL_ (hB b n) 1 (a3, false, ((sumL_ (hB b n) 1 ((a1 + 1), false, c1)).2.2))).1)])), (aRt, .inl (g.2.1 1, 60, .inl (fun j => sgB (b j)))), (aRc, .inl (g.2.1 0, 60, .inl (coL ((sumL_ (hB b n) 1 (a3, false, ((sumL_ (hB b n) 1 ((a1 + 1), false, c1)).2.2))).2.2) f0)))]) dX1_readBracket_51 ml_X1_47 mX1_readSum (ct_rs_1 κ.2.1 g aR aRt aRc n a3 b f0 ((sumL_ (hB b n) 1 ((a1 + 1), false, c1)).2.2) (by omega) (hn) (hb) (by omega)) [0, 1, 2] rfl rfl 0 rfl rfl rfl (Nat.le_of_ble_eq_true rfl) (by decide) (Nat.le_refl _) (Nat.le_refl _) (rfl : [aR, aRt, aRc] = [aR, aRt, aRc]) rfl ?_
        have hk4 := sumL_ok (okH_hB b n) 1 (a3, false, (sumL_ (hB b n) 1 ((a1 + 1), false, c1)).2.2) ⟨hk3, hk2.2⟩
        dsimp only [okS] at hk4
        refine x_aload_n dX1_readBracket_54 rfl ?_
        refine x_bipush (-4) dX1_readBracket_55 (by decide) ?_
        refine x_cVv (ws' := [(aR, .inr (1, [.ref aRt, .ref aRc, .int (nI n), .int (nI ((putL (-4) ((sumL_ (hB b n) 1 (a3, false, ((sumL_ (hB b n) 1 ((a1 + 1), false, c1)).2.2))).2.2)).length)), .int (nI ((sumL_ (hB b n) 1 (a3, false, ((sumL_ (hB b n) 1 ((a1 + 1), false, c1)).2.2))).1)), .int (flB (sumL_ (hB b n) 1 (a3, false, ((sumL_ (hB b n) 1 ((a1 + 1), false, c1)).2.2))).2.1 (sumL_ (hB b n) 1 (a3, false, ((sumL_ (hB b n) 1 ((a1 + 1), false, c1)).2.2))).1)])), (aRt, .inl (g.2.1 1, 60, .inl (fun j => sgB (b j)))), (aRc, .inl (g.2.1 0, 60, .inl (coL (putL (-4) ((sumL_ (hB b n) 1 (a3, false, ((sumL_ (hB b n) 1 ((a1 + 1), false, c1)).2.2))).2.2)) f0)))]) dX1_readBracket_57 ml_X1_58 mX1_put (ct_X1_put κ.2.1 g aR aRt aRc n ((sumL_ (hB b n) 1 (a3, false, ((sumL_ (hB b n) 1 ((a1 + 1), false, c1)).2.2))).1) f0 ((sumL_ (hB b n) 1 (a3, false, ((sumL_ (hB b n) 1 ((a1 + 1), false, c1)).2.2))).2.2) (flB (sumL_ (hB b n) 1 (a3, false, ((sumL_ (hB b n) 1 ((a1 + 1), false, c1)).2.2))).2.1 (sumL_ (hB b n) 1 (a3, false, ((sumL_ (hB b n) 1 ((a1 + 1), false, c1)).2.2))).1) (-4) (by first | exact hk4.2 | exact hk2.2)) [0, 2] rfl rfl 0 rfl rfl rfl (Nat.le_of_ble_eq_true rfl) (by decide) (Nat.le_refl _) (Nat.le_refl _) (rfl : [aR, aRc] = [aR, aRc]) rfl ?_
        refine x_aload_n dX1_readBracket_60 rfl ?_
        refine x_bipush 41 dX1_readBracket_61 (by decide) ?_
        refine x_cVv (ws' := [(aR, .inr (1, [.ref aRt, .ref aRc, .int (nI n), .int (nI ((putL (-4) ((sumL_ (hB b n) 1 (a3, false, ((sumL_ (hB b n) 1 ((a1 + 1), false, c1)).2.2))).2.2)).length)), .int (nI ((pasA (hB b n) 41 ((sumL_ (hB b n) 1 (a3, false, ((sumL_ (hB b n) 1 ((a1 + 1), false, c1)).2.2))).2.1) ((sumL_ (hB b n) 1 (a3, false, ((sumL_ (hB b n) 1 ((a1 + 1), false, c1)).2.2))).1)).1)), .int (flB (pasA (hB b n) 41 ((sumL_ (hB b n) 1 (a3, false, ((sumL_ (hB b n) 1 ((a1 + 1), false, c1)).2.2))).2.1) ((sumL_ (hB b n) 1 (a3, false, ((sumL_ (hB b n) 1 ((a1 + 1), false, c1)).2.2))).1)).2 (pasA (hB b n) 41 ((sumL_ (hB b n) 1 (a3, false, ((sumL_ (hB b n) 1 ((a1 + 1), false, c1)).2.2))).2.1) ((sumL_ (hB b n) 1 (a3, false, ((sumL_ (hB b n) 1 ((a1 + 1), false, c1)).2.2))).1)).1)])), (aRt, .inl (g.2.1 1, 60, .inl (fun j => sgB (b j)))), (aRc, .inl (g.2.1 0, 60, .inl (coL (putL (-4) ((sumL_ (hB b n) 1 (a3, false, ((sumL_ (hB b n) 1 ((a1 + 1), false, c1)).2.2))).2.2)) f0)))]) dX1_readBracket_63 ml_X1_77 mX1_pass (ct_X1_pass κ.2.1 g aR aRt aRc n ((sumL_ (hB b n) 1 (a3, false, ((sumL_ (hB b n) 1 ((a1 + 1), false, c1)).2.2))).1) ((putL (-4) ((sumL_ (hB b n) 1 (a3, false, ((sumL_ (hB b n) 1 ((a1 + 1), false, c1)).2.2))).2.2)).length) b 41 ((sumL_ (hB b n) 1 (a3, false, ((sumL_ (hB b n) 1 ((a1 + 1), false, c1)).2.2))).2.1) (by omega) (hn) (hb) (by decide)) [0, 1] rfl rfl 0 rfl rfl rfl (Nat.le_of_ble_eq_true rfl) (by decide) (Nat.le_refl _) (Nat.le_refl _) (rfl : [aR, aRt] = [aR, aRt]) rfl ?_
        rw [← hQ]
        refine x_vret dX1_readBracket_66 rfl (Nat.le_of_ble_eq_true rfl) (Nat.le_of_ble_eq_true rfl) ?_
        exact ⟨rfl, by first | (rw [brkL, brkA hR1] <;> rfl) | (rw [brkL, brkB hR1 (sees0 c18)] <;> rfl) | (rw [brkL, brkC hR1 (sees1 c18) hR3] <;> rfl) | (rw [brkL, brkD hR1 (sees1 c18) hR3] <;> rfl)⟩
      · skip
        refine x_eq (lv' := [some (.ref aR), some (.int 3)]) (st' := []) (ws' := [(aR, .inr (1, [.ref aRt, .ref aRc, .int (nI n), .int (nI ((sumL_ (hB b n) 1 ((a1 + 1), false, c1)).2.2.length)), .int (nI a3), .int (nI a3)])), (aRt, .inl (g.2.1 1, 60, .inl (fun j => sgB (b j)))), (aRc, .inl (g.2.1 0, 60, .inl (coL ((sumL_ (hB b n) 1 ((a1 + 1), false, c1)).2.2) f0)))]) ?_ rfl rfl rfl
        refine x_aload_n dX1_readBracket_42 rfl ?_
        refine x_get dX1_readBracket_43 0 5 inX1 fl_X1_44 rfl rfl (by decide) rfl ?_
        refine x_if_ge dX1_readBracket_46 (fun c46 => ?_) (fun c46 => ?_)
        · have c46 : 0 ≤ (nI a3) := c46
          have c46n := (nI_leI (a := 0) (b := a3) (by omega) (by omega)).mp c46
          skip
          refine x_aload_n dX1_readBracket_54 rfl ?_
          refine x_bipush (-4) dX1_readBracket_55 (by decide) ?_
          refine x_cVv (ws' := [(aR, .inr (1, [.ref aRt, .ref aRc, .int (nI n), .int (nI ((putL (-4) ((sumL_ (hB b n) 1 ((a1 + 1), false, c1)).2.2)).length)), .int (nI a3), .int (nI a3)])), (aRt, .inl (g.2.1 1, 60, .inl (fun j => sgB (b j)))), (aRc, .inl (g.2.1 0, 60, .inl (coL (putL (-4) ((sumL_ (hB b n) 1 ((a1 + 1), false, c1)).2.2)) f0)))]) dX1_readBracket_57 ml_X1_58 mX1_put (ct_X1_put κ.2.1 g aR aRt aRc n a3 f0 ((sumL_ (hB b n) 1 ((a1 + 1), false, c1)).2.2) (nI a3) (-4) (by first | exact hk4.2 | exact hk2.2)) [0, 2] rfl rfl 0 rfl rfl rfl (Nat.le_of_ble_eq_true rfl) (by decide) (Nat.le_refl _) (Nat.le_refl _) (rfl : [aR, aRc] = [aR, aRc]) rfl ?_
          refine x_aload_n dX1_readBracket_60 rfl ?_
          refine x_bipush 41 dX1_readBracket_61 (by decide) ?_
          refine x_cVv (ws' := [(aR, .inr (1, [.ref aRt, .ref aRc, .int (nI n), .int (nI ((putL (-4) ((sumL_ (hB b n) 1 ((a1 + 1), false, c1)).2.2)).length)), .int (nI ((pasA (hB b n) 41 true a3).1)), .int (flB (pasA (hB b n) 41 true a3).2 (pasA (hB b n) 41 true a3).1)])), (aRt, .inl (g.2.1 1, 60, .inl (fun j => sgB (b j)))), (aRc, .inl (g.2.1 0, 60, .inl (coL (putL (-4) ((sumL_ (hB b n) 1 ((a1 + 1), false, c1)).2.2)) f0)))]) dX1_readBracket_63 ml_X1_77 mX1_pass (ct_X1_pass κ.2.1 g aR aRt aRc n a3 ((putL (-4) ((sumL_ (hB b n) 1 ((a1 + 1), false, c1)).2.2)).length) b 41 true (by omega) (hn) (hb) (by decide)) [0, 1] rfl rfl 0 rfl rfl rfl (Nat.le_of_ble_eq_true rfl) (by decide) (Nat.le_refl _) (Nat.le_refl _) (rfl : [aR, aRt] = [aR, aRt]) rfl ?_
          rw [← hQ]
          refine x_vret dX1_readBracket_66 rfl (Nat.le_of_ble_eq_true rfl) (Nat.le_of_ble_eq_true rfl) ?_
          exact ⟨rfl, by first | (rw [brkL, brkA hR1] <;> rfl) | (rw [brkL, brkB hR1 (sees0 c18)] <;> rfl) | (rw [brkL, brkC hR1 (sees1 c18) hR3] <;> rfl) | (rw [brkL, brkD hR1 (sees1 c18) hR3] <;> rfl)⟩
        · have c46 : ¬ (0 ≤ (nI a3)) := c46
          have c46n := mt (nI_leI (a := 0) (b := a3) (by omega) (by omega)).mpr c46
          exact absurd c46n (by omega)
  · skip
    refine x_eq (lv' := [some (.ref aR), some (.int 3)]) (st' := []) (ws' := [(aR, .inr (1, [.ref aRt, .ref aRc, .int (nI n), .int (nI c1.length), .int (nI a1), .int (nI a1)])), (aRt, .inl (g.2.1 1, 60, .inl (fun j => sgB (b j)))), (aRc, .inl (g.2.1 0, 60, .inl (coL (c1) f0)))]) ?_ rfl rfl rfl
    refine x_aload_n dX1_readBracket_5 rfl ?_
    refine x_get dX1_readBracket_6 0 5 inX1 fl_X1_44 rfl rfl (by decide) rfl ?_
    refine x_if_ge dX1_readBracket_9 (fun c9 => ?_) (fun c9 => ?_)
    · have c9 : 0 ≤ (nI a1) := c9
      have c9n := (nI_leI (a := 0) (b := a1) (by omega) (by omega)).mp c9
      refine x_aload_n dX1_readBracket_60 rfl ?_
      refine x_bipush 41 dX1_readBracket_61 (by decide) ?_
      refine x_cVv (ws' := [(aR, .inr (1, [.ref aRt, .ref aRc, .int (nI n), .int (nI c1.length), .int (nI ((pasA (hB b n) 41 true a1).1)), .int (flB (pasA (hB b n) 41 true a1).2 (pasA (hB b n) 41 true a1).1)])), (aRt, .inl (g.2.1 1, 60, .inl (fun j => sgB (b j)))), (aRc, .inl (g.2.1 0, 60, .inl (coL (c1) f0)))]) dX1_readBracket_63 ml_X1_77 mX1_pass (ct_X1_pass κ.2.1 g aR aRt aRc n a1 c1.length b 41 true (by omega) (hn) (hb) (by decide)) [0, 1] rfl rfl 0 rfl rfl rfl (Nat.le_of_ble_eq_true rfl) (by decide) (Nat.le_refl _) (Nat.le_refl _) (rfl : [aR, aRt] = [aR, aRt]) rfl ?_
      rw [← hQ]
      refine x_vret dX1_readBracket_66 rfl (Nat.le_of_ble_eq_true rfl) (Nat.le_of_ble_eq_true rfl) ?_
      exact ⟨rfl, by first | (rw [brkL, brkA hR1] <;> rfl) | (rw [brkL, brkB hR1 (sees0 c18)] <;> rfl) | (rw [brkL, brkC hR1 (sees1 c18) hR3] <;> rfl) | (rw [brkL, brkD hR1 (sees1 c18) hR3] <;> rfl)⟩
    · have c9 : ¬ (0 ≤ (nI a1)) := c9
      have c9n := mt (nI_leI (a := 0) (b := a1) (by omega) (by omega)).mpr c9
      exact absurd c9n (by omega)

-- == rf_2 ==
set_option maxRecDepth 100000 in
set_option maxHeartbeats 4000000 in
theorem ct_rf_2 (l : Launch) (g : XG) (aR aRt aRc n a : Nat) (b : Nat → Nat) (f0 : Nat → Int32) (cl : List Int32) (ha : a ≤ n) (hn : n ≤ 60) (hb : ∀ j, b j < 256) (hl : cl.length ≤ 60) : Ct l g 15 0 0 yX1_readFactor cX1_readFactor 2 none [.ref aR, .int 2] [(aR, .inr (1, [.ref aRt, .ref aRc, .int (nI n), .int (nI cl.length), .int (nI a), .int ((-1))])), (aRt, .inl (g.2.1 1, 60, .inl (fun j => sgB (b j)))), (aRc, .inl (g.2.1 0, 60, .inl (coL cl f0)))] (xpv [(aR, .inr (1, [.ref aRt, .ref aRc, .int (nI n), .int (nI ((facL (hB b n) 2 (a, false, cl)).2.2.length)), .int (nI ((facL (hB b n) 2 (a, false, cl)).1)), .int (flB (facL (hB b n) 2 (a, false, cl)).2.1 (facL (hB b n) 2 (a, false, cl)).1)])), (aRt, .inl (g.2.1 1, 60, .inl (fun j => sgB (b j)))), (aRc, .inl (g.2.1 0, 60, .inl (coL ((facL (hB b n) 2 (a, false, cl)).2.2) f0)))]) := by
  refine Ct.ofX (lv := [some (.ref aR), some (.int 2)]) (by decide) rfl (Nat.le_of_ble_eq_true rfl) (fun κ => ?_)
  generalize hQ : xQ κ g 0 0 _ = Q
  refine x_aload_n dX1_readFactor_0 rfl ?_
  refine x_get dX1_readFactor_1 0 5 inX1 fl_X1_44 rfl rfl (by decide) rfl ?_
  refine x_if_lt dX1_readFactor_4 (fun c4 => ?_) (fun c4 => ?_)
  rotate_left
  · exact absurd c4 (by decide)
  refine x_aload_n dX1_readFactor_8 rfl ?_
  refine x_cVi0 dX1_readFactor_9 ml_X1_64 mX1_digit (ct_X1_digit κ.2.1 g aR aRt aRc n a cl.length b (-1) (by omega) (hn) (hb)) [0, 1] rfl rfl 0 rfl rfl rfl (Nat.le_of_ble_eq_true rfl) (by decide) (Nat.le_refl _) (Nat.le_refl _) ?_
  refine x_if_lt dX1_readFactor_12 (fun c12 => ?_) (fun c12 => ?_)
  · have c12 : (digI b n a) < 0 := c12
    refine x_aload_n dX1_readFactor_22 rfl ?_
    refine x_cVi0 dX1_readFactor_23 ml_X1_71 mX1_nameHere (ct_X1_nameHere κ.2.1 g aR aRt aRc n a cl.length b (-1) (by omega) (hn) (hb)) [0, 1] rfl rfl 0 rfl rfl rfl (Nat.le_of_ble_eq_true rfl) (by decide) (Nat.le_refl _) (Nat.le_refl _) ?_
    refine x_if_lt dX1_readFactor_26 (fun c26 => ?_) (fun c26 => ?_)
    · have c26 : (nmhI b n a) < 0 := c26
      refine x_aload_n dX1_readFactor_53 rfl ?_
      refine x_bipush 40 dX1_readFactor_54 (by decide) ?_
      refine x_cVi0 dX1_readFactor_56 ml_X1_54 mX1_sees (ct_X1_sees κ.2.1 g aR aRt aRc n a cl.length b (-1) 40 (by omega) (hn) (hb) (by decide)) [0, 1] rfl rfl 0 rfl rfl rfl (Nat.le_of_ble_eq_true rfl) (by decide) (Nat.le_refl _) (Nat.le_refl _) ?_
      refine x_if_eq dX1_readFactor_59 (fun c59 => ?_) (fun c59 => ?_)
      · have c59 : (seesI b n a 40) = 0 := c59
        refine x_aload_n dX1_readFactor_87 rfl ?_
        refine x_aload_n dX1_readFactor_88 rfl ?_
        refine x_get dX1_readFactor_89 0 4 inX1 fl_X1_41 rfl rfl (by decide) rfl ?_
        refine x_put (ws' := [(aR, .inr (1, [.ref aRt, .ref aRc, .int (nI n), .int (nI cl.length), .int (nI a), .int (nI a)])), (aRt, .inl (g.2.1 1, 60, .inl (fun j => sgB (b j)))), (aRc, .inl (g.2.1 0, 60, .inl (coL cl f0)))]) dX1_readFactor_92 0 5 inX1 tyX1_ok nmX1 fl_X1_44 rfl rfl (by decide) rfl (rfl) rfl (xlt rfl) rfl ?_
        rw [← hQ]
        refine x_vret dX1_readFactor_95 rfl (Nat.le_of_ble_eq_true rfl) (Nat.le_of_ble_eq_true rfl) ?_
        exact ⟨rfl, by first | (rw [facL, fac_num (dig1 c12)] <;> rfl) | (rw [facL, fac_nm (dig0 c12) (nmh1 c26)] <;> rfl) | (rw [facL, fac_br (dig0 c12) (nmh0 c26) (sees1 c59)] <;> rfl) | (rw [facL, fac_bad (dig0 c12) (nmh0 c26) (sees0 c59)] <;> rfl)⟩
      · have c59 : ¬ ((seesI b n a 40) = 0) := c59
        refine x_iload_n dX1_readFactor_62 rfl ?_
        refine x_iconst 4 dX1_readFactor_63 (by decide) ?_
        refine x_icmp_ge dX1_readFactor_64 (fun c64 => ?_) (fun c64 => ?_)
        · exact absurd c64 (by decide)
        refine x_aload_n dX1_readFactor_67 rfl ?_
        refine x_dup dX1_readFactor_68 rfl ?_
        refine x_get dX1_readFactor_69 0 4 inX1 fl_X1_41 rfl rfl (by decide) rfl ?_
        refine x_iconst 1 dX1_readFactor_72 (by decide) ?_
        refine x_iadd dX1_readFactor_73 ?_
        refine x_rei (nI (a + 1)) (nI_addc a 1 rfl) ?_
        refine x_put (ws' := [(aR, .inr (1, [.ref aRt, .ref aRc, .int (nI n), .int (nI cl.length), .int (nI (a + 1)), .int ((-1))])), (aRt, .inl (g.2.1 1, 60, .inl (fun j => sgB (b j)))), (aRc, .inl (g.2.1 0, 60, .inl (coL cl f0)))]) dX1_readFactor_74 0 4 inX1 tyX1_ok nmX1 fl_X1_41 rfl rfl (by decide) rfl (rfl) rfl (xlt rfl) rfl ?_
        refine x_aload_n dX1_readFactor_77 rfl ?_
        refine x_iload_n dX1_readFactor_78 rfl ?_
        refine x_iconst 1 dX1_readFactor_79 (by decide) ?_
        have hav := adv_le (okH_hB b n) (sees1 c59) (by decide)
        refine x_iadd dX1_readFactor_80 ?_
        refine x_rei 3 (by decide) ?_
        refine x_cVv (ws' := [(aR, .inr (1, [.ref aRt, .ref aRc, .int (nI n), .int (nI ((brkL (hB b n) 1 ((a + 1), false, cl)).2.2.length)), .int (nI ((brkL (hB b n) 1 ((a + 1), false, cl)).1)), .int (flB (brkL (hB b n) 1 ((a + 1), false, cl)).2.1 (brkL (hB b n) 1 ((a + 1), false, cl)).1)])), (aRt, .inl (g.2.1 1, 60, .inl (fun j => sgB (b j)))), (aRc, .inl (g.2.1 0, 60, .inl (coL ((brkL (hB b n) 1 ((a + 1), false, cl)).2.2) f0)))]) dX1_readFactor_81 ml_X1_74 mX1_readBracket (ct_rb_1 κ.2.1 g aR aRt aRc n (a + 1) b f0 cl (by omega) (hn) (hb) (by omega)) [0, 1, 2] rfl rfl 0 rfl rfl rfl (Nat.le_of_ble_eq_true rfl) (by decide) (Nat.le_refl _) (Nat.le_refl _) (rfl : [aR, aRt, aRc] = [aR, aRt, aRc]) rfl ?_
        refine x_goto dX1_readFactor_84 ?_
        rw [← hQ]
        refine x_vret dX1_readFactor_95 rfl (Nat.le_of_ble_eq_true rfl) (Nat.le_of_ble_eq_true rfl) ?_
        exact ⟨rfl, by first | (rw [facL, fac_num (dig1 c12)] <;> rfl) | (rw [facL, fac_nm (dig0 c12) (nmh1 c26)] <;> rfl) | (rw [facL, fac_br (dig0 c12) (nmh0 c26) (sees1 c59)] <;> rfl) | (rw [facL, fac_bad (dig0 c12) (nmh0 c26) (sees0 c59)] <;> rfl)⟩
    · have c26 : ¬ ((nmhI b n a) < 0) := c26
      refine x_aload_n dX1_readFactor_29 rfl ?_
      refine x_bipush (-10) dX1_readFactor_30 (by decide) ?_
      refine x_aload_n dX1_readFactor_32 rfl ?_
      refine x_cVi0 dX1_readFactor_33 ml_X1_71 mX1_nameHere (ct_X1_nameHere κ.2.1 g aR aRt aRc n a cl.length b (-1) (by omega) (hn) (hb)) [0, 1] rfl rfl 0 rfl rfl rfl (Nat.le_of_ble_eq_true rfl) (by decide) (Nat.le_refl _) (Nat.le_refl _) ?_
      refine x_rei (nI (nmIx (hB b n a))) (if_pos (nmh1 c26)) ?_
      refine x_isub dX1_readFactor_36 ?_
      refine x_cVv (ws' := [(aR, .inr (1, [.ref aRt, .ref aRc, .int (nI n), .int (nI ((putL ((-10) - (nI (nmIx (hB b n a)))) cl).length)), .int (nI a), .int (-1)])), (aRt, .inl (g.2.1 1, 60, .inl (fun j => sgB (b j)))), (aRc, .inl (g.2.1 0, 60, .inl (coL (putL ((-10) - (nI (nmIx (hB b n a)))) cl) f0)))]) dX1_readFactor_37 ml_X1_58 mX1_put (ct_X1_put κ.2.1 g aR aRt aRc n a f0 cl (-1) ((-10) - (nI (nmIx (hB b n a)))) (hl)) [0, 2] rfl rfl 0 rfl rfl rfl (Nat.le_of_ble_eq_true rfl) (by decide) (Nat.le_refl _) (Nat.le_refl _) (rfl : [aR, aRc] = [aR, aRc]) rfl ?_
      refine x_aload_n dX1_readFactor_40 rfl ?_
      refine x_dup dX1_readFactor_41 rfl ?_
      refine x_get dX1_readFactor_42 0 4 inX1 fl_X1_41 rfl rfl (by decide) rfl ?_
      refine x_iconst 1 dX1_readFactor_45 (by decide) ?_
      refine x_iadd dX1_readFactor_46 ?_
      refine x_rei (nI (a + 1)) (nI_addc a 1 rfl) ?_
      refine x_put (ws' := [(aR, .inr (1, [.ref aRt, .ref aRc, .int (nI n), .int (nI ((putL ((-10) - (nI (nmIx (hB b n a)))) cl).length)), .int (nI (a + 1)), .int (-1)])), (aRt, .inl (g.2.1 1, 60, .inl (fun j => sgB (b j)))), (aRc, .inl (g.2.1 0, 60, .inl (coL (putL ((-10) - (nI (nmIx (hB b n a)))) cl) f0)))]) dX1_readFactor_47 0 4 inX1 tyX1_ok nmX1 fl_X1_41 rfl rfl (by decide) rfl (rfl) rfl (xlt rfl) rfl ?_
      refine x_goto dX1_readFactor_50 ?_
      rw [← hQ]
      refine x_vret dX1_readFactor_95 rfl (Nat.le_of_ble_eq_true rfl) (Nat.le_of_ble_eq_true rfl) ?_
      exact ⟨rfl, by first | (rw [facL, fac_num (dig1 c12)] <;> rfl) | (rw [facL, fac_nm (dig0 c12) (nmh1 c26)] <;> rfl) | (rw [facL, fac_br (dig0 c12) (nmh0 c26) (sees1 c59)] <;> rfl) | (rw [facL, fac_bad (dig0 c12) (nmh0 c26) (sees0 c59)] <;> rfl)⟩
  · have c12 : ¬ ((digI b n a) < 0) := c12
    refine x_aload_n dX1_readFactor_15 rfl ?_
    refine x_cVv (ws' := [(aR, .inr (1, [.ref aRt, .ref aRc, .int (nI n), .int (nI ((putL (nI (numI (hB b n) a).2) cl).length)), .int (nI ((numI (hB b n) a).1)), .int (-1)])), (aRt, .inl (g.2.1 1, 60, .inl (fun j => sgB (b j)))), (aRc, .inl (g.2.1 0, 60, .inl (coL (putL (nI (numI (hB b n) a).2) cl) f0)))]) dX1_readFactor_16 ml_X1_68 mX1_readNumber (ct_X1_readNumber κ.2.1 g aR aRt aRc n a b f0 cl (by omega) (hn) (hb) (by omega)) [0, 1, 2] rfl rfl 0 rfl rfl rfl (Nat.le_of_ble_eq_true rfl) (by decide) (Nat.le_refl _) (Nat.le_refl _) (rfl : [aR, aRt, aRc] = [aR, aRt, aRc]) rfl ?_
    refine x_goto dX1_readFactor_19 ?_
    rw [← hQ]
    refine x_vret dX1_readFactor_95 rfl (Nat.le_of_ble_eq_true rfl) (Nat.le_of_ble_eq_true rfl) ?_
    exact ⟨rfl, by first | (rw [facL, fac_num (dig1 c12)] <;> rfl) | (rw [facL, fac_nm (dig0 c12) (nmh1 c26)] <;> rfl) | (rw [facL, fac_br (dig0 c12) (nmh0 c26) (sees1 c59)] <;> rfl) | (rw [facL, fac_bad (dig0 c12) (nmh0 c26) (sees0 c59)] <;> rfl)⟩

-- == rp_2 ==
set_option maxRecDepth 100000 in
set_option maxHeartbeats 4000000 in
theorem ct_rp_2 (l : Launch) (g : XG) (aR aRt aRc n a : Nat) (b : Nat → Nat) (f0 : Nat → Int32) (cl : List Int32) (ha : a ≤ n) (hn : n ≤ 60) (hb : ∀ j, b j < 256) (hl : cl.length ≤ 60) : Ct l g 16 0 0 yX1_readProduct cX1_readProduct 3 none [.ref aR, .int 2] [(aR, .inr (1, [.ref aRt, .ref aRc, .int (nI n), .int (nI cl.length), .int (nI a), .int ((-1))])), (aRt, .inl (g.2.1 1, 60, .inl (fun j => sgB (b j)))), (aRc, .inl (g.2.1 0, 60, .inl (coL cl f0)))] (xpv [(aR, .inr (1, [.ref aRt, .ref aRc, .int (nI n), .int (nI ((prodL (hB b n) 2 (a, false, cl)).2.2.length)), .int (nI ((prodL (hB b n) 2 (a, false, cl)).1)), .int (flB (prodL (hB b n) 2 (a, false, cl)).2.1 (prodL (hB b n) 2 (a, false, cl)).1)])), (aRt, .inl (g.2.1 1, 60, .inl (fun j => sgB (b j)))), (aRc, .inl (g.2.1 0, 60, .inl (coL ((prodL (hB b n) 2 (a, false, cl)).2.2) f0)))]) := by
  refine Ct.ofX (lv := [some (.ref aR), some (.int 2), none]) (by decide) rfl (Nat.le_of_ble_eq_true rfl) (fun κ => ?_)
  generalize hQ : xQ κ g 0 0 _ = Q
  refine x_aload_n dX1_readProduct_0 rfl ?_
  refine x_iload_n dX1_readProduct_1 rfl ?_
  refine x_cVv (ws' := [(aR, .inr (1, [.ref aRt, .ref aRc, .int (nI n), .int (nI ((facL (hB b n) 2 (a, false, cl)).2.2.length)), .int (nI ((facL (hB b n) 2 (a, false, cl)).1)), .int (flB (facL (hB b n) 2 (a, false, cl)).2.1 (facL (hB b n) 2 (a, false, cl)).1)])), (aRt, .inl (g.2.1 1, 60, .inl (fun j => sgB (b j)))), (aRc, .inl (g.2.1 0, 60, .inl (coL ((facL (hB b n) 2 (a, false, cl)).2.2) f0)))]) dX1_readProduct_2 ml_X1_61 mX1_readFactor (ct_rf_2 κ.2.1 g aR aRt aRc n a b f0 cl (by omega) (hn) (hb) (by omega)) [0, 1, 2] rfl rfl 0 rfl rfl rfl (Nat.le_of_ble_eq_true rfl) (by decide) (Nat.le_refl _) (Nat.le_refl _) (rfl : [aR, aRt, aRc] = [aR, aRt, aRc]) rfl ?_
  have hk0 := facL_ok (okH_hB b n) 2 (a, false, cl) ⟨ha, hl⟩
  refine x_iconst 0 dX1_readProduct_5 (by decide) ?_
  refine x_istore_n (lv' := [some (.ref aR), some (.int 2), some (.int 0)]) dX1_readProduct_6 (xlt rfl) rfl ?_
  have L7_1 : ∀ (i : Nat), i ≤ 60 → ∀ (qa : Nat), ∀ (qb : Bool), ∀ (qc : List Int32), (qa, qb, qc) = itr (prS (hB b n) (facL (hB b n) 2)) i (facL (hB b n) 2 (a, false, cl)) → qa ≤ n → qc.length ≤ 60 → Xs κ g 16 0 0 cX1_readProduct yX1_readProduct none Q 0 0 7 [some (.ref aR), some (.int 2), some (.int (nI i))] [] [(aR, .inr (1, [.ref aRt, .ref aRc, .int (nI n), .int (nI qc.length), .int (nI qa), .int (flB qb qa)])), (aRt, .inl (g.2.1 1, 60, .inl (fun j => sgB (b j)))), (aRc, .inl (g.2.1 0, 60, .inl (coL qc f0)))] := by
    refine upTo 60 (fun i hi7 ih7 => ?_)
    intro qa
    intro qb
    intro qc
    intro hqq hqa hqc
    refine x_iload_n dX1_readProduct_7 rfl ?_
    refine x_bipush 60 dX1_readProduct_8 (by decide) ?_
    refine x_icmp_ge dX1_readProduct_10 (fun c10 => ?_) (fun c10 => ?_)
    · have c10 : 60 ≤ (nI i) := c10
      have c10n := (nI_leI (a := 60) (b := i) (by omega) (by omega)).mp c10
      have hxc10 : i = 60 := by omega
      try rw [hxc10]
      try rw [hxc10] at hqq
      try rw [hxc10] at hqa
      try rw [hxc10] at hqc
      rw [← hQ]
      refine x_vret dX1_readProduct_56 rfl (Nat.le_of_ble_eq_true rfl) (Nat.le_of_ble_eq_true rfl) ?_
      exact ⟨rfl, by first | (rw [show prodL (hB b n) 2 (a, false, cl) = (qa, qb, qc) from Eq.trans (rfl) (hqq.symm)] <;> rfl) | (rw [show prodL (hB b n) 2 (a, false, cl) = (qa, true, qc) from Eq.trans (rfl) (itr_fix hqq rfl (by omega))] <;> rfl) | (rw [show prodL (hB b n) 2 (a, false, cl) = (qa, false, qc) from Eq.trans (rfl) (itr_fix hqq (by simp [prS, sees0 c26]) (by omega))] <;> rfl)⟩
    · have c10 : ¬ (60 ≤ (nI i)) := c10
      have c10n := mt (nI_leI (a := 60) (b := i) (by omega) (by omega)).mpr c10
      cases qb
      · skip
        refine x_eq (lv' := [some (.ref aR), some (.int 2), some (.int (nI i))]) (st' := []) (ws' := [(aR, .inr (1, [.ref aRt, .ref aRc, .int (nI n), .int (nI qc.length), .int (nI qa), .int ((-1))])), (aRt, .inl (g.2.1 1, 60, .inl (fun j => sgB (b j)))), (aRc, .inl (g.2.1 0, 60, .inl (coL qc f0)))]) ?_ rfl rfl rfl
        refine x_aload_n dX1_readProduct_13 rfl ?_
        refine x_get dX1_readProduct_14 0 5 inX1 fl_X1_44 rfl rfl (by decide) rfl ?_
        refine x_if_ge dX1_readProduct_17 (fun c17 => ?_) (fun c17 => ?_)
        · exact absurd c17 (by decide)
        refine x_aload_n dX1_readProduct_20 rfl ?_
        refine x_bipush 42 dX1_readProduct_21 (by decide) ?_
        refine x_cVi0 dX1_readProduct_23 ml_X1_54 mX1_sees (ct_X1_sees κ.2.1 g aR aRt aRc n qa qc.length b (-1) 42 (by omega) (hn) (hb) (by decide)) [0, 1] rfl rfl 0 rfl rfl rfl (Nat.le_of_ble_eq_true rfl) (by decide) (Nat.le_refl _) (Nat.le_refl _) ?_
        refine x_if_eq dX1_readProduct_26 (fun c26 => ?_) (fun c26 => ?_)
        · have c26 : (seesI b n qa 42) = 0 := c26
          rw [← hQ]
          refine x_vret dX1_readProduct_56 rfl (Nat.le_of_ble_eq_true rfl) (Nat.le_of_ble_eq_true rfl) ?_
          exact ⟨rfl, by first | (rw [show prodL (hB b n) 2 (a, false, cl) = (qa, qb, qc) from Eq.trans (rfl) (hqq.symm)] <;> rfl) | (rw [show prodL (hB b n) 2 (a, false, cl) = (qa, true, qc) from Eq.trans (rfl) (itr_fix hqq rfl (by omega))] <;> rfl) | (rw [show prodL (hB b n) 2 (a, false, cl) = (qa, false, qc) from Eq.trans (rfl) (itr_fix hqq (by simp [prS, sees0 c26]) (by omega))] <;> rfl)⟩
        · have c26 : ¬ ((seesI b n qa 42) = 0) := c26
          refine x_aload_n dX1_readProduct_29 rfl ?_
          refine x_dup dX1_readProduct_30 rfl ?_
          refine x_get dX1_readProduct_31 0 4 inX1 fl_X1_41 rfl rfl (by decide) rfl ?_
          refine x_iconst 1 dX1_readProduct_34 (by decide) ?_
          refine x_iadd dX1_readProduct_35 ?_
          refine x_rei (nI (qa + 1)) (nI_addc qa 1 rfl) ?_
          refine x_put (ws' := [(aR, .inr (1, [.ref aRt, .ref aRc, .int (nI n), .int (nI qc.length), .int (nI (qa + 1)), .int ((-1))])), (aRt, .inl (g.2.1 1, 60, .inl (fun j => sgB (b j)))), (aRc, .inl (g.2.1 0, 60, .inl (coL qc f0)))]) dX1_readProduct_36 0 4 inX1 tyX1_ok nmX1 fl_X1_41 rfl rfl (by decide) rfl (rfl) rfl (xlt rfl) rfl ?_
          refine x_aload_n dX1_readProduct_39 rfl ?_
          have hav := adv_le (okH_hB b n) (sees1 c26) (by decide)
          refine x_iload_n dX1_readProduct_40 rfl ?_
          refine x_cVv (ws' := [(aR, .inr (1, [.ref aRt, .ref aRc, .int (nI n), .int (nI ((facL (hB b n) 2 ((qa + 1), false, qc)).2.2.length)), .int (nI ((facL (hB b n) 2 ((qa + 1), false, qc)).1)), .int (flB (facL (hB b n) 2 ((qa + 1), false, qc)).2.1 (facL (hB b n) 2 ((qa + 1), false, qc)).1)])), (aRt, .inl (g.2.1 1, 60, .inl (fun j => sgB (b j)))), (aRc, .inl (g.2.1 0, 60, .inl (coL ((facL (hB b n) 2 ((qa + 1), false, qc)).2.2) f0)))]) dX1_readProduct_41 ml_X1_61 mX1_readFactor (ct_rf_2 κ.2.1 g aR aRt aRc n (qa + 1) b f0 qc (by omega) (hn) (hb) (by omega)) [0, 1, 2] rfl rfl 0 rfl rfl rfl (Nat.le_of_ble_eq_true rfl) (by decide) (Nat.le_refl _) (Nat.le_refl _) (rfl : [aR, aRt, aRc] = [aR, aRt, aRc]) rfl ?_
          have hk := facL_ok (okH_hB b n) 2 (qa + 1, false, qc) ⟨hav, hqc⟩
          refine x_aload_n dX1_readProduct_44 rfl ?_
          refine x_bipush (-3) dX1_readProduct_45 (by decide) ?_
          refine x_cVv (ws' := [(aR, .inr (1, [.ref aRt, .ref aRc, .int (nI n), .int (nI ((putL (-3) ((facL (hB b n) 2 ((qa + 1), false, qc)).2.2)).length)), .int (nI ((facL (hB b n) 2 ((qa + 1), false, qc)).1)), .int (flB (facL (hB b n) 2 ((qa + 1), false, qc)).2.1 (facL (hB b n) 2 ((qa + 1), false, qc)).1)])), (aRt, .inl (g.2.1 1, 60, .inl (fun j => sgB (b j)))), (aRc, .inl (g.2.1 0, 60, .inl (coL (putL (-3) ((facL (hB b n) 2 ((qa + 1), false, qc)).2.2)) f0)))]) dX1_readProduct_47 ml_X1_58 mX1_put (ct_X1_put κ.2.1 g aR aRt aRc n ((facL (hB b n) 2 ((qa + 1), false, qc)).1) f0 ((facL (hB b n) 2 ((qa + 1), false, qc)).2.2) (flB (facL (hB b n) 2 ((qa + 1), false, qc)).2.1 (facL (hB b n) 2 ((qa + 1), false, qc)).1) (-3) (hk.2)) [0, 2] rfl rfl 0 rfl rfl rfl (Nat.le_of_ble_eq_true rfl) (by decide) (Nat.le_refl _) (Nat.le_refl _) (rfl : [aR, aRc] = [aR, aRc]) rfl ?_
          refine x_iinc (lv' := [some (.ref aR), some (.int 2), some (.int (nI (i + 1)))]) (nI (i + 1)) dX1_readProduct_50 rfl (nI_addc i 1 rfl) rfl ?_
          refine x_goto dX1_readProduct_53 ?_
          exact ih7 (by omega) ((facL (hB b n) 2 ((qa + 1), false, qc)).1) ((facL (hB b n) 2 ((qa + 1), false, qc)).2.1) (putL (-3) (facL (hB b n) 2 ((qa + 1), false, qc)).2.2) (by rw [itr, ← hqq]; simp only [prS, sees1 c26]; rfl) (hk.1) (putL_le hk.2)
      · skip
        refine x_eq (lv' := [some (.ref aR), some (.int 2), some (.int (nI i))]) (st' := []) (ws' := [(aR, .inr (1, [.ref aRt, .ref aRc, .int (nI n), .int (nI qc.length), .int (nI qa), .int (nI qa)])), (aRt, .inl (g.2.1 1, 60, .inl (fun j => sgB (b j)))), (aRc, .inl (g.2.1 0, 60, .inl (coL qc f0)))]) ?_ rfl rfl rfl
        refine x_aload_n dX1_readProduct_13 rfl ?_
        refine x_get dX1_readProduct_14 0 5 inX1 fl_X1_44 rfl rfl (by decide) rfl ?_
        refine x_if_ge dX1_readProduct_17 (fun c17 => ?_) (fun c17 => ?_)
        · have c17 : 0 ≤ (nI qa) := c17
          have c17n := (nI_leI (a := 0) (b := qa) (by omega) (by omega)).mp c17
          rw [← hQ]
          refine x_vret dX1_readProduct_56 rfl (Nat.le_of_ble_eq_true rfl) (Nat.le_of_ble_eq_true rfl) ?_
          exact ⟨rfl, by first | (rw [show prodL (hB b n) 2 (a, false, cl) = (qa, qb, qc) from Eq.trans (rfl) (hqq.symm)] <;> rfl) | (rw [show prodL (hB b n) 2 (a, false, cl) = (qa, true, qc) from Eq.trans (rfl) (itr_fix hqq rfl (by omega))] <;> rfl) | (rw [show prodL (hB b n) 2 (a, false, cl) = (qa, false, qc) from Eq.trans (rfl) (itr_fix hqq (by simp [prS, sees0 c26]) (by omega))] <;> rfl)⟩
        · have c17 : ¬ (0 ≤ (nI qa)) := c17
          have c17n := mt (nI_leI (a := 0) (b := qa) (by omega) (by omega)).mpr c17
          exact absurd c17n (by omega)
  exact L7_1 0 (Nat.zero_le _) ((facL (hB b n) 2 (a, false, cl)).1) ((facL (hB b n) 2 (a, false, cl)).2.1) ((facL (hB b n) 2 (a, false, cl)).2.2) (rfl) (hk0.1) (hk0.2)

-- == rs_2 ==
set_option maxRecDepth 100000 in
set_option maxHeartbeats 4000000 in
theorem ct_rs_2 (l : Launch) (g : XG) (aR aRt aRc n a : Nat) (b : Nat → Nat) (f0 : Nat → Int32) (cl : List Int32) (ha : a ≤ n) (hn : n ≤ 60) (hb : ∀ j, b j < 256) (hl : cl.length ≤ 60) : Ct l g 17 0 0 yX1_readSum cX1_readSum 4 none [.ref aR, .int 2] [(aR, .inr (1, [.ref aRt, .ref aRc, .int (nI n), .int (nI cl.length), .int (nI a), .int ((-1))])), (aRt, .inl (g.2.1 1, 60, .inl (fun j => sgB (b j)))), (aRc, .inl (g.2.1 0, 60, .inl (coL cl f0)))] (xpv [(aR, .inr (1, [.ref aRt, .ref aRc, .int (nI n), .int (nI ((sumL_ (hB b n) 2 (a, false, cl)).2.2.length)), .int (nI ((sumL_ (hB b n) 2 (a, false, cl)).1)), .int (flB (sumL_ (hB b n) 2 (a, false, cl)).2.1 (sumL_ (hB b n) 2 (a, false, cl)).1)])), (aRt, .inl (g.2.1 1, 60, .inl (fun j => sgB (b j)))), (aRc, .inl (g.2.1 0, 60, .inl (coL ((sumL_ (hB b n) 2 (a, false, cl)).2.2) f0)))]) := by
  refine Ct.ofX (lv := [some (.ref aR), some (.int 2), none, none]) (by decide) rfl (Nat.le_of_ble_eq_true rfl) (fun κ => ?_)
  generalize hQ : xQ κ g 0 0 _ = Q
  refine x_aload_n dX1_readSum_0 rfl ?_
  refine x_iload_n dX1_readSum_1 rfl ?_
  refine x_cVv (ws' := [(aR, .inr (1, [.ref aRt, .ref aRc, .int (nI n), .int (nI ((prodL (hB b n) 2 (a, false, cl)).2.2.length)), .int (nI ((prodL (hB b n) 2 (a, false, cl)).1)), .int (flB (prodL (hB b n) 2 (a, false, cl)).2.1 (prodL (hB b n) 2 (a, false, cl)).1)])), (aRt, .inl (g.2.1 1, 60, .inl (fun j => sgB (b j)))), (aRc, .inl (g.2.1 0, 60, .inl (coL ((prodL (hB b n) 2 (a, false, cl)).2.2) f0)))]) dX1_readSum_2 ml_X1_51 mX1_readProduct (ct_rp_2 κ.2.1 g aR aRt aRc n a b f0 cl (by omega) (hn) (hb) (by omega)) [0, 1, 2] rfl rfl 0 rfl rfl rfl (Nat.le_of_ble_eq_true rfl) (by decide) (Nat.le_refl _) (Nat.le_refl _) (rfl : [aR, aRt, aRc] = [aR, aRt, aRc]) rfl ?_
  have hk0 := prodL_ok (okH_hB b n) 2 (a, false, cl) ⟨ha, hl⟩
  refine x_iconst 0 dX1_readSum_5 (by decide) ?_
  refine x_istore_n (lv' := [some (.ref aR), some (.int 2), some (.int 0), none]) dX1_readSum_6 (xlt rfl) rfl ?_
  have L7_1 : ∀ (i : Nat), i ≤ 60 → ∀ (qa : Nat), ∀ (qb : Bool), ∀ (qc : List Int32), (qa, qb, qc) = itr (smS (hB b n) (prodL (hB b n) 2)) i (prodL (hB b n) 2 (a, false, cl)) → qa ≤ n → qc.length ≤ 60 → Xs κ g 17 0 0 cX1_readSum yX1_readSum none Q 0 0 7 [some (.ref aR), some (.int 2), some (.int (nI i)), none] [] [(aR, .inr (1, [.ref aRt, .ref aRc, .int (nI n), .int (nI qc.length), .int (nI qa), .int (flB qb qa)])), (aRt, .inl (g.2.1 1, 60, .inl (fun j => sgB (b j)))), (aRc, .inl (g.2.1 0, 60, .inl (coL qc f0)))] := by
    refine upTo 60 (fun i hi7 ih7 => ?_)
    intro qa
    intro qb
    intro qc
    intro hqq hqa hqc
    refine x_iload_n dX1_readSum_7 rfl ?_
    refine x_bipush 60 dX1_readSum_8 (by decide) ?_
    refine x_icmp_ge dX1_readSum_10 (fun c10 => ?_) (fun c10 => ?_)
    · have c10 : 60 ≤ (nI i) := c10
      have c10n := (nI_leI (a := 60) (b := i) (by omega) (by omega)).mp c10
      have hxc10 : i = 60 := by omega
      try rw [hxc10]
      try rw [hxc10] at hqq
      try rw [hxc10] at hqa
      try rw [hxc10] at hqc
      rw [← hQ]
      refine x_vret dX1_readSum_80 rfl (Nat.le_of_ble_eq_true rfl) (Nat.le_of_ble_eq_true rfl) ?_
      exact ⟨rfl, by first | (rw [show sumL_ (hB b n) 2 (a, false, cl) = (qa, qb, qc) from Eq.trans (congrFun (sumL_eq (hB b n) 2) (a, false, cl)) (hqq.symm)] <;> rfl) | (rw [show sumL_ (hB b n) 2 (a, false, cl) = (qa, true, qc) from Eq.trans (congrFun (sumL_eq (hB b n) 2) (a, false, cl)) (itr_fix hqq rfl (by omega))] <;> rfl) | (rw [show sumL_ (hB b n) 2 (a, false, cl) = (qa, false, qc) from Eq.trans (congrFun (sumL_eq (hB b n) 2) (a, false, cl)) (itr_fix hqq (by simp [smS, sees0 c26, sees0 c35]) (by omega))] <;> rfl)⟩
    · have c10 : ¬ (60 ≤ (nI i)) := c10
      have c10n := mt (nI_leI (a := 60) (b := i) (by omega) (by omega)).mpr c10
      cases qb
      · skip
        refine x_eq (lv' := [some (.ref aR), some (.int 2), some (.int (nI i)), none]) (st' := []) (ws' := [(aR, .inr (1, [.ref aRt, .ref aRc, .int (nI n), .int (nI qc.length), .int (nI qa), .int ((-1))])), (aRt, .inl (g.2.1 1, 60, .inl (fun j => sgB (b j)))), (aRc, .inl (g.2.1 0, 60, .inl (coL qc f0)))]) ?_ rfl rfl rfl
        refine x_aload_n dX1_readSum_13 rfl ?_
        refine x_get dX1_readSum_14 0 5 inX1 fl_X1_44 rfl rfl (by decide) rfl ?_
        refine x_if_ge dX1_readSum_17 (fun c17 => ?_) (fun c17 => ?_)
        · exact absurd c17 (by decide)
        refine x_aload_n dX1_readSum_20 rfl ?_
        refine x_bipush 43 dX1_readSum_21 (by decide) ?_
        refine x_cVi0 dX1_readSum_23 ml_X1_54 mX1_sees (ct_X1_sees κ.2.1 g aR aRt aRc n qa qc.length b (-1) 43 (by omega) (hn) (hb) (by decide)) [0, 1] rfl rfl 0 rfl rfl rfl (Nat.le_of_ble_eq_true rfl) (by decide) (Nat.le_refl _) (Nat.le_refl _) ?_
        refine x_if_ne dX1_readSum_26 (fun c26 => ?_) (fun c26 => ?_)
        · have c26 : ¬ ((seesI b n qa 43) = 0) := c26
          refine x_aload_n dX1_readSum_38 rfl ?_
          refine x_bipush 43 dX1_readSum_39 (by decide) ?_
          refine x_cVi0 dX1_readSum_41 ml_X1_54 mX1_sees (ct_X1_sees κ.2.1 g aR aRt aRc n qa qc.length b (-1) 43 (by omega) (hn) (hb) (by decide)) [0, 1] rfl rfl 0 rfl rfl rfl (Nat.le_of_ble_eq_true rfl) (by decide) (Nat.le_refl _) (Nat.le_refl _) ?_
          refine x_if_eq dX1_readSum_44 (fun c44 => ?_) (fun c44 => ?_)
          · have c44 : (seesI b n qa 43) = 0 := c44
            exact absurd c44 c26
          · have c44 : ¬ ((seesI b n qa 43) = 0) := c44
            refine x_iconst (-1) dX1_readSum_47 (by decide) ?_
            refine x_goto dX1_readSum_48 ?_
            refine x_istore_n (lv' := [some (.ref aR), some (.int 2), some (.int (nI i)), some (.int ((-1)))]) dX1_readSum_53 (xlt rfl) rfl ?_
            refine x_aload_n dX1_readSum_54 rfl ?_
            refine x_dup dX1_readSum_55 rfl ?_
            refine x_get dX1_readSum_56 0 4 inX1 fl_X1_41 rfl rfl (by decide) rfl ?_
            refine x_iconst 1 dX1_readSum_59 (by decide) ?_
            refine x_iadd dX1_readSum_60 ?_
            refine x_rei (nI (qa + 1)) (nI_addc qa 1 rfl) ?_
            refine x_put (ws' := [(aR, .inr (1, [.ref aRt, .ref aRc, .int (nI n), .int (nI qc.length), .int (nI (qa + 1)), .int ((-1))])), (aRt, .inl (g.2.1 1, 60, .inl (fun j => sgB (b j)))), (aRc, .inl (g.2.1 0, 60, .inl (coL qc f0)))]) dX1_readSum_61 0 4 inX1 tyX1_ok nmX1 fl_X1_41 rfl rfl (by decide) rfl (rfl) rfl (xlt rfl) rfl ?_
            refine x_aload_n dX1_readSum_64 rfl ?_
            have hav : qa + 1 ≤ n := by first | exact adv_le (okH_hB b n) (sees1 c26) (by decide) | exact adv_le (okH_hB b n) (sees1 c35) (by decide)
            refine x_iload_n dX1_readSum_65 rfl ?_
            refine x_cVv (ws' := [(aR, .inr (1, [.ref aRt, .ref aRc, .int (nI n), .int (nI ((prodL (hB b n) 2 ((qa + 1), false, qc)).2.2.length)), .int (nI ((prodL (hB b n) 2 ((qa + 1), false, qc)).1)), .int (flB (prodL (hB b n) 2 ((qa + 1), false, qc)).2.1 (prodL (hB b n) 2 ((qa + 1), false, qc)).1)])), (aRt, .inl (g.2.1 1, 60, .inl (fun j => sgB (b j)))), (aRc, .inl (g.2.1 0, 60, .inl (coL ((prodL (hB b n) 2 ((qa + 1), false, qc)).2.2) f0)))]) dX1_readSum_66 ml_X1_51 mX1_readProduct (ct_rp_2 κ.2.1 g aR aRt aRc n (qa + 1) b f0 qc (by omega) (hn) (hb) (by omega)) [0, 1, 2] rfl rfl 0 rfl rfl rfl (Nat.le_of_ble_eq_true rfl) (by decide) (Nat.le_refl _) (Nat.le_refl _) (rfl : [aR, aRt, aRc] = [aR, aRt, aRc]) rfl ?_
            have hk := prodL_ok (okH_hB b n) 2 (qa + 1, false, qc) ⟨hav, hqc⟩
            refine x_aload_n dX1_readSum_69 rfl ?_
            refine x_iload_n dX1_readSum_70 rfl ?_
            refine x_cVv (ws' := [(aR, .inr (1, [.ref aRt, .ref aRc, .int (nI n), .int (nI ((putL (-1) ((prodL (hB b n) 2 ((qa + 1), false, qc)).2.2)).length)), .int (nI ((prodL (hB b n) 2 ((qa + 1), false, qc)).1)), .int (flB (prodL (hB b n) 2 ((qa + 1), false, qc)).2.1 (prodL (hB b n) 2 ((qa + 1), false, qc)).1)])), (aRt, .inl (g.2.1 1, 60, .inl (fun j => sgB (b j)))), (aRc, .inl (g.2.1 0, 60, .inl (coL (putL (-1) ((prodL (hB b n) 2 ((qa + 1), false, qc)).2.2)) f0)))]) dX1_readSum_71 ml_X1_58 mX1_put (ct_X1_put κ.2.1 g aR aRt aRc n ((prodL (hB b n) 2 ((qa + 1), false, qc)).1) f0 ((prodL (hB b n) 2 ((qa + 1), false, qc)).2.2) (flB (prodL (hB b n) 2 ((qa + 1), false, qc)).2.1 (prodL (hB b n) 2 ((qa + 1), false, qc)).1) (-1) (hk.2)) [0, 2] rfl rfl 0 rfl rfl rfl (Nat.le_of_ble_eq_true rfl) (by decide) (Nat.le_refl _) (Nat.le_refl _) (rfl : [aR, aRc] = [aR, aRc]) rfl ?_
            refine x_iinc (lv' := [some (.ref aR), some (.int 2), some (.int (nI (i + 1))), some (.int ((-1)))]) (nI (i + 1)) dX1_readSum_74 rfl (nI_addc i 1 rfl) rfl ?_
            refine x_goto dX1_readSum_77 ?_
            refine x_fgt (lv' := [some (.ref aR), some (.int 2), some (.int (nI (i + 1))), none]) ⟨Or.inr rfl, Or.inr rfl, Or.inr rfl, Or.inl rfl, trivial⟩ ?_
            exact ih7 (by omega) ((prodL (hB b n) 2 ((qa + 1), false, qc)).1) ((prodL (hB b n) 2 ((qa + 1), false, qc)).2.1) (putL (-1) (prodL (hB b n) 2 ((qa + 1), false, qc)).2.2) (by rw [itr, ← hqq]; simp only [smS, sees1 c26]; rfl) (hk.1) (putL_le hk.2)
        · have c26 : (seesI b n qa 43) = 0 := c26
          refine x_aload_n dX1_readSum_29 rfl ?_
          refine x_bipush 45 dX1_readSum_30 (by decide) ?_
          refine x_cVi0 dX1_readSum_32 ml_X1_54 mX1_sees (ct_X1_sees κ.2.1 g aR aRt aRc n qa qc.length b (-1) 45 (by omega) (hn) (hb) (by decide)) [0, 1] rfl rfl 0 rfl rfl rfl (Nat.le_of_ble_eq_true rfl) (by decide) (Nat.le_refl _) (Nat.le_refl _) ?_
          refine x_if_eq dX1_readSum_35 (fun c35 => ?_) (fun c35 => ?_)
          · have c35 : (seesI b n qa 45) = 0 := c35
            rw [← hQ]
            refine x_vret dX1_readSum_80 rfl (Nat.le_of_ble_eq_true rfl) (Nat.le_of_ble_eq_true rfl) ?_
            exact ⟨rfl, by first | (rw [show sumL_ (hB b n) 2 (a, false, cl) = (qa, qb, qc) from Eq.trans (congrFun (sumL_eq (hB b n) 2) (a, false, cl)) (hqq.symm)] <;> rfl) | (rw [show sumL_ (hB b n) 2 (a, false, cl) = (qa, true, qc) from Eq.trans (congrFun (sumL_eq (hB b n) 2) (a, false, cl)) (itr_fix hqq rfl (by omega))] <;> rfl) | (rw [show sumL_ (hB b n) 2 (a, false, cl) = (qa, false, qc) from Eq.trans (congrFun (sumL_eq (hB b n) 2) (a, false, cl)) (itr_fix hqq (by simp [smS, sees0 c26, sees0 c35]) (by omega))] <;> rfl)⟩
          · have c35 : ¬ ((seesI b n qa 45) = 0) := c35
            refine x_aload_n dX1_readSum_38 rfl ?_
            refine x_bipush 43 dX1_readSum_39 (by decide) ?_
            refine x_cVi0 dX1_readSum_41 ml_X1_54 mX1_sees (ct_X1_sees κ.2.1 g aR aRt aRc n qa qc.length b (-1) 43 (by omega) (hn) (hb) (by decide)) [0, 1] rfl rfl 0 rfl rfl rfl (Nat.le_of_ble_eq_true rfl) (by decide) (Nat.le_refl _) (Nat.le_refl _) ?_
            refine x_if_eq dX1_readSum_44 (fun c44 => ?_) (fun c44 => ?_)
            · have c44 : (seesI b n qa 43) = 0 := c44
              refine x_bipush (-2) dX1_readSum_51 (by decide) ?_
              refine x_istore_n (lv' := [some (.ref aR), some (.int 2), some (.int (nI i)), some (.int ((-2)))]) dX1_readSum_53 (xlt rfl) rfl ?_
              refine x_aload_n dX1_readSum_54 rfl ?_
              refine x_dup dX1_readSum_55 rfl ?_
              refine x_get dX1_readSum_56 0 4 inX1 fl_X1_41 rfl rfl (by decide) rfl ?_
              refine x_iconst 1 dX1_readSum_59 (by decide) ?_
              refine x_iadd dX1_readSum_60 ?_
              refine x_rei (nI (qa + 1)) (nI_addc qa 1 rfl) ?_
              refine x_put (ws' := [(aR, .inr (1, [.ref aRt, .ref aRc, .int (nI n), .int (nI qc.length), .int (nI (qa + 1)), .int ((-1))])), (aRt, .inl (g.2.1 1, 60, .inl (fun j => sgB (b j)))), (aRc, .inl (g.2.1 0, 60, .inl (coL qc f0)))]) dX1_readSum_61 0 4 inX1 tyX1_ok nmX1 fl_X1_41 rfl rfl (by decide) rfl (rfl) rfl (xlt rfl) rfl ?_
              refine x_aload_n dX1_readSum_64 rfl ?_
              have hav : qa + 1 ≤ n := by first | exact adv_le (okH_hB b n) (sees1 c26) (by decide) | exact adv_le (okH_hB b n) (sees1 c35) (by decide)
              refine x_iload_n dX1_readSum_65 rfl ?_
              refine x_cVv (ws' := [(aR, .inr (1, [.ref aRt, .ref aRc, .int (nI n), .int (nI ((prodL (hB b n) 2 ((qa + 1), false, qc)).2.2.length)), .int (nI ((prodL (hB b n) 2 ((qa + 1), false, qc)).1)), .int (flB (prodL (hB b n) 2 ((qa + 1), false, qc)).2.1 (prodL (hB b n) 2 ((qa + 1), false, qc)).1)])), (aRt, .inl (g.2.1 1, 60, .inl (fun j => sgB (b j)))), (aRc, .inl (g.2.1 0, 60, .inl (coL ((prodL (hB b n) 2 ((qa + 1), false, qc)).2.2) f0)))]) dX1_readSum_66 ml_X1_51 mX1_readProduct (ct_rp_2 κ.2.1 g aR aRt aRc n (qa + 1) b f0 qc (by omega) (hn) (hb) (by omega)) [0, 1, 2] rfl rfl 0 rfl rfl rfl (Nat.le_of_ble_eq_true rfl) (by decide) (Nat.le_refl _) (Nat.le_refl _) (rfl : [aR, aRt, aRc] = [aR, aRt, aRc]) rfl ?_
              have hk := prodL_ok (okH_hB b n) 2 (qa + 1, false, qc) ⟨hav, hqc⟩
              refine x_aload_n dX1_readSum_69 rfl ?_
              refine x_iload_n dX1_readSum_70 rfl ?_
              refine x_cVv (ws' := [(aR, .inr (1, [.ref aRt, .ref aRc, .int (nI n), .int (nI ((putL (-2) ((prodL (hB b n) 2 ((qa + 1), false, qc)).2.2)).length)), .int (nI ((prodL (hB b n) 2 ((qa + 1), false, qc)).1)), .int (flB (prodL (hB b n) 2 ((qa + 1), false, qc)).2.1 (prodL (hB b n) 2 ((qa + 1), false, qc)).1)])), (aRt, .inl (g.2.1 1, 60, .inl (fun j => sgB (b j)))), (aRc, .inl (g.2.1 0, 60, .inl (coL (putL (-2) ((prodL (hB b n) 2 ((qa + 1), false, qc)).2.2)) f0)))]) dX1_readSum_71 ml_X1_58 mX1_put (ct_X1_put κ.2.1 g aR aRt aRc n ((prodL (hB b n) 2 ((qa + 1), false, qc)).1) f0 ((prodL (hB b n) 2 ((qa + 1), false, qc)).2.2) (flB (prodL (hB b n) 2 ((qa + 1), false, qc)).2.1 (prodL (hB b n) 2 ((qa + 1), false, qc)).1) (-2) (hk.2)) [0, 2] rfl rfl 0 rfl rfl rfl (Nat.le_of_ble_eq_true rfl) (by decide) (Nat.le_refl _) (Nat.le_refl _) (rfl : [aR, aRc] = [aR, aRc]) rfl ?_
              refine x_iinc (lv' := [some (.ref aR), some (.int 2), some (.int (nI (i + 1))), some (.int ((-2)))]) (nI (i + 1)) dX1_readSum_74 rfl (nI_addc i 1 rfl) rfl ?_
              refine x_goto dX1_readSum_77 ?_
              refine x_fgt (lv' := [some (.ref aR), some (.int 2), some (.int (nI (i + 1))), none]) ⟨Or.inr rfl, Or.inr rfl, Or.inr rfl, Or.inl rfl, trivial⟩ ?_
              exact ih7 (by omega) ((prodL (hB b n) 2 ((qa + 1), false, qc)).1) ((prodL (hB b n) 2 ((qa + 1), false, qc)).2.1) (putL (-2) (prodL (hB b n) 2 ((qa + 1), false, qc)).2.2) (by rw [itr, ← hqq]; simp only [smS, sees1 c35]; rfl) (hk.1) (putL_le hk.2)
            · have c44 : ¬ ((seesI b n qa 43) = 0) := c44
              exact absurd c26 c44
      · skip
        refine x_eq (lv' := [some (.ref aR), some (.int 2), some (.int (nI i)), none]) (st' := []) (ws' := [(aR, .inr (1, [.ref aRt, .ref aRc, .int (nI n), .int (nI qc.length), .int (nI qa), .int (nI qa)])), (aRt, .inl (g.2.1 1, 60, .inl (fun j => sgB (b j)))), (aRc, .inl (g.2.1 0, 60, .inl (coL qc f0)))]) ?_ rfl rfl rfl
        refine x_aload_n dX1_readSum_13 rfl ?_
        refine x_get dX1_readSum_14 0 5 inX1 fl_X1_44 rfl rfl (by decide) rfl ?_
        refine x_if_ge dX1_readSum_17 (fun c17 => ?_) (fun c17 => ?_)
        · have c17 : 0 ≤ (nI qa) := c17
          have c17n := (nI_leI (a := 0) (b := qa) (by omega) (by omega)).mp c17
          rw [← hQ]
          refine x_vret dX1_readSum_80 rfl (Nat.le_of_ble_eq_true rfl) (Nat.le_of_ble_eq_true rfl) ?_
          exact ⟨rfl, by first | (rw [show sumL_ (hB b n) 2 (a, false, cl) = (qa, qb, qc) from Eq.trans (congrFun (sumL_eq (hB b n) 2) (a, false, cl)) (hqq.symm)] <;> rfl) | (rw [show sumL_ (hB b n) 2 (a, false, cl) = (qa, true, qc) from Eq.trans (congrFun (sumL_eq (hB b n) 2) (a, false, cl)) (itr_fix hqq rfl (by omega))] <;> rfl) | (rw [show sumL_ (hB b n) 2 (a, false, cl) = (qa, false, qc) from Eq.trans (congrFun (sumL_eq (hB b n) 2) (a, false, cl)) (itr_fix hqq (by simp [smS, sees0 c26, sees0 c35]) (by omega))] <;> rfl)⟩
        · have c17 : ¬ (0 ≤ (nI qa)) := c17
          have c17n := mt (nI_leI (a := 0) (b := qa) (by omega) (by omega)).mpr c17
          exact absurd c17n (by omega)
  exact L7_1 0 (Nat.zero_le _) ((prodL (hB b n) 2 (a, false, cl)).1) ((prodL (hB b n) 2 (a, false, cl)).2.1) ((prodL (hB b n) 2 (a, false, cl)).2.2) (rfl) (hk0.1) (hk0.2)

-- == rb_2 ==
set_option maxRecDepth 100000 in
set_option maxHeartbeats 4000000 in
theorem ct_rb_2 (l : Launch) (g : XG) (aR aRt aRc n a : Nat) (b : Nat → Nat) (f0 : Nat → Int32) (cl : List Int32) (ha : a ≤ n) (hn : n ≤ 60) (hb : ∀ j, b j < 256) (hl : cl.length ≤ 60) : Ct l g 18 0 0 yX1_readBracket cX1_readBracket 2 none [.ref aR, .int 2] [(aR, .inr (1, [.ref aRt, .ref aRc, .int (nI n), .int (nI cl.length), .int (nI a), .int ((-1))])), (aRt, .inl (g.2.1 1, 60, .inl (fun j => sgB (b j)))), (aRc, .inl (g.2.1 0, 60, .inl (coL cl f0)))] (xpv [(aR, .inr (1, [.ref aRt, .ref aRc, .int (nI n), .int (nI ((brkL (hB b n) 2 (a, false, cl)).2.2.length)), .int (nI ((brkL (hB b n) 2 (a, false, cl)).1)), .int (flB (brkL (hB b n) 2 (a, false, cl)).2.1 (brkL (hB b n) 2 (a, false, cl)).1)])), (aRt, .inl (g.2.1 1, 60, .inl (fun j => sgB (b j)))), (aRc, .inl (g.2.1 0, 60, .inl (coL ((brkL (hB b n) 2 (a, false, cl)).2.2) f0)))]) := by
  refine Ct.ofX (lv := [some (.ref aR), some (.int 2)]) (by decide) rfl (Nat.le_of_ble_eq_true rfl) (fun κ => ?_)
  generalize hQ : xQ κ g 0 0 _ = Q
  refine x_aload_n dX1_readBracket_0 rfl ?_
  refine x_iload_n dX1_readBracket_1 rfl ?_
  refine x_cVv (ws' := [(aR, .inr (1, [.ref aRt, .ref aRc, .int (nI n), .int (nI ((sumL_ (hB b n) 2 (a, false, cl)).2.2.length)), .int (nI ((sumL_ (hB b n) 2 (a, false, cl)).1)), .int (flB (sumL_ (hB b n) 2 (a, false, cl)).2.1 (sumL_ (hB b n) 2 (a, false, cl)).1)])), (aRt, .inl (g.2.1 1, 60, .inl (fun j => sgB (b j)))), (aRc, .inl (g.2.1 0, 60, .inl (coL ((sumL_ (hB b n) 2 (a, false, cl)).2.2) f0)))]) dX1_readBracket_2 ml_X1_47 mX1_readSum (ct_rs_2 κ.2.1 g aR aRt aRc n a b f0 cl (by omega) (hn) (hb) (by omega)) [0, 1, 2] rfl rfl 0 rfl rfl rfl (Nat.le_of_ble_eq_true rfl) (by decide) (Nat.le_refl _) (Nat.le_refl _) (rfl : [aR, aRt, aRc] = [aR, aRt, aRc]) rfl ?_
  have hk1 := sumL_ok (okH_hB b n) 2 (a, false, cl) ⟨ha, hl⟩
  generalize hR1 : sumL_ (hB b n) 2 (a, false, cl) = R1 at hk1 ⊢
  obtain ⟨a1, b1, c1⟩ := R1
  dsimp only [okS] at hk1
  cases b1
  · skip
    refine x_eq (lv' := [some (.ref aR), some (.int 2)]) (st' := []) (ws' := [(aR, .inr (1, [.ref aRt, .ref aRc, .int (nI n), .int (nI c1.length), .int (nI a1), .int ((-1))])), (aRt, .inl (g.2.1 1, 60, .inl (fun j => sgB (b j)))), (aRc, .inl (g.2.1 0, 60, .inl (coL (c1) f0)))]) ?_ rfl rfl rfl
    refine x_aload_n dX1_readBracket_5 rfl ?_
    refine x_get dX1_readBracket_6 0 5 inX1 fl_X1_44 rfl rfl (by decide) rfl ?_
    refine x_if_ge dX1_readBracket_9 (fun c9 => ?_) (fun c9 => ?_)
    · exact absurd c9 (by decide)
    refine x_aload_n dX1_readBracket_12 rfl ?_
    refine x_bipush 63 dX1_readBracket_13 (by decide) ?_
    refine x_cVi0 dX1_readBracket_15 ml_X1_54 mX1_sees (ct_X1_sees κ.2.1 g aR aRt aRc n a1 c1.length b (-1) 63 (by omega) (hn) (hb) (by decide)) [0, 1] rfl rfl 0 rfl rfl rfl (Nat.le_of_ble_eq_true rfl) (by decide) (Nat.le_refl _) (Nat.le_refl _) ?_
    refine x_if_eq dX1_readBracket_18 (fun c18 => ?_) (fun c18 => ?_)
    · have c18 : (seesI b n a1 63) = 0 := c18
      refine x_aload_n dX1_readBracket_60 rfl ?_
      refine x_bipush 41 dX1_readBracket_61 (by decide) ?_
      refine x_cVv (ws' := [(aR, .inr (1, [.ref aRt, .ref aRc, .int (nI n), .int (nI c1.length), .int (nI ((pasA (hB b n) 41 false a1).1)), .int (flB (pasA (hB b n) 41 false a1).2 (pasA (hB b n) 41 false a1).1)])), (aRt, .inl (g.2.1 1, 60, .inl (fun j => sgB (b j)))), (aRc, .inl (g.2.1 0, 60, .inl (coL (c1) f0)))]) dX1_readBracket_63 ml_X1_77 mX1_pass (ct_X1_pass κ.2.1 g aR aRt aRc n a1 c1.length b 41 false (by omega) (hn) (hb) (by decide)) [0, 1] rfl rfl 0 rfl rfl rfl (Nat.le_of_ble_eq_true rfl) (by decide) (Nat.le_refl _) (Nat.le_refl _) (rfl : [aR, aRt] = [aR, aRt]) rfl ?_
      rw [← hQ]
      refine x_vret dX1_readBracket_66 rfl (Nat.le_of_ble_eq_true rfl) (Nat.le_of_ble_eq_true rfl) ?_
      exact ⟨rfl, by first | (rw [brkL, brkA hR1] <;> rfl) | (rw [brkL, brkB hR1 (sees0 c18)] <;> rfl) | (rw [brkL, brkC hR1 (sees1 c18) hR3] <;> rfl) | (rw [brkL, brkD hR1 (sees1 c18) hR3] <;> rfl)⟩
    · have c18 : ¬ ((seesI b n a1 63) = 0) := c18
      refine x_aload_n dX1_readBracket_21 rfl ?_
      refine x_dup dX1_readBracket_22 rfl ?_
      refine x_get dX1_readBracket_23 0 4 inX1 fl_X1_41 rfl rfl (by decide) rfl ?_
      refine x_iconst 1 dX1_readBracket_26 (by decide) ?_
      refine x_iadd dX1_readBracket_27 ?_
      refine x_rei (nI (a1 + 1)) (nI_addc a1 1 rfl) ?_
      refine x_put (ws' := [(aR, .inr (1, [.ref aRt, .ref aRc, .int (nI n), .int (nI c1.length), .int (nI (a1 + 1)), .int ((-1))])), (aRt, .inl (g.2.1 1, 60, .inl (fun j => sgB (b j)))), (aRc, .inl (g.2.1 0, 60, .inl (coL (c1) f0)))]) dX1_readBracket_28 0 4 inX1 tyX1_ok nmX1 fl_X1_41 rfl rfl (by decide) rfl (rfl) rfl (xlt rfl) rfl ?_
      refine x_aload_n dX1_readBracket_31 rfl ?_
      have hav := adv_le (okH_hB b n) (sees1 c18) (by decide)
      refine x_iload_n dX1_readBracket_32 rfl ?_
      refine x_cVv (ws' := [(aR, .inr (1, [.ref aRt, .ref aRc, .int (nI n), .int (nI ((sumL_ (hB b n) 2 ((a1 + 1), false, c1)).2.2.length)), .int (nI ((sumL_ (hB b n) 2 ((a1 + 1), false, c1)).1)), .int (flB (sumL_ (hB b n) 2 ((a1 + 1), false, c1)).2.1 (sumL_ (hB b n) 2 ((a1 + 1), false, c1)).1)])), (aRt, .inl (g.2.1 1, 60, .inl (fun j => sgB (b j)))), (aRc, .inl (g.2.1 0, 60, .inl (coL ((sumL_ (hB b n) 2 ((a1 + 1), false, c1)).2.2) f0)))]) dX1_readBracket_33 ml_X1_47 mX1_readSum (ct_rs_2 κ.2.1 g aR aRt aRc n (a1 + 1) b f0 c1 (by omega) (hn) (hb) (by omega)) [0, 1, 2] rfl rfl 0 rfl rfl rfl (Nat.le_of_ble_eq_true rfl) (by decide) (Nat.le_refl _) (Nat.le_refl _) (rfl : [aR, aRt, aRc] = [aR, aRt, aRc]) rfl ?_
      have hk2 := sumL_ok (okH_hB b n) 2 (a1 + 1, false, c1) ⟨hav, hk1.2⟩
      dsimp only [okS] at hk2
      refine x_aload_n dX1_readBracket_36 rfl ?_
      refine x_bipush 58 dX1_readBracket_37 (by decide) ?_
      refine x_cVv (ws' := [(aR, .inr (1, [.ref aRt, .ref aRc, .int (nI n), .int (nI ((sumL_ (hB b n) 2 ((a1 + 1), false, c1)).2.2.length)), .int (nI ((pasA (hB b n) 58 ((sumL_ (hB b n) 2 ((a1 + 1), false, c1)).2.1) ((sumL_ (hB b n) 2 ((a1 + 1), false, c1)).1)).1)), .int (flB (pasA (hB b n) 58 ((sumL_ (hB b n) 2 ((a1 + 1), false, c1)).2.1) ((sumL_ (hB b n) 2 ((a1 + 1), false, c1)).1)).2 (pasA (hB b n) 58 ((sumL_ (hB b n) 2 ((a1 + 1), false, c1)).2.1) ((sumL_ (hB b n) 2 ((a1 + 1), false, c1)).1)).1)])), (aRt, .inl (g.2.1 1, 60, .inl (fun j => sgB (b j)))), (aRc, .inl (g.2.1 0, 60, .inl (coL ((sumL_ (hB b n) 2 ((a1 + 1), false, c1)).2.2) f0)))]) dX1_readBracket_39 ml_X1_77 mX1_pass (ct_X1_pass κ.2.1 g aR aRt aRc n ((sumL_ (hB b n) 2 ((a1 + 1), false, c1)).1) ((sumL_ (hB b n) 2 ((a1 + 1), false, c1)).2.2.length) b 58 ((sumL_ (hB b n) 2 ((a1 + 1), false, c1)).2.1) (by omega) (hn) (hb) (by decide)) [0, 1] rfl rfl 0 rfl rfl rfl (Nat.le_of_ble_eq_true rfl) (by decide) (Nat.le_refl _) (Nat.le_refl _) (rfl : [aR, aRt] = [aR, aRt]) rfl ?_
      have hk3 := pasA_le (okH_hB b n) (c := 58) (by decide) (bd := (sumL_ (hB b n) 2 ((a1 + 1), false, c1)).2.1) hk2.1
      generalize hR3 : pasA (hB b n) 58 ((sumL_ (hB b n) 2 ((a1 + 1), false, c1)).2.1) ((sumL_ (hB b n) 2 ((a1 + 1), false, c1)).1) = R3 at hk3 ⊢
      obtain ⟨a3, b3⟩ := R3
      dsimp only at hk3
      cases b3
      · skip
        refine x_eq (lv' := [some (.ref aR), some (.int 2)]) (st' := []) (ws' := [(aR, .inr (1, [.ref aRt, .ref aRc, .int (nI n), .int (nI ((sumL_ (hB b n) 2 ((a1 + 1), false, c1)).2.2.length)), .int (nI a3), .int ((-1))])), (aRt, .inl (g.2.1 1, 60, .inl (fun j => sgB (b j)))), (aRc, .inl (g.2.1 0, 60, .inl (coL ((sumL_ (hB b n) 2 ((a1 + 1), false, c1)).2.2) f0)))]) ?_ rfl rfl rfl
        refine x_aload_n dX1_readBracket_42 rfl ?_
        refine x_get dX1_readBracket_43 0 5 inX1 fl_X1_44 rfl rfl (by decide) rfl ?_
        refine x_if_ge dX1_readBracket_46 (fun c46 => ?_) (fun c46 => ?_)
        · exact absurd c46 (by decide)
        refine x_aload_n dX1_readBracket_49 rfl ?_
        refine x_iload_n dX1_readBracket_50 rfl ?_
        refine x_cVv (ws' := [(aR, .inr (1, [.ref aRt, .ref aRc, .int (nI n), .int (nI ((sumL_ (hB b n) 2 (a3, false, ((sumL_ (hB b n) 2 ((a1 + 1), false, c1)).2.2))).2.2.length)), .int (nI ((sumL_ (hB b n) 2 (a3, false, ((sumL_ (hB b n) 2 ((a1 + 1), false, c1)).2.2))).1)), .int (flB (sumL_ (hB b n) 2 (a3, false, ((sumL_ (hB b n) 2 ((a1 + 1), false, c1)).2.2))).2.1 (sumL_ (hB b n) 2 (a3, false, ((sumL_ (hB b n) 2 ((a1 + 1), false, c1)).2.2))).1)])), (aRt, .inl (g.2.1 1, 60, .inl (fun j => sgB (b j)))), (aRc, .inl (g.2.1 0, 60, .inl (coL ((sumL_ (hB b n) 2 (a3, false, ((sumL_ (hB b n) 2 ((a1 + 1), false, c1)).2.2))).2.2) f0)))]) dX1_readBracket_51 ml_X1_47 mX1_readSum (ct_rs_2 κ.2.1 g aR aRt aRc n a3 b f0 ((sumL_ (hB b n) 2 ((a1 + 1), false, c1)).2.2) (by omega) (hn) (hb) (by omega)) [0, 1, 2] rfl rfl 0 rfl rfl rfl (Nat.le_of_ble_eq_true rfl) (by decide) (Nat.le_refl _) (Nat.le_refl _) (rfl : [aR, aRt, aRc] = [aR, aRt, aRc]) rfl ?_
        have hk4 := sumL_ok (okH_hB b n) 2 (a3, false, (sumL_ (hB b n) 2 ((a1 + 1), false, c1)).2.2) ⟨hk3, hk2.2⟩
        dsimp only [okS] at hk4
        refine x_aload_n dX1_readBracket_54 rfl ?_
        refine x_bipush (-4) dX1_readBracket_55 (by decide) ?_
        refine x_cVv (ws' := [(aR, .inr (1, [.ref aRt, .ref aRc, .int (nI n), .int (nI ((putL (-4) ((sumL_ (hB b n) 2 (a3, false, ((sumL_ (hB b n) 2 ((a1 + 1), false, c1)).2.2))).2.2)).length)), .int (nI ((sumL_ (hB b n) 2 (a3, false, ((sumL_ (hB b n) 2 ((a1 + 1), false, c1)).2.2))).1)), .int (flB (sumL_ (hB b n) 2 (a3, false, ((sumL_ (hB b n) 2 ((a1 + 1), false, c1)).2.2))).2.1 (sumL_ (hB b n) 2 (a3, false, ((sumL_ (hB b n) 2 ((a1 + 1), false, c1)).2.2))).1)])), (aRt, .inl (g.2.1 1, 60, .inl (fun j => sgB (b j)))), (aRc, .inl (g.2.1 0, 60, .inl (coL (putL (-4) ((sumL_ (hB b n) 2 (a3, false, ((sumL_ (hB b n) 2 ((a1 + 1), false, c1)).2.2))).2.2)) f0)))]) dX1_readBracket_57 ml_X1_58 mX1_put (ct_X1_put κ.2.1 g aR aRt aRc n ((sumL_ (hB b n) 2 (a3, false, ((sumL_ (hB b n) 2 ((a1 + 1), false, c1)).2.2))).1) f0 ((sumL_ (hB b n) 2 (a3, false, ((sumL_ (hB b n) 2 ((a1 + 1), false, c1)).2.2))).2.2) (flB (sumL_ (hB b n) 2 (a3, false, ((sumL_ (hB b n) 2 ((a1 + 1), false, c1)).2.2))).2.1 (sumL_ (hB b n) 2 (a3, false, ((sumL_ (hB b n) 2 ((a1 + 1), false, c1)).2.2))).1) (-4) (by first | exact hk4.2 | exact hk2.2)) [0, 2] rfl rfl 0 rfl rfl rfl (Nat.le_of_ble_eq_true rfl) (by decide) (Nat.le_refl _) (Nat.le_refl _) (rfl : [aR, aRc] = [aR, aRc]) rfl ?_
        refine x_aload_n dX1_readBracket_60 rfl ?_
        refine x_bipush 41 dX1_readBracket_61 (by decide) ?_
        refine x_cVv (ws' := [(aR, .inr (1, [.ref aRt, .ref aRc, .int (nI n), .int (nI ((putL (-4) ((sumL_ (hB b n) 2 (a3, false, ((sumL_ (hB b n) 2 ((a1 + 1), false, c1)).2.2))).2.2)).length)), .int (nI ((pasA (hB b n) 41 ((sumL_ (hB b n) 2 (a3, false, ((sumL_ (hB b n) 2 ((a1 + 1), false, c1)).2.2))).2.1) ((sumL_ (hB b n) 2 (a3, false, ((sumL_ (hB b n) 2 ((a1 + 1), false, c1)).2.2))).1)).1)), .int (flB (pasA (hB b n) 41 ((sumL_ (hB b n) 2 (a3, false, ((sumL_ (hB b n) 2 ((a1 + 1), false, c1)).2.2))).2.1) ((sumL_ (hB b n) 2 (a3, false, ((sumL_ (hB b n) 2 ((a1 + 1), false, c1)).2.2))).1)).2 (pasA (hB b n) 41 ((sumL_ (hB b n) 2 (a3, false, ((sumL_ (hB b n) 2 ((a1 + 1), false, c1)).2.2))).2.1) ((sumL_ (hB b n) 2 (a3, false, ((sumL_ (hB b n) 2 ((a1 + 1), false, c1)).2.2))).1)).1)])), (aRt, .inl (g.2.1 1, 60, .inl (fun j => sgB (b j)))), (aRc, .inl (g.2.1 0, 60, .inl (coL (putL (-4) ((sumL_ (hB b n) 2 (a3, false, ((sumL_ (hB b n) 2 ((a1 + 1), false, c1)).2.2))).2.2)) f0)))]) dX1_readBracket_63 ml_X1_77 mX1_pass (ct_X1_pass κ.2.1 g aR aRt aRc n ((sumL_ (hB b n) 2 (a3, false, ((sumL_ (hB b n) 2 ((a1 + 1), false, c1)).2.2))).1) ((putL (-4) ((sumL_ (hB b n) 2 (a3, false, ((sumL_ (hB b n) 2 ((a1 + 1), false, c1)).2.2))).2.2)).length) b 41 ((sumL_ (hB b n) 2 (a3, false, ((sumL_ (hB b n) 2 ((a1 + 1), false, c1)).2.2))).2.1) (by omega) (hn) (hb) (by decide)) [0, 1] rfl rfl 0 rfl rfl rfl (Nat.le_of_ble_eq_true rfl) (by decide) (Nat.le_refl _) (Nat.le_refl _) (rfl : [aR, aRt] = [aR, aRt]) rfl ?_
        rw [← hQ]
        refine x_vret dX1_readBracket_66 rfl (Nat.le_of_ble_eq_true rfl) (Nat.le_of_ble_eq_true rfl) ?_
        exact ⟨rfl, by first | (rw [brkL, brkA hR1] <;> rfl) | (rw [brkL, brkB hR1 (sees0 c18)] <;> rfl) | (rw [brkL, brkC hR1 (sees1 c18) hR3] <;> rfl) | (rw [brkL, brkD hR1 (sees1 c18) hR3] <;> rfl)⟩
      · skip
        refine x_eq (lv' := [some (.ref aR), some (.int 2)]) (st' := []) (ws' := [(aR, .inr (1, [.ref aRt, .ref aRc, .int (nI n), .int (nI ((sumL_ (hB b n) 2 ((a1 + 1), false, c1)).2.2.length)), .int (nI a3), .int (nI a3)])), (aRt, .inl (g.2.1 1, 60, .inl (fun j => sgB (b j)))), (aRc, .inl (g.2.1 0, 60, .inl (coL ((sumL_ (hB b n) 2 ((a1 + 1), false, c1)).2.2) f0)))]) ?_ rfl rfl rfl
        refine x_aload_n dX1_readBracket_42 rfl ?_
        refine x_get dX1_readBracket_43 0 5 inX1 fl_X1_44 rfl rfl (by decide) rfl ?_
        refine x_if_ge dX1_readBracket_46 (fun c46 => ?_) (fun c46 => ?_)
        · have c46 : 0 ≤ (nI a3) := c46
          have c46n := (nI_leI (a := 0) (b := a3) (by omega) (by omega)).mp c46
          skip
          refine x_aload_n dX1_readBracket_54 rfl ?_
          refine x_bipush (-4) dX1_readBracket_55 (by decide) ?_
          refine x_cVv (ws' := [(aR, .inr (1, [.ref aRt, .ref aRc, .int (nI n), .int (nI ((putL (-4) ((sumL_ (hB b n) 2 ((a1 + 1), false, c1)).2.2)).length)), .int (nI a3), .int (nI a3)])), (aRt, .inl (g.2.1 1, 60, .inl (fun j => sgB (b j)))), (aRc, .inl (g.2.1 0, 60, .inl (coL (putL (-4) ((sumL_ (hB b n) 2 ((a1 + 1), false, c1)).2.2)) f0)))]) dX1_readBracket_57 ml_X1_58 mX1_put (ct_X1_put κ.2.1 g aR aRt aRc n a3 f0 ((sumL_ (hB b n) 2 ((a1 + 1), false, c1)).2.2) (nI a3) (-4) (by first | exact hk4.2 | exact hk2.2)) [0, 2] rfl rfl 0 rfl rfl rfl (Nat.le_of_ble_eq_true rfl) (by decide) (Nat.le_refl _) (Nat.le_refl _) (rfl : [aR, aRc] = [aR, aRc]) rfl ?_
          refine x_aload_n dX1_readBracket_60 rfl ?_
          refine x_bipush 41 dX1_readBracket_61 (by decide) ?_
          refine x_cVv (ws' := [(aR, .inr (1, [.ref aRt, .ref aRc, .int (nI n), .int (nI ((putL (-4) ((sumL_ (hB b n) 2 ((a1 + 1), false, c1)).2.2)).length)), .int (nI ((pasA (hB b n) 41 true a3).1)), .int (flB (pasA (hB b n) 41 true a3).2 (pasA (hB b n) 41 true a3).1)])), (aRt, .inl (g.2.1 1, 60, .inl (fun j => sgB (b j)))), (aRc, .inl (g.2.1 0, 60, .inl (coL (putL (-4) ((sumL_ (hB b n) 2 ((a1 + 1), false, c1)).2.2)) f0)))]) dX1_readBracket_63 ml_X1_77 mX1_pass (ct_X1_pass κ.2.1 g aR aRt aRc n a3 ((putL (-4) ((sumL_ (hB b n) 2 ((a1 + 1), false, c1)).2.2)).length) b 41 true (by omega) (hn) (hb) (by decide)) [0, 1] rfl rfl 0 rfl rfl rfl (Nat.le_of_ble_eq_true rfl) (by decide) (Nat.le_refl _) (Nat.le_refl _) (rfl : [aR, aRt] = [aR, aRt]) rfl ?_
          rw [← hQ]
          refine x_vret dX1_readBracket_66 rfl (Nat.le_of_ble_eq_true rfl) (Nat.le_of_ble_eq_true rfl) ?_
          exact ⟨rfl, by first | (rw [brkL, brkA hR1] <;> rfl) | (rw [brkL, brkB hR1 (sees0 c18)] <;> rfl) | (rw [brkL, brkC hR1 (sees1 c18) hR3] <;> rfl) | (rw [brkL, brkD hR1 (sees1 c18) hR3] <;> rfl)⟩
        · have c46 : ¬ (0 ≤ (nI a3)) := c46
          have c46n := mt (nI_leI (a := 0) (b := a3) (by omega) (by omega)).mpr c46
          exact absurd c46n (by omega)
  · skip
    refine x_eq (lv' := [some (.ref aR), some (.int 2)]) (st' := []) (ws' := [(aR, .inr (1, [.ref aRt, .ref aRc, .int (nI n), .int (nI c1.length), .int (nI a1), .int (nI a1)])), (aRt, .inl (g.2.1 1, 60, .inl (fun j => sgB (b j)))), (aRc, .inl (g.2.1 0, 60, .inl (coL (c1) f0)))]) ?_ rfl rfl rfl
    refine x_aload_n dX1_readBracket_5 rfl ?_
    refine x_get dX1_readBracket_6 0 5 inX1 fl_X1_44 rfl rfl (by decide) rfl ?_
    refine x_if_ge dX1_readBracket_9 (fun c9 => ?_) (fun c9 => ?_)
    · have c9 : 0 ≤ (nI a1) := c9
      have c9n := (nI_leI (a := 0) (b := a1) (by omega) (by omega)).mp c9
      refine x_aload_n dX1_readBracket_60 rfl ?_
      refine x_bipush 41 dX1_readBracket_61 (by decide) ?_
      refine x_cVv (ws' := [(aR, .inr (1, [.ref aRt, .ref aRc, .int (nI n), .int (nI c1.length), .int (nI ((pasA (hB b n) 41 true a1).1)), .int (flB (pasA (hB b n) 41 true a1).2 (pasA (hB b n) 41 true a1).1)])), (aRt, .inl (g.2.1 1, 60, .inl (fun j => sgB (b j)))), (aRc, .inl (g.2.1 0, 60, .inl (coL (c1) f0)))]) dX1_readBracket_63 ml_X1_77 mX1_pass (ct_X1_pass κ.2.1 g aR aRt aRc n a1 c1.length b 41 true (by omega) (hn) (hb) (by decide)) [0, 1] rfl rfl 0 rfl rfl rfl (Nat.le_of_ble_eq_true rfl) (by decide) (Nat.le_refl _) (Nat.le_refl _) (rfl : [aR, aRt] = [aR, aRt]) rfl ?_
      rw [← hQ]
      refine x_vret dX1_readBracket_66 rfl (Nat.le_of_ble_eq_true rfl) (Nat.le_of_ble_eq_true rfl) ?_
      exact ⟨rfl, by first | (rw [brkL, brkA hR1] <;> rfl) | (rw [brkL, brkB hR1 (sees0 c18)] <;> rfl) | (rw [brkL, brkC hR1 (sees1 c18) hR3] <;> rfl) | (rw [brkL, brkD hR1 (sees1 c18) hR3] <;> rfl)⟩
    · have c9 : ¬ (0 ≤ (nI a1)) := c9
      have c9n := mt (nI_leI (a := 0) (b := a1) (by omega) (by omega)).mpr c9
      exact absurd c9n (by omega)

-- == rf_3 ==
set_option maxRecDepth 100000 in
set_option maxHeartbeats 4000000 in
theorem ct_rf_3 (l : Launch) (g : XG) (aR aRt aRc n a : Nat) (b : Nat → Nat) (f0 : Nat → Int32) (cl : List Int32) (ha : a ≤ n) (hn : n ≤ 60) (hb : ∀ j, b j < 256) (hl : cl.length ≤ 60) : Ct l g 19 0 0 yX1_readFactor cX1_readFactor 2 none [.ref aR, .int 1] [(aR, .inr (1, [.ref aRt, .ref aRc, .int (nI n), .int (nI cl.length), .int (nI a), .int ((-1))])), (aRt, .inl (g.2.1 1, 60, .inl (fun j => sgB (b j)))), (aRc, .inl (g.2.1 0, 60, .inl (coL cl f0)))] (xpv [(aR, .inr (1, [.ref aRt, .ref aRc, .int (nI n), .int (nI ((facL (hB b n) 3 (a, false, cl)).2.2.length)), .int (nI ((facL (hB b n) 3 (a, false, cl)).1)), .int (flB (facL (hB b n) 3 (a, false, cl)).2.1 (facL (hB b n) 3 (a, false, cl)).1)])), (aRt, .inl (g.2.1 1, 60, .inl (fun j => sgB (b j)))), (aRc, .inl (g.2.1 0, 60, .inl (coL ((facL (hB b n) 3 (a, false, cl)).2.2) f0)))]) := by
  refine Ct.ofX (lv := [some (.ref aR), some (.int 1)]) (by decide) rfl (Nat.le_of_ble_eq_true rfl) (fun κ => ?_)
  generalize hQ : xQ κ g 0 0 _ = Q
  refine x_aload_n dX1_readFactor_0 rfl ?_
  refine x_get dX1_readFactor_1 0 5 inX1 fl_X1_44 rfl rfl (by decide) rfl ?_
  refine x_if_lt dX1_readFactor_4 (fun c4 => ?_) (fun c4 => ?_)
  rotate_left
  · exact absurd c4 (by decide)
  refine x_aload_n dX1_readFactor_8 rfl ?_
  refine x_cVi0 dX1_readFactor_9 ml_X1_64 mX1_digit (ct_X1_digit κ.2.1 g aR aRt aRc n a cl.length b (-1) (by omega) (hn) (hb)) [0, 1] rfl rfl 0 rfl rfl rfl (Nat.le_of_ble_eq_true rfl) (by decide) (Nat.le_refl _) (Nat.le_refl _) ?_
  refine x_if_lt dX1_readFactor_12 (fun c12 => ?_) (fun c12 => ?_)
  · have c12 : (digI b n a) < 0 := c12
    refine x_aload_n dX1_readFactor_22 rfl ?_
    refine x_cVi0 dX1_readFactor_23 ml_X1_71 mX1_nameHere (ct_X1_nameHere κ.2.1 g aR aRt aRc n a cl.length b (-1) (by omega) (hn) (hb)) [0, 1] rfl rfl 0 rfl rfl rfl (Nat.le_of_ble_eq_true rfl) (by decide) (Nat.le_refl _) (Nat.le_refl _) ?_
    refine x_if_lt dX1_readFactor_26 (fun c26 => ?_) (fun c26 => ?_)
    · have c26 : (nmhI b n a) < 0 := c26
      refine x_aload_n dX1_readFactor_53 rfl ?_
      refine x_bipush 40 dX1_readFactor_54 (by decide) ?_
      refine x_cVi0 dX1_readFactor_56 ml_X1_54 mX1_sees (ct_X1_sees κ.2.1 g aR aRt aRc n a cl.length b (-1) 40 (by omega) (hn) (hb) (by decide)) [0, 1] rfl rfl 0 rfl rfl rfl (Nat.le_of_ble_eq_true rfl) (by decide) (Nat.le_refl _) (Nat.le_refl _) ?_
      refine x_if_eq dX1_readFactor_59 (fun c59 => ?_) (fun c59 => ?_)
      · have c59 : (seesI b n a 40) = 0 := c59
        refine x_aload_n dX1_readFactor_87 rfl ?_
        refine x_aload_n dX1_readFactor_88 rfl ?_
        refine x_get dX1_readFactor_89 0 4 inX1 fl_X1_41 rfl rfl (by decide) rfl ?_
        refine x_put (ws' := [(aR, .inr (1, [.ref aRt, .ref aRc, .int (nI n), .int (nI cl.length), .int (nI a), .int (nI a)])), (aRt, .inl (g.2.1 1, 60, .inl (fun j => sgB (b j)))), (aRc, .inl (g.2.1 0, 60, .inl (coL cl f0)))]) dX1_readFactor_92 0 5 inX1 tyX1_ok nmX1 fl_X1_44 rfl rfl (by decide) rfl (rfl) rfl (xlt rfl) rfl ?_
        rw [← hQ]
        refine x_vret dX1_readFactor_95 rfl (Nat.le_of_ble_eq_true rfl) (Nat.le_of_ble_eq_true rfl) ?_
        exact ⟨rfl, by first | (rw [facL, fac_num (dig1 c12)] <;> rfl) | (rw [facL, fac_nm (dig0 c12) (nmh1 c26)] <;> rfl) | (rw [facL, fac_br (dig0 c12) (nmh0 c26) (sees1 c59)] <;> rfl) | (rw [facL, fac_bad (dig0 c12) (nmh0 c26) (sees0 c59)] <;> rfl)⟩
      · have c59 : ¬ ((seesI b n a 40) = 0) := c59
        refine x_iload_n dX1_readFactor_62 rfl ?_
        refine x_iconst 4 dX1_readFactor_63 (by decide) ?_
        refine x_icmp_ge dX1_readFactor_64 (fun c64 => ?_) (fun c64 => ?_)
        · exact absurd c64 (by decide)
        refine x_aload_n dX1_readFactor_67 rfl ?_
        refine x_dup dX1_readFactor_68 rfl ?_
        refine x_get dX1_readFactor_69 0 4 inX1 fl_X1_41 rfl rfl (by decide) rfl ?_
        refine x_iconst 1 dX1_readFactor_72 (by decide) ?_
        refine x_iadd dX1_readFactor_73 ?_
        refine x_rei (nI (a + 1)) (nI_addc a 1 rfl) ?_
        refine x_put (ws' := [(aR, .inr (1, [.ref aRt, .ref aRc, .int (nI n), .int (nI cl.length), .int (nI (a + 1)), .int ((-1))])), (aRt, .inl (g.2.1 1, 60, .inl (fun j => sgB (b j)))), (aRc, .inl (g.2.1 0, 60, .inl (coL cl f0)))]) dX1_readFactor_74 0 4 inX1 tyX1_ok nmX1 fl_X1_41 rfl rfl (by decide) rfl (rfl) rfl (xlt rfl) rfl ?_
        refine x_aload_n dX1_readFactor_77 rfl ?_
        refine x_iload_n dX1_readFactor_78 rfl ?_
        refine x_iconst 1 dX1_readFactor_79 (by decide) ?_
        have hav := adv_le (okH_hB b n) (sees1 c59) (by decide)
        refine x_iadd dX1_readFactor_80 ?_
        refine x_rei 2 (by decide) ?_
        refine x_cVv (ws' := [(aR, .inr (1, [.ref aRt, .ref aRc, .int (nI n), .int (nI ((brkL (hB b n) 2 ((a + 1), false, cl)).2.2.length)), .int (nI ((brkL (hB b n) 2 ((a + 1), false, cl)).1)), .int (flB (brkL (hB b n) 2 ((a + 1), false, cl)).2.1 (brkL (hB b n) 2 ((a + 1), false, cl)).1)])), (aRt, .inl (g.2.1 1, 60, .inl (fun j => sgB (b j)))), (aRc, .inl (g.2.1 0, 60, .inl (coL ((brkL (hB b n) 2 ((a + 1), false, cl)).2.2) f0)))]) dX1_readFactor_81 ml_X1_74 mX1_readBracket (ct_rb_2 κ.2.1 g aR aRt aRc n (a + 1) b f0 cl (by omega) (hn) (hb) (by omega)) [0, 1, 2] rfl rfl 0 rfl rfl rfl (Nat.le_of_ble_eq_true rfl) (by decide) (Nat.le_refl _) (Nat.le_refl _) (rfl : [aR, aRt, aRc] = [aR, aRt, aRc]) rfl ?_
        refine x_goto dX1_readFactor_84 ?_
        rw [← hQ]
        refine x_vret dX1_readFactor_95 rfl (Nat.le_of_ble_eq_true rfl) (Nat.le_of_ble_eq_true rfl) ?_
        exact ⟨rfl, by first | (rw [facL, fac_num (dig1 c12)] <;> rfl) | (rw [facL, fac_nm (dig0 c12) (nmh1 c26)] <;> rfl) | (rw [facL, fac_br (dig0 c12) (nmh0 c26) (sees1 c59)] <;> rfl) | (rw [facL, fac_bad (dig0 c12) (nmh0 c26) (sees0 c59)] <;> rfl)⟩
    · have c26 : ¬ ((nmhI b n a) < 0) := c26
      refine x_aload_n dX1_readFactor_29 rfl ?_
      refine x_bipush (-10) dX1_readFactor_30 (by decide) ?_
      refine x_aload_n dX1_readFactor_32 rfl ?_
      refine x_cVi0 dX1_readFactor_33 ml_X1_71 mX1_nameHere (ct_X1_nameHere κ.2.1 g aR aRt aRc n a cl.length b (-1) (by omega) (hn) (hb)) [0, 1] rfl rfl 0 rfl rfl rfl (Nat.le_of_ble_eq_true rfl) (by decide) (Nat.le_refl _) (Nat.le_refl _) ?_
      refine x_rei (nI (nmIx (hB b n a))) (if_pos (nmh1 c26)) ?_
      refine x_isub dX1_readFactor_36 ?_
      refine x_cVv (ws' := [(aR, .inr (1, [.ref aRt, .ref aRc, .int (nI n), .int (nI ((putL ((-10) - (nI (nmIx (hB b n a)))) cl).length)), .int (nI a), .int (-1)])), (aRt, .inl (g.2.1 1, 60, .inl (fun j => sgB (b j)))), (aRc, .inl (g.2.1 0, 60, .inl (coL (putL ((-10) - (nI (nmIx (hB b n a)))) cl) f0)))]) dX1_readFactor_37 ml_X1_58 mX1_put (ct_X1_put κ.2.1 g aR aRt aRc n a f0 cl (-1) ((-10) - (nI (nmIx (hB b n a)))) (hl)) [0, 2] rfl rfl 0 rfl rfl rfl (Nat.le_of_ble_eq_true rfl) (by decide) (Nat.le_refl _) (Nat.le_refl _) (rfl : [aR, aRc] = [aR, aRc]) rfl ?_
      refine x_aload_n dX1_readFactor_40 rfl ?_
      refine x_dup dX1_readFactor_41 rfl ?_
      refine x_get dX1_readFactor_42 0 4 inX1 fl_X1_41 rfl rfl (by decide) rfl ?_
      refine x_iconst 1 dX1_readFactor_45 (by decide) ?_
      refine x_iadd dX1_readFactor_46 ?_
      refine x_rei (nI (a + 1)) (nI_addc a 1 rfl) ?_
      refine x_put (ws' := [(aR, .inr (1, [.ref aRt, .ref aRc, .int (nI n), .int (nI ((putL ((-10) - (nI (nmIx (hB b n a)))) cl).length)), .int (nI (a + 1)), .int (-1)])), (aRt, .inl (g.2.1 1, 60, .inl (fun j => sgB (b j)))), (aRc, .inl (g.2.1 0, 60, .inl (coL (putL ((-10) - (nI (nmIx (hB b n a)))) cl) f0)))]) dX1_readFactor_47 0 4 inX1 tyX1_ok nmX1 fl_X1_41 rfl rfl (by decide) rfl (rfl) rfl (xlt rfl) rfl ?_
      refine x_goto dX1_readFactor_50 ?_
      rw [← hQ]
      refine x_vret dX1_readFactor_95 rfl (Nat.le_of_ble_eq_true rfl) (Nat.le_of_ble_eq_true rfl) ?_
      exact ⟨rfl, by first | (rw [facL, fac_num (dig1 c12)] <;> rfl) | (rw [facL, fac_nm (dig0 c12) (nmh1 c26)] <;> rfl) | (rw [facL, fac_br (dig0 c12) (nmh0 c26) (sees1 c59)] <;> rfl) | (rw [facL, fac_bad (dig0 c12) (nmh0 c26) (sees0 c59)] <;> rfl)⟩
  · have c12 : ¬ ((digI b n a) < 0) := c12
    refine x_aload_n dX1_readFactor_15 rfl ?_
    refine x_cVv (ws' := [(aR, .inr (1, [.ref aRt, .ref aRc, .int (nI n), .int (nI ((putL (nI (numI (hB b n) a).2) cl).length)), .int (nI ((numI (hB b n) a).1)), .int (-1)])), (aRt, .inl (g.2.1 1, 60, .inl (fun j => sgB (b j)))), (aRc, .inl (g.2.1 0, 60, .inl (coL (putL (nI (numI (hB b n) a).2) cl) f0)))]) dX1_readFactor_16 ml_X1_68 mX1_readNumber (ct_X1_readNumber κ.2.1 g aR aRt aRc n a b f0 cl (by omega) (hn) (hb) (by omega)) [0, 1, 2] rfl rfl 0 rfl rfl rfl (Nat.le_of_ble_eq_true rfl) (by decide) (Nat.le_refl _) (Nat.le_refl _) (rfl : [aR, aRt, aRc] = [aR, aRt, aRc]) rfl ?_
    refine x_goto dX1_readFactor_19 ?_
    rw [← hQ]
    refine x_vret dX1_readFactor_95 rfl (Nat.le_of_ble_eq_true rfl) (Nat.le_of_ble_eq_true rfl) ?_
    exact ⟨rfl, by first | (rw [facL, fac_num (dig1 c12)] <;> rfl) | (rw [facL, fac_nm (dig0 c12) (nmh1 c26)] <;> rfl) | (rw [facL, fac_br (dig0 c12) (nmh0 c26) (sees1 c59)] <;> rfl) | (rw [facL, fac_bad (dig0 c12) (nmh0 c26) (sees0 c59)] <;> rfl)⟩

-- == rp_3 ==
set_option maxRecDepth 100000 in
set_option maxHeartbeats 4000000 in
theorem ct_rp_3 (l : Launch) (g : XG) (aR aRt aRc n a : Nat) (b : Nat → Nat) (f0 : Nat → Int32) (cl : List Int32) (ha : a ≤ n) (hn : n ≤ 60) (hb : ∀ j, b j < 256) (hl : cl.length ≤ 60) : Ct l g 20 0 0 yX1_readProduct cX1_readProduct 3 none [.ref aR, .int 1] [(aR, .inr (1, [.ref aRt, .ref aRc, .int (nI n), .int (nI cl.length), .int (nI a), .int ((-1))])), (aRt, .inl (g.2.1 1, 60, .inl (fun j => sgB (b j)))), (aRc, .inl (g.2.1 0, 60, .inl (coL cl f0)))] (xpv [(aR, .inr (1, [.ref aRt, .ref aRc, .int (nI n), .int (nI ((prodL (hB b n) 3 (a, false, cl)).2.2.length)), .int (nI ((prodL (hB b n) 3 (a, false, cl)).1)), .int (flB (prodL (hB b n) 3 (a, false, cl)).2.1 (prodL (hB b n) 3 (a, false, cl)).1)])), (aRt, .inl (g.2.1 1, 60, .inl (fun j => sgB (b j)))), (aRc, .inl (g.2.1 0, 60, .inl (coL ((prodL (hB b n) 3 (a, false, cl)).2.2) f0)))]) := by
  refine Ct.ofX (lv := [some (.ref aR), some (.int 1), none]) (by decide) rfl (Nat.le_of_ble_eq_true rfl) (fun κ => ?_)
  generalize hQ : xQ κ g 0 0 _ = Q
  refine x_aload_n dX1_readProduct_0 rfl ?_
  refine x_iload_n dX1_readProduct_1 rfl ?_
  refine x_cVv (ws' := [(aR, .inr (1, [.ref aRt, .ref aRc, .int (nI n), .int (nI ((facL (hB b n) 3 (a, false, cl)).2.2.length)), .int (nI ((facL (hB b n) 3 (a, false, cl)).1)), .int (flB (facL (hB b n) 3 (a, false, cl)).2.1 (facL (hB b n) 3 (a, false, cl)).1)])), (aRt, .inl (g.2.1 1, 60, .inl (fun j => sgB (b j)))), (aRc, .inl (g.2.1 0, 60, .inl (coL ((facL (hB b n) 3 (a, false, cl)).2.2) f0)))]) dX1_readProduct_2 ml_X1_61 mX1_readFactor (ct_rf_3 κ.2.1 g aR aRt aRc n a b f0 cl (by omega) (hn) (hb) (by omega)) [0, 1, 2] rfl rfl 0 rfl rfl rfl (Nat.le_of_ble_eq_true rfl) (by decide) (Nat.le_refl _) (Nat.le_refl _) (rfl : [aR, aRt, aRc] = [aR, aRt, aRc]) rfl ?_
  have hk0 := facL_ok (okH_hB b n) 3 (a, false, cl) ⟨ha, hl⟩
  refine x_iconst 0 dX1_readProduct_5 (by decide) ?_
  refine x_istore_n (lv' := [some (.ref aR), some (.int 1), some (.int 0)]) dX1_readProduct_6 (xlt rfl) rfl ?_
  have L7_1 : ∀ (i : Nat), i ≤ 60 → ∀ (qa : Nat), ∀ (qb : Bool), ∀ (qc : List Int32), (qa, qb, qc) = itr (prS (hB b n) (facL (hB b n) 3)) i (facL (hB b n) 3 (a, false, cl)) → qa ≤ n → qc.length ≤ 60 → Xs κ g 20 0 0 cX1_readProduct yX1_readProduct none Q 0 0 7 [some (.ref aR), some (.int 1), some (.int (nI i))] [] [(aR, .inr (1, [.ref aRt, .ref aRc, .int (nI n), .int (nI qc.length), .int (nI qa), .int (flB qb qa)])), (aRt, .inl (g.2.1 1, 60, .inl (fun j => sgB (b j)))), (aRc, .inl (g.2.1 0, 60, .inl (coL qc f0)))] := by
    refine upTo 60 (fun i hi7 ih7 => ?_)
    intro qa
    intro qb
    intro qc
    intro hqq hqa hqc
    refine x_iload_n dX1_readProduct_7 rfl ?_
    refine x_bipush 60 dX1_readProduct_8 (by decide) ?_
    refine x_icmp_ge dX1_readProduct_10 (fun c10 => ?_) (fun c10 => ?_)
    · have c10 : 60 ≤ (nI i) := c10
      have c10n := (nI_leI (a := 60) (b := i) (by omega) (by omega)).mp c10
      have hxc10 : i = 60 := by omega
      try rw [hxc10]
      try rw [hxc10] at hqq
      try rw [hxc10] at hqa
      try rw [hxc10] at hqc
      rw [← hQ]
      refine x_vret dX1_readProduct_56 rfl (Nat.le_of_ble_eq_true rfl) (Nat.le_of_ble_eq_true rfl) ?_
      exact ⟨rfl, by first | (rw [show prodL (hB b n) 3 (a, false, cl) = (qa, qb, qc) from Eq.trans (rfl) (hqq.symm)] <;> rfl) | (rw [show prodL (hB b n) 3 (a, false, cl) = (qa, true, qc) from Eq.trans (rfl) (itr_fix hqq rfl (by omega))] <;> rfl) | (rw [show prodL (hB b n) 3 (a, false, cl) = (qa, false, qc) from Eq.trans (rfl) (itr_fix hqq (by simp [prS, sees0 c26]) (by omega))] <;> rfl)⟩
    · have c10 : ¬ (60 ≤ (nI i)) := c10
      have c10n := mt (nI_leI (a := 60) (b := i) (by omega) (by omega)).mpr c10
      cases qb
      · skip
        refine x_eq (lv' := [some (.ref aR), some (.int 1), some (.int (nI i))]) (st' := []) (ws' := [(aR, .inr (1, [.ref aRt, .ref aRc, .int (nI n), .int (nI qc.length), .int (nI qa), .int ((-1))])), (aRt, .inl (g.2.1 1, 60, .inl (fun j => sgB (b j)))), (aRc, .inl (g.2.1 0, 60, .inl (coL qc f0)))]) ?_ rfl rfl rfl
        refine x_aload_n dX1_readProduct_13 rfl ?_
        refine x_get dX1_readProduct_14 0 5 inX1 fl_X1_44 rfl rfl (by decide) rfl ?_
        refine x_if_ge dX1_readProduct_17 (fun c17 => ?_) (fun c17 => ?_)
        · exact absurd c17 (by decide)
        refine x_aload_n dX1_readProduct_20 rfl ?_
        refine x_bipush 42 dX1_readProduct_21 (by decide) ?_
        refine x_cVi0 dX1_readProduct_23 ml_X1_54 mX1_sees (ct_X1_sees κ.2.1 g aR aRt aRc n qa qc.length b (-1) 42 (by omega) (hn) (hb) (by decide)) [0, 1] rfl rfl 0 rfl rfl rfl (Nat.le_of_ble_eq_true rfl) (by decide) (Nat.le_refl _) (Nat.le_refl _) ?_
        refine x_if_eq dX1_readProduct_26 (fun c26 => ?_) (fun c26 => ?_)
        · have c26 : (seesI b n qa 42) = 0 := c26
          rw [← hQ]
          refine x_vret dX1_readProduct_56 rfl (Nat.le_of_ble_eq_true rfl) (Nat.le_of_ble_eq_true rfl) ?_
          exact ⟨rfl, by first | (rw [show prodL (hB b n) 3 (a, false, cl) = (qa, qb, qc) from Eq.trans (rfl) (hqq.symm)] <;> rfl) | (rw [show prodL (hB b n) 3 (a, false, cl) = (qa, true, qc) from Eq.trans (rfl) (itr_fix hqq rfl (by omega))] <;> rfl) | (rw [show prodL (hB b n) 3 (a, false, cl) = (qa, false, qc) from Eq.trans (rfl) (itr_fix hqq (by simp [prS, sees0 c26]) (by omega))] <;> rfl)⟩
        · have c26 : ¬ ((seesI b n qa 42) = 0) := c26
          refine x_aload_n dX1_readProduct_29 rfl ?_
          refine x_dup dX1_readProduct_30 rfl ?_
          refine x_get dX1_readProduct_31 0 4 inX1 fl_X1_41 rfl rfl (by decide) rfl ?_
          refine x_iconst 1 dX1_readProduct_34 (by decide) ?_
          refine x_iadd dX1_readProduct_35 ?_
          refine x_rei (nI (qa + 1)) (nI_addc qa 1 rfl) ?_
          refine x_put (ws' := [(aR, .inr (1, [.ref aRt, .ref aRc, .int (nI n), .int (nI qc.length), .int (nI (qa + 1)), .int ((-1))])), (aRt, .inl (g.2.1 1, 60, .inl (fun j => sgB (b j)))), (aRc, .inl (g.2.1 0, 60, .inl (coL qc f0)))]) dX1_readProduct_36 0 4 inX1 tyX1_ok nmX1 fl_X1_41 rfl rfl (by decide) rfl (rfl) rfl (xlt rfl) rfl ?_
          refine x_aload_n dX1_readProduct_39 rfl ?_
          have hav := adv_le (okH_hB b n) (sees1 c26) (by decide)
          refine x_iload_n dX1_readProduct_40 rfl ?_
          refine x_cVv (ws' := [(aR, .inr (1, [.ref aRt, .ref aRc, .int (nI n), .int (nI ((facL (hB b n) 3 ((qa + 1), false, qc)).2.2.length)), .int (nI ((facL (hB b n) 3 ((qa + 1), false, qc)).1)), .int (flB (facL (hB b n) 3 ((qa + 1), false, qc)).2.1 (facL (hB b n) 3 ((qa + 1), false, qc)).1)])), (aRt, .inl (g.2.1 1, 60, .inl (fun j => sgB (b j)))), (aRc, .inl (g.2.1 0, 60, .inl (coL ((facL (hB b n) 3 ((qa + 1), false, qc)).2.2) f0)))]) dX1_readProduct_41 ml_X1_61 mX1_readFactor (ct_rf_3 κ.2.1 g aR aRt aRc n (qa + 1) b f0 qc (by omega) (hn) (hb) (by omega)) [0, 1, 2] rfl rfl 0 rfl rfl rfl (Nat.le_of_ble_eq_true rfl) (by decide) (Nat.le_refl _) (Nat.le_refl _) (rfl : [aR, aRt, aRc] = [aR, aRt, aRc]) rfl ?_
          have hk := facL_ok (okH_hB b n) 3 (qa + 1, false, qc) ⟨hav, hqc⟩
          refine x_aload_n dX1_readProduct_44 rfl ?_
          refine x_bipush (-3) dX1_readProduct_45 (by decide) ?_
          refine x_cVv (ws' := [(aR, .inr (1, [.ref aRt, .ref aRc, .int (nI n), .int (nI ((putL (-3) ((facL (hB b n) 3 ((qa + 1), false, qc)).2.2)).length)), .int (nI ((facL (hB b n) 3 ((qa + 1), false, qc)).1)), .int (flB (facL (hB b n) 3 ((qa + 1), false, qc)).2.1 (facL (hB b n) 3 ((qa + 1), false, qc)).1)])), (aRt, .inl (g.2.1 1, 60, .inl (fun j => sgB (b j)))), (aRc, .inl (g.2.1 0, 60, .inl (coL (putL (-3) ((facL (hB b n) 3 ((qa + 1), false, qc)).2.2)) f0)))]) dX1_readProduct_47 ml_X1_58 mX1_put (ct_X1_put κ.2.1 g aR aRt aRc n ((facL (hB b n) 3 ((qa + 1), false, qc)).1) f0 ((facL (hB b n) 3 ((qa + 1), false, qc)).2.2) (flB (facL (hB b n) 3 ((qa + 1), false, qc)).2.1 (facL (hB b n) 3 ((qa + 1), false, qc)).1) (-3) (hk.2)) [0, 2] rfl rfl 0 rfl rfl rfl (Nat.le_of_ble_eq_true rfl) (by decide) (Nat.le_refl _) (Nat.le_refl _) (rfl : [aR, aRc] = [aR, aRc]) rfl ?_
          refine x_iinc (lv' := [some (.ref aR), some (.int 1), some (.int (nI (i + 1)))]) (nI (i + 1)) dX1_readProduct_50 rfl (nI_addc i 1 rfl) rfl ?_
          refine x_goto dX1_readProduct_53 ?_
          exact ih7 (by omega) ((facL (hB b n) 3 ((qa + 1), false, qc)).1) ((facL (hB b n) 3 ((qa + 1), false, qc)).2.1) (putL (-3) (facL (hB b n) 3 ((qa + 1), false, qc)).2.2) (by rw [itr, ← hqq]; simp only [prS, sees1 c26]; rfl) (hk.1) (putL_le hk.2)
      · skip
        refine x_eq (lv' := [some (.ref aR), some (.int 1), some (.int (nI i))]) (st' := []) (ws' := [(aR, .inr (1, [.ref aRt, .ref aRc, .int (nI n), .int (nI qc.length), .int (nI qa), .int (nI qa)])), (aRt, .inl (g.2.1 1, 60, .inl (fun j => sgB (b j)))), (aRc, .inl (g.2.1 0, 60, .inl (coL qc f0)))]) ?_ rfl rfl rfl
        refine x_aload_n dX1_readProduct_13 rfl ?_
        refine x_get dX1_readProduct_14 0 5 inX1 fl_X1_44 rfl rfl (by decide) rfl ?_
        refine x_if_ge dX1_readProduct_17 (fun c17 => ?_) (fun c17 => ?_)
        · have c17 : 0 ≤ (nI qa) := c17
          have c17n := (nI_leI (a := 0) (b := qa) (by omega) (by omega)).mp c17
          rw [← hQ]
          refine x_vret dX1_readProduct_56 rfl (Nat.le_of_ble_eq_true rfl) (Nat.le_of_ble_eq_true rfl) ?_
          exact ⟨rfl, by first | (rw [show prodL (hB b n) 3 (a, false, cl) = (qa, qb, qc) from Eq.trans (rfl) (hqq.symm)] <;> rfl) | (rw [show prodL (hB b n) 3 (a, false, cl) = (qa, true, qc) from Eq.trans (rfl) (itr_fix hqq rfl (by omega))] <;> rfl) | (rw [show prodL (hB b n) 3 (a, false, cl) = (qa, false, qc) from Eq.trans (rfl) (itr_fix hqq (by simp [prS, sees0 c26]) (by omega))] <;> rfl)⟩
        · have c17 : ¬ (0 ≤ (nI qa)) := c17
          have c17n := mt (nI_leI (a := 0) (b := qa) (by omega) (by omega)).mpr c17
          exact absurd c17n (by omega)
  exact L7_1 0 (Nat.zero_le _) ((facL (hB b n) 3 (a, false, cl)).1) ((facL (hB b n) 3 (a, false, cl)).2.1) ((facL (hB b n) 3 (a, false, cl)).2.2) (rfl) (hk0.1) (hk0.2)

-- == rs_3 ==
set_option maxRecDepth 100000 in
set_option maxHeartbeats 4000000 in
theorem ct_rs_3 (l : Launch) (g : XG) (aR aRt aRc n a : Nat) (b : Nat → Nat) (f0 : Nat → Int32) (cl : List Int32) (ha : a ≤ n) (hn : n ≤ 60) (hb : ∀ j, b j < 256) (hl : cl.length ≤ 60) : Ct l g 21 0 0 yX1_readSum cX1_readSum 4 none [.ref aR, .int 1] [(aR, .inr (1, [.ref aRt, .ref aRc, .int (nI n), .int (nI cl.length), .int (nI a), .int ((-1))])), (aRt, .inl (g.2.1 1, 60, .inl (fun j => sgB (b j)))), (aRc, .inl (g.2.1 0, 60, .inl (coL cl f0)))] (xpv [(aR, .inr (1, [.ref aRt, .ref aRc, .int (nI n), .int (nI ((sumL_ (hB b n) 3 (a, false, cl)).2.2.length)), .int (nI ((sumL_ (hB b n) 3 (a, false, cl)).1)), .int (flB (sumL_ (hB b n) 3 (a, false, cl)).2.1 (sumL_ (hB b n) 3 (a, false, cl)).1)])), (aRt, .inl (g.2.1 1, 60, .inl (fun j => sgB (b j)))), (aRc, .inl (g.2.1 0, 60, .inl (coL ((sumL_ (hB b n) 3 (a, false, cl)).2.2) f0)))]) := by
  refine Ct.ofX (lv := [some (.ref aR), some (.int 1), none, none]) (by decide) rfl (Nat.le_of_ble_eq_true rfl) (fun κ => ?_)
  generalize hQ : xQ κ g 0 0 _ = Q
  refine x_aload_n dX1_readSum_0 rfl ?_
  refine x_iload_n dX1_readSum_1 rfl ?_
  refine x_cVv (ws' := [(aR, .inr (1, [.ref aRt, .ref aRc, .int (nI n), .int (nI ((prodL (hB b n) 3 (a, false, cl)).2.2.length)), .int (nI ((prodL (hB b n) 3 (a, false, cl)).1)), .int (flB (prodL (hB b n) 3 (a, false, cl)).2.1 (prodL (hB b n) 3 (a, false, cl)).1)])), (aRt, .inl (g.2.1 1, 60, .inl (fun j => sgB (b j)))), (aRc, .inl (g.2.1 0, 60, .inl (coL ((prodL (hB b n) 3 (a, false, cl)).2.2) f0)))]) dX1_readSum_2 ml_X1_51 mX1_readProduct (ct_rp_3 κ.2.1 g aR aRt aRc n a b f0 cl (by omega) (hn) (hb) (by omega)) [0, 1, 2] rfl rfl 0 rfl rfl rfl (Nat.le_of_ble_eq_true rfl) (by decide) (Nat.le_refl _) (Nat.le_refl _) (rfl : [aR, aRt, aRc] = [aR, aRt, aRc]) rfl ?_
  have hk0 := prodL_ok (okH_hB b n) 3 (a, false, cl) ⟨ha, hl⟩
  refine x_iconst 0 dX1_readSum_5 (by decide) ?_
  refine x_istore_n (lv' := [some (.ref aR), some (.int 1), some (.int 0), none]) dX1_readSum_6 (xlt rfl) rfl ?_
  have L7_1 : ∀ (i : Nat), i ≤ 60 → ∀ (qa : Nat), ∀ (qb : Bool), ∀ (qc : List Int32), (qa, qb, qc) = itr (smS (hB b n) (prodL (hB b n) 3)) i (prodL (hB b n) 3 (a, false, cl)) → qa ≤ n → qc.length ≤ 60 → Xs κ g 21 0 0 cX1_readSum yX1_readSum none Q 0 0 7 [some (.ref aR), some (.int 1), some (.int (nI i)), none] [] [(aR, .inr (1, [.ref aRt, .ref aRc, .int (nI n), .int (nI qc.length), .int (nI qa), .int (flB qb qa)])), (aRt, .inl (g.2.1 1, 60, .inl (fun j => sgB (b j)))), (aRc, .inl (g.2.1 0, 60, .inl (coL qc f0)))] := by
    refine upTo 60 (fun i hi7 ih7 => ?_)
    intro qa
    intro qb
    intro qc
    intro hqq hqa hqc
    refine x_iload_n dX1_readSum_7 rfl ?_
    refine x_bipush 60 dX1_readSum_8 (by decide) ?_
    refine x_icmp_ge dX1_readSum_10 (fun c10 => ?_) (fun c10 => ?_)
    · have c10 : 60 ≤ (nI i) := c10
      have c10n := (nI_leI (a := 60) (b := i) (by omega) (by omega)).mp c10
      have hxc10 : i = 60 := by omega
      try rw [hxc10]
      try rw [hxc10] at hqq
      try rw [hxc10] at hqa
      try rw [hxc10] at hqc
      rw [← hQ]
      refine x_vret dX1_readSum_80 rfl (Nat.le_of_ble_eq_true rfl) (Nat.le_of_ble_eq_true rfl) ?_
      exact ⟨rfl, by first | (rw [show sumL_ (hB b n) 3 (a, false, cl) = (qa, qb, qc) from Eq.trans (congrFun (sumL_eq (hB b n) 3) (a, false, cl)) (hqq.symm)] <;> rfl) | (rw [show sumL_ (hB b n) 3 (a, false, cl) = (qa, true, qc) from Eq.trans (congrFun (sumL_eq (hB b n) 3) (a, false, cl)) (itr_fix hqq rfl (by omega))] <;> rfl) | (rw [show sumL_ (hB b n) 3 (a, false, cl) = (qa, false, qc) from Eq.trans (congrFun (sumL_eq (hB b n) 3) (a, false, cl)) (itr_fix hqq (by simp [smS, sees0 c26, sees0 c35]) (by omega))] <;> rfl)⟩
    · have c10 : ¬ (60 ≤ (nI i)) := c10
      have c10n := mt (nI_leI (a := 60) (b := i) (by omega) (by omega)).mpr c10
      cases qb
      · skip
        refine x_eq (lv' := [some (.ref aR), some (.int 1), some (.int (nI i)), none]) (st' := []) (ws' := [(aR, .inr (1, [.ref aRt, .ref aRc, .int (nI n), .int (nI qc.length), .int (nI qa), .int ((-1))])), (aRt, .inl (g.2.1 1, 60, .inl (fun j => sgB (b j)))), (aRc, .inl (g.2.1 0, 60, .inl (coL qc f0)))]) ?_ rfl rfl rfl
        refine x_aload_n dX1_readSum_13 rfl ?_
        refine x_get dX1_readSum_14 0 5 inX1 fl_X1_44 rfl rfl (by decide) rfl ?_
        refine x_if_ge dX1_readSum_17 (fun c17 => ?_) (fun c17 => ?_)
        · exact absurd c17 (by decide)
        refine x_aload_n dX1_readSum_20 rfl ?_
        refine x_bipush 43 dX1_readSum_21 (by decide) ?_
        refine x_cVi0 dX1_readSum_23 ml_X1_54 mX1_sees (ct_X1_sees κ.2.1 g aR aRt aRc n qa qc.length b (-1) 43 (by omega) (hn) (hb) (by decide)) [0, 1] rfl rfl 0 rfl rfl rfl (Nat.le_of_ble_eq_true rfl) (by decide) (Nat.le_refl _) (Nat.le_refl _) ?_
        refine x_if_ne dX1_readSum_26 (fun c26 => ?_) (fun c26 => ?_)
        · have c26 : ¬ ((seesI b n qa 43) = 0) := c26
          refine x_aload_n dX1_readSum_38 rfl ?_
          refine x_bipush 43 dX1_readSum_39 (by decide) ?_
          refine x_cVi0 dX1_readSum_41 ml_X1_54 mX1_sees (ct_X1_sees κ.2.1 g aR aRt aRc n qa qc.length b (-1) 43 (by omega) (hn) (hb) (by decide)) [0, 1] rfl rfl 0 rfl rfl rfl (Nat.le_of_ble_eq_true rfl) (by decide) (Nat.le_refl _) (Nat.le_refl _) ?_
          refine x_if_eq dX1_readSum_44 (fun c44 => ?_) (fun c44 => ?_)
          · have c44 : (seesI b n qa 43) = 0 := c44
            exact absurd c44 c26
          · have c44 : ¬ ((seesI b n qa 43) = 0) := c44
            refine x_iconst (-1) dX1_readSum_47 (by decide) ?_
            refine x_goto dX1_readSum_48 ?_
            refine x_istore_n (lv' := [some (.ref aR), some (.int 1), some (.int (nI i)), some (.int ((-1)))]) dX1_readSum_53 (xlt rfl) rfl ?_
            refine x_aload_n dX1_readSum_54 rfl ?_
            refine x_dup dX1_readSum_55 rfl ?_
            refine x_get dX1_readSum_56 0 4 inX1 fl_X1_41 rfl rfl (by decide) rfl ?_
            refine x_iconst 1 dX1_readSum_59 (by decide) ?_
            refine x_iadd dX1_readSum_60 ?_
            refine x_rei (nI (qa + 1)) (nI_addc qa 1 rfl) ?_
            refine x_put (ws' := [(aR, .inr (1, [.ref aRt, .ref aRc, .int (nI n), .int (nI qc.length), .int (nI (qa + 1)), .int ((-1))])), (aRt, .inl (g.2.1 1, 60, .inl (fun j => sgB (b j)))), (aRc, .inl (g.2.1 0, 60, .inl (coL qc f0)))]) dX1_readSum_61 0 4 inX1 tyX1_ok nmX1 fl_X1_41 rfl rfl (by decide) rfl (rfl) rfl (xlt rfl) rfl ?_
            refine x_aload_n dX1_readSum_64 rfl ?_
            have hav : qa + 1 ≤ n := by first | exact adv_le (okH_hB b n) (sees1 c26) (by decide) | exact adv_le (okH_hB b n) (sees1 c35) (by decide)
            refine x_iload_n dX1_readSum_65 rfl ?_
            refine x_cVv (ws' := [(aR, .inr (1, [.ref aRt, .ref aRc, .int (nI n), .int (nI ((prodL (hB b n) 3 ((qa + 1), false, qc)).2.2.length)), .int (nI ((prodL (hB b n) 3 ((qa + 1), false, qc)).1)), .int (flB (prodL (hB b n) 3 ((qa + 1), false, qc)).2.1 (prodL (hB b n) 3 ((qa + 1), false, qc)).1)])), (aRt, .inl (g.2.1 1, 60, .inl (fun j => sgB (b j)))), (aRc, .inl (g.2.1 0, 60, .inl (coL ((prodL (hB b n) 3 ((qa + 1), false, qc)).2.2) f0)))]) dX1_readSum_66 ml_X1_51 mX1_readProduct (ct_rp_3 κ.2.1 g aR aRt aRc n (qa + 1) b f0 qc (by omega) (hn) (hb) (by omega)) [0, 1, 2] rfl rfl 0 rfl rfl rfl (Nat.le_of_ble_eq_true rfl) (by decide) (Nat.le_refl _) (Nat.le_refl _) (rfl : [aR, aRt, aRc] = [aR, aRt, aRc]) rfl ?_
            have hk := prodL_ok (okH_hB b n) 3 (qa + 1, false, qc) ⟨hav, hqc⟩
            refine x_aload_n dX1_readSum_69 rfl ?_
            refine x_iload_n dX1_readSum_70 rfl ?_
            refine x_cVv (ws' := [(aR, .inr (1, [.ref aRt, .ref aRc, .int (nI n), .int (nI ((putL (-1) ((prodL (hB b n) 3 ((qa + 1), false, qc)).2.2)).length)), .int (nI ((prodL (hB b n) 3 ((qa + 1), false, qc)).1)), .int (flB (prodL (hB b n) 3 ((qa + 1), false, qc)).2.1 (prodL (hB b n) 3 ((qa + 1), false, qc)).1)])), (aRt, .inl (g.2.1 1, 60, .inl (fun j => sgB (b j)))), (aRc, .inl (g.2.1 0, 60, .inl (coL (putL (-1) ((prodL (hB b n) 3 ((qa + 1), false, qc)).2.2)) f0)))]) dX1_readSum_71 ml_X1_58 mX1_put (ct_X1_put κ.2.1 g aR aRt aRc n ((prodL (hB b n) 3 ((qa + 1), false, qc)).1) f0 ((prodL (hB b n) 3 ((qa + 1), false, qc)).2.2) (flB (prodL (hB b n) 3 ((qa + 1), false, qc)).2.1 (prodL (hB b n) 3 ((qa + 1), false, qc)).1) (-1) (hk.2)) [0, 2] rfl rfl 0 rfl rfl rfl (Nat.le_of_ble_eq_true rfl) (by decide) (Nat.le_refl _) (Nat.le_refl _) (rfl : [aR, aRc] = [aR, aRc]) rfl ?_
            refine x_iinc (lv' := [some (.ref aR), some (.int 1), some (.int (nI (i + 1))), some (.int ((-1)))]) (nI (i + 1)) dX1_readSum_74 rfl (nI_addc i 1 rfl) rfl ?_
            refine x_goto dX1_readSum_77 ?_
            refine x_fgt (lv' := [some (.ref aR), some (.int 1), some (.int (nI (i + 1))), none]) ⟨Or.inr rfl, Or.inr rfl, Or.inr rfl, Or.inl rfl, trivial⟩ ?_
            exact ih7 (by omega) ((prodL (hB b n) 3 ((qa + 1), false, qc)).1) ((prodL (hB b n) 3 ((qa + 1), false, qc)).2.1) (putL (-1) (prodL (hB b n) 3 ((qa + 1), false, qc)).2.2) (by rw [itr, ← hqq]; simp only [smS, sees1 c26]; rfl) (hk.1) (putL_le hk.2)
        · have c26 : (seesI b n qa 43) = 0 := c26
          refine x_aload_n dX1_readSum_29 rfl ?_
          refine x_bipush 45 dX1_readSum_30 (by decide) ?_
          refine x_cVi0 dX1_readSum_32 ml_X1_54 mX1_sees (ct_X1_sees κ.2.1 g aR aRt aRc n qa qc.length b (-1) 45 (by omega) (hn) (hb) (by decide)) [0, 1] rfl rfl 0 rfl rfl rfl (Nat.le_of_ble_eq_true rfl) (by decide) (Nat.le_refl _) (Nat.le_refl _) ?_
          refine x_if_eq dX1_readSum_35 (fun c35 => ?_) (fun c35 => ?_)
          · have c35 : (seesI b n qa 45) = 0 := c35
            rw [← hQ]
            refine x_vret dX1_readSum_80 rfl (Nat.le_of_ble_eq_true rfl) (Nat.le_of_ble_eq_true rfl) ?_
            exact ⟨rfl, by first | (rw [show sumL_ (hB b n) 3 (a, false, cl) = (qa, qb, qc) from Eq.trans (congrFun (sumL_eq (hB b n) 3) (a, false, cl)) (hqq.symm)] <;> rfl) | (rw [show sumL_ (hB b n) 3 (a, false, cl) = (qa, true, qc) from Eq.trans (congrFun (sumL_eq (hB b n) 3) (a, false, cl)) (itr_fix hqq rfl (by omega))] <;> rfl) | (rw [show sumL_ (hB b n) 3 (a, false, cl) = (qa, false, qc) from Eq.trans (congrFun (sumL_eq (hB b n) 3) (a, false, cl)) (itr_fix hqq (by simp [smS, sees0 c26, sees0 c35]) (by omega))] <;> rfl)⟩
          · have c35 : ¬ ((seesI b n qa 45) = 0) := c35
            refine x_aload_n dX1_readSum_38 rfl ?_
            refine x_bipush 43 dX1_readSum_39 (by decide) ?_
            refine x_cVi0 dX1_readSum_41 ml_X1_54 mX1_sees (ct_X1_sees κ.2.1 g aR aRt aRc n qa qc.length b (-1) 43 (by omega) (hn) (hb) (by decide)) [0, 1] rfl rfl 0 rfl rfl rfl (Nat.le_of_ble_eq_true rfl) (by decide) (Nat.le_refl _) (Nat.le_refl _) ?_
            refine x_if_eq dX1_readSum_44 (fun c44 => ?_) (fun c44 => ?_)
            · have c44 : (seesI b n qa 43) = 0 := c44
              refine x_bipush (-2) dX1_readSum_51 (by decide) ?_
              refine x_istore_n (lv' := [some (.ref aR), some (.int 1), some (.int (nI i)), some (.int ((-2)))]) dX1_readSum_53 (xlt rfl) rfl ?_
              refine x_aload_n dX1_readSum_54 rfl ?_
              refine x_dup dX1_readSum_55 rfl ?_
              refine x_get dX1_readSum_56 0 4 inX1 fl_X1_41 rfl rfl (by decide) rfl ?_
              refine x_iconst 1 dX1_readSum_59 (by decide) ?_
              refine x_iadd dX1_readSum_60 ?_
              refine x_rei (nI (qa + 1)) (nI_addc qa 1 rfl) ?_
              refine x_put (ws' := [(aR, .inr (1, [.ref aRt, .ref aRc, .int (nI n), .int (nI qc.length), .int (nI (qa + 1)), .int ((-1))])), (aRt, .inl (g.2.1 1, 60, .inl (fun j => sgB (b j)))), (aRc, .inl (g.2.1 0, 60, .inl (coL qc f0)))]) dX1_readSum_61 0 4 inX1 tyX1_ok nmX1 fl_X1_41 rfl rfl (by decide) rfl (rfl) rfl (xlt rfl) rfl ?_
              refine x_aload_n dX1_readSum_64 rfl ?_
              have hav : qa + 1 ≤ n := by first | exact adv_le (okH_hB b n) (sees1 c26) (by decide) | exact adv_le (okH_hB b n) (sees1 c35) (by decide)
              refine x_iload_n dX1_readSum_65 rfl ?_
              refine x_cVv (ws' := [(aR, .inr (1, [.ref aRt, .ref aRc, .int (nI n), .int (nI ((prodL (hB b n) 3 ((qa + 1), false, qc)).2.2.length)), .int (nI ((prodL (hB b n) 3 ((qa + 1), false, qc)).1)), .int (flB (prodL (hB b n) 3 ((qa + 1), false, qc)).2.1 (prodL (hB b n) 3 ((qa + 1), false, qc)).1)])), (aRt, .inl (g.2.1 1, 60, .inl (fun j => sgB (b j)))), (aRc, .inl (g.2.1 0, 60, .inl (coL ((prodL (hB b n) 3 ((qa + 1), false, qc)).2.2) f0)))]) dX1_readSum_66 ml_X1_51 mX1_readProduct (ct_rp_3 κ.2.1 g aR aRt aRc n (qa + 1) b f0 qc (by omega) (hn) (hb) (by omega)) [0, 1, 2] rfl rfl 0 rfl rfl rfl (Nat.le_of_ble_eq_true rfl) (by decide) (Nat.le_refl _) (Nat.le_refl _) (rfl : [aR, aRt, aRc] = [aR, aRt, aRc]) rfl ?_
              have hk := prodL_ok (okH_hB b n) 3 (qa + 1, false, qc) ⟨hav, hqc⟩
              refine x_aload_n dX1_readSum_69 rfl ?_
              refine x_iload_n dX1_readSum_70 rfl ?_
              refine x_cVv (ws' := [(aR, .inr (1, [.ref aRt, .ref aRc, .int (nI n), .int (nI ((putL (-2) ((prodL (hB b n) 3 ((qa + 1), false, qc)).2.2)).length)), .int (nI ((prodL (hB b n) 3 ((qa + 1), false, qc)).1)), .int (flB (prodL (hB b n) 3 ((qa + 1), false, qc)).2.1 (prodL (hB b n) 3 ((qa + 1), false, qc)).1)])), (aRt, .inl (g.2.1 1, 60, .inl (fun j => sgB (b j)))), (aRc, .inl (g.2.1 0, 60, .inl (coL (putL (-2) ((prodL (hB b n) 3 ((qa + 1), false, qc)).2.2)) f0)))]) dX1_readSum_71 ml_X1_58 mX1_put (ct_X1_put κ.2.1 g aR aRt aRc n ((prodL (hB b n) 3 ((qa + 1), false, qc)).1) f0 ((prodL (hB b n) 3 ((qa + 1), false, qc)).2.2) (flB (prodL (hB b n) 3 ((qa + 1), false, qc)).2.1 (prodL (hB b n) 3 ((qa + 1), false, qc)).1) (-2) (hk.2)) [0, 2] rfl rfl 0 rfl rfl rfl (Nat.le_of_ble_eq_true rfl) (by decide) (Nat.le_refl _) (Nat.le_refl _) (rfl : [aR, aRc] = [aR, aRc]) rfl ?_
              refine x_iinc (lv' := [some (.ref aR), some (.int 1), some (.int (nI (i + 1))), some (.int ((-2)))]) (nI (i + 1)) dX1_readSum_74 rfl (nI_addc i 1 rfl) rfl ?_
              refine x_goto dX1_readSum_77 ?_
              refine x_fgt (lv' := [some (.ref aR), some (.int 1), some (.int (nI (i + 1))), none]) ⟨Or.inr rfl, Or.inr rfl, Or.inr rfl, Or.inl rfl, trivial⟩ ?_
              exact ih7 (by omega) ((prodL (hB b n) 3 ((qa + 1), false, qc)).1) ((prodL (hB b n) 3 ((qa + 1), false, qc)).2.1) (putL (-2) (prodL (hB b n) 3 ((qa + 1), false, qc)).2.2) (by rw [itr, ← hqq]; simp only [smS, sees1 c35]; rfl) (hk.1) (putL_le hk.2)
            · have c44 : ¬ ((seesI b n qa 43) = 0) := c44
              exact absurd c26 c44
      · skip
        refine x_eq (lv' := [some (.ref aR), some (.int 1), some (.int (nI i)), none]) (st' := []) (ws' := [(aR, .inr (1, [.ref aRt, .ref aRc, .int (nI n), .int (nI qc.length), .int (nI qa), .int (nI qa)])), (aRt, .inl (g.2.1 1, 60, .inl (fun j => sgB (b j)))), (aRc, .inl (g.2.1 0, 60, .inl (coL qc f0)))]) ?_ rfl rfl rfl
        refine x_aload_n dX1_readSum_13 rfl ?_
        refine x_get dX1_readSum_14 0 5 inX1 fl_X1_44 rfl rfl (by decide) rfl ?_
        refine x_if_ge dX1_readSum_17 (fun c17 => ?_) (fun c17 => ?_)
        · have c17 : 0 ≤ (nI qa) := c17
          have c17n := (nI_leI (a := 0) (b := qa) (by omega) (by omega)).mp c17
          rw [← hQ]
          refine x_vret dX1_readSum_80 rfl (Nat.le_of_ble_eq_true rfl) (Nat.le_of_ble_eq_true rfl) ?_
          exact ⟨rfl, by first | (rw [show sumL_ (hB b n) 3 (a, false, cl) = (qa, qb, qc) from Eq.trans (congrFun (sumL_eq (hB b n) 3) (a, false, cl)) (hqq.symm)] <;> rfl) | (rw [show sumL_ (hB b n) 3 (a, false, cl) = (qa, true, qc) from Eq.trans (congrFun (sumL_eq (hB b n) 3) (a, false, cl)) (itr_fix hqq rfl (by omega))] <;> rfl) | (rw [show sumL_ (hB b n) 3 (a, false, cl) = (qa, false, qc) from Eq.trans (congrFun (sumL_eq (hB b n) 3) (a, false, cl)) (itr_fix hqq (by simp [smS, sees0 c26, sees0 c35]) (by omega))] <;> rfl)⟩
        · have c17 : ¬ (0 ≤ (nI qa)) := c17
          have c17n := mt (nI_leI (a := 0) (b := qa) (by omega) (by omega)).mpr c17
          exact absurd c17n (by omega)
  exact L7_1 0 (Nat.zero_le _) ((prodL (hB b n) 3 (a, false, cl)).1) ((prodL (hB b n) 3 (a, false, cl)).2.1) ((prodL (hB b n) 3 (a, false, cl)).2.2) (rfl) (hk0.1) (hk0.2)

-- == rb_3 ==
set_option maxRecDepth 100000 in
set_option maxHeartbeats 4000000 in
theorem ct_rb_3 (l : Launch) (g : XG) (aR aRt aRc n a : Nat) (b : Nat → Nat) (f0 : Nat → Int32) (cl : List Int32) (ha : a ≤ n) (hn : n ≤ 60) (hb : ∀ j, b j < 256) (hl : cl.length ≤ 60) : Ct l g 22 0 0 yX1_readBracket cX1_readBracket 2 none [.ref aR, .int 1] [(aR, .inr (1, [.ref aRt, .ref aRc, .int (nI n), .int (nI cl.length), .int (nI a), .int ((-1))])), (aRt, .inl (g.2.1 1, 60, .inl (fun j => sgB (b j)))), (aRc, .inl (g.2.1 0, 60, .inl (coL cl f0)))] (xpv [(aR, .inr (1, [.ref aRt, .ref aRc, .int (nI n), .int (nI ((brkL (hB b n) 3 (a, false, cl)).2.2.length)), .int (nI ((brkL (hB b n) 3 (a, false, cl)).1)), .int (flB (brkL (hB b n) 3 (a, false, cl)).2.1 (brkL (hB b n) 3 (a, false, cl)).1)])), (aRt, .inl (g.2.1 1, 60, .inl (fun j => sgB (b j)))), (aRc, .inl (g.2.1 0, 60, .inl (coL ((brkL (hB b n) 3 (a, false, cl)).2.2) f0)))]) := by
  refine Ct.ofX (lv := [some (.ref aR), some (.int 1)]) (by decide) rfl (Nat.le_of_ble_eq_true rfl) (fun κ => ?_)
  generalize hQ : xQ κ g 0 0 _ = Q
  refine x_aload_n dX1_readBracket_0 rfl ?_
  refine x_iload_n dX1_readBracket_1 rfl ?_
  refine x_cVv (ws' := [(aR, .inr (1, [.ref aRt, .ref aRc, .int (nI n), .int (nI ((sumL_ (hB b n) 3 (a, false, cl)).2.2.length)), .int (nI ((sumL_ (hB b n) 3 (a, false, cl)).1)), .int (flB (sumL_ (hB b n) 3 (a, false, cl)).2.1 (sumL_ (hB b n) 3 (a, false, cl)).1)])), (aRt, .inl (g.2.1 1, 60, .inl (fun j => sgB (b j)))), (aRc, .inl (g.2.1 0, 60, .inl (coL ((sumL_ (hB b n) 3 (a, false, cl)).2.2) f0)))]) dX1_readBracket_2 ml_X1_47 mX1_readSum (ct_rs_3 κ.2.1 g aR aRt aRc n a b f0 cl (by omega) (hn) (hb) (by omega)) [0, 1, 2] rfl rfl 0 rfl rfl rfl (Nat.le_of_ble_eq_true rfl) (by decide) (Nat.le_refl _) (Nat.le_refl _) (rfl : [aR, aRt, aRc] = [aR, aRt, aRc]) rfl ?_
  have hk1 := sumL_ok (okH_hB b n) 3 (a, false, cl) ⟨ha, hl⟩
  generalize hR1 : sumL_ (hB b n) 3 (a, false, cl) = R1 at hk1 ⊢
  obtain ⟨a1, b1, c1⟩ := R1
  dsimp only [okS] at hk1
  cases b1
  · skip
    refine x_eq (lv' := [some (.ref aR), some (.int 1)]) (st' := []) (ws' := [(aR, .inr (1, [.ref aRt, .ref aRc, .int (nI n), .int (nI c1.length), .int (nI a1), .int ((-1))])), (aRt, .inl (g.2.1 1, 60, .inl (fun j => sgB (b j)))), (aRc, .inl (g.2.1 0, 60, .inl (coL (c1) f0)))]) ?_ rfl rfl rfl
    refine x_aload_n dX1_readBracket_5 rfl ?_
    refine x_get dX1_readBracket_6 0 5 inX1 fl_X1_44 rfl rfl (by decide) rfl ?_
    refine x_if_ge dX1_readBracket_9 (fun c9 => ?_) (fun c9 => ?_)
    · exact absurd c9 (by decide)
    refine x_aload_n dX1_readBracket_12 rfl ?_
    refine x_bipush 63 dX1_readBracket_13 (by decide) ?_
    refine x_cVi0 dX1_readBracket_15 ml_X1_54 mX1_sees (ct_X1_sees κ.2.1 g aR aRt aRc n a1 c1.length b (-1) 63 (by omega) (hn) (hb) (by decide)) [0, 1] rfl rfl 0 rfl rfl rfl (Nat.le_of_ble_eq_true rfl) (by decide) (Nat.le_refl _) (Nat.le_refl _) ?_
    refine x_if_eq dX1_readBracket_18 (fun c18 => ?_) (fun c18 => ?_)
    · have c18 : (seesI b n a1 63) = 0 := c18
      refine x_aload_n dX1_readBracket_60 rfl ?_
      refine x_bipush 41 dX1_readBracket_61 (by decide) ?_
      refine x_cVv (ws' := [(aR, .inr (1, [.ref aRt, .ref aRc, .int (nI n), .int (nI c1.length), .int (nI ((pasA (hB b n) 41 false a1).1)), .int (flB (pasA (hB b n) 41 false a1).2 (pasA (hB b n) 41 false a1).1)])), (aRt, .inl (g.2.1 1, 60, .inl (fun j => sgB (b j)))), (aRc, .inl (g.2.1 0, 60, .inl (coL (c1) f0)))]) dX1_readBracket_63 ml_X1_77 mX1_pass (ct_X1_pass κ.2.1 g aR aRt aRc n a1 c1.length b 41 false (by omega) (hn) (hb) (by decide)) [0, 1] rfl rfl 0 rfl rfl rfl (Nat.le_of_ble_eq_true rfl) (by decide) (Nat.le_refl _) (Nat.le_refl _) (rfl : [aR, aRt] = [aR, aRt]) rfl ?_
      rw [← hQ]
      refine x_vret dX1_readBracket_66 rfl (Nat.le_of_ble_eq_true rfl) (Nat.le_of_ble_eq_true rfl) ?_
      exact ⟨rfl, by first | (rw [brkL, brkA hR1] <;> rfl) | (rw [brkL, brkB hR1 (sees0 c18)] <;> rfl) | (rw [brkL, brkC hR1 (sees1 c18) hR3] <;> rfl) | (rw [brkL, brkD hR1 (sees1 c18) hR3] <;> rfl)⟩
    · have c18 : ¬ ((seesI b n a1 63) = 0) := c18
      refine x_aload_n dX1_readBracket_21 rfl ?_
      refine x_dup dX1_readBracket_22 rfl ?_
      refine x_get dX1_readBracket_23 0 4 inX1 fl_X1_41 rfl rfl (by decide) rfl ?_
      refine x_iconst 1 dX1_readBracket_26 (by decide) ?_
      refine x_iadd dX1_readBracket_27 ?_
      refine x_rei (nI (a1 + 1)) (nI_addc a1 1 rfl) ?_
      refine x_put (ws' := [(aR, .inr (1, [.ref aRt, .ref aRc, .int (nI n), .int (nI c1.length), .int (nI (a1 + 1)), .int ((-1))])), (aRt, .inl (g.2.1 1, 60, .inl (fun j => sgB (b j)))), (aRc, .inl (g.2.1 0, 60, .inl (coL (c1) f0)))]) dX1_readBracket_28 0 4 inX1 tyX1_ok nmX1 fl_X1_41 rfl rfl (by decide) rfl (rfl) rfl (xlt rfl) rfl ?_
      refine x_aload_n dX1_readBracket_31 rfl ?_
      have hav := adv_le (okH_hB b n) (sees1 c18) (by decide)
      refine x_iload_n dX1_readBracket_32 rfl ?_
      refine x_cVv (ws' := [(aR, .inr (1, [.ref aRt, .ref aRc, .int (nI n), .int (nI ((sumL_ (hB b n) 3 ((a1 + 1), false, c1)).2.2.length)), .int (nI ((sumL_ (hB b n) 3 ((a1 + 1), false, c1)).1)), .int (flB (sumL_ (hB b n) 3 ((a1 + 1), false, c1)).2.1 (sumL_ (hB b n) 3 ((a1 + 1), false, c1)).1)])), (aRt, .inl (g.2.1 1, 60, .inl (fun j => sgB (b j)))), (aRc, .inl (g.2.1 0, 60, .inl (coL ((sumL_ (hB b n) 3 ((a1 + 1), false, c1)).2.2) f0)))]) dX1_readBracket_33 ml_X1_47 mX1_readSum (ct_rs_3 κ.2.1 g aR aRt aRc n (a1 + 1) b f0 c1 (by omega) (hn) (hb) (by omega)) [0, 1, 2] rfl rfl 0 rfl rfl rfl (Nat.le_of_ble_eq_true rfl) (by decide) (Nat.le_refl _) (Nat.le_refl _) (rfl : [aR, aRt, aRc] = [aR, aRt, aRc]) rfl ?_
      have hk2 := sumL_ok (okH_hB b n) 3 (a1 + 1, false, c1) ⟨hav, hk1.2⟩
      dsimp only [okS] at hk2
      refine x_aload_n dX1_readBracket_36 rfl ?_
      refine x_bipush 58 dX1_readBracket_37 (by decide) ?_
      refine x_cVv (ws' := [(aR, .inr (1, [.ref aRt, .ref aRc, .int (nI n), .int (nI ((sumL_ (hB b n) 3 ((a1 + 1), false, c1)).2.2.length)), .int (nI ((pasA (hB b n) 58 ((sumL_ (hB b n) 3 ((a1 + 1), false, c1)).2.1) ((sumL_ (hB b n) 3 ((a1 + 1), false, c1)).1)).1)), .int (flB (pasA (hB b n) 58 ((sumL_ (hB b n) 3 ((a1 + 1), false, c1)).2.1) ((sumL_ (hB b n) 3 ((a1 + 1), false, c1)).1)).2 (pasA (hB b n) 58 ((sumL_ (hB b n) 3 ((a1 + 1), false, c1)).2.1) ((sumL_ (hB b n) 3 ((a1 + 1), false, c1)).1)).1)])), (aRt, .inl (g.2.1 1, 60, .inl (fun j => sgB (b j)))), (aRc, .inl (g.2.1 0, 60, .inl (coL ((sumL_ (hB b n) 3 ((a1 + 1), false, c1)).2.2) f0)))]) dX1_readBracket_39 ml_X1_77 mX1_pass (ct_X1_pass κ.2.1 g aR aRt aRc n ((sumL_ (hB b n) 3 ((a1 + 1), false, c1)).1) ((sumL_ (hB b n) 3 ((a1 + 1), false, c1)).2.2.length) b 58 ((sumL_ (hB b n) 3 ((a1 + 1), false, c1)).2.1) (by omega) (hn) (hb) (by decide)) [0, 1] rfl rfl 0 rfl rfl rfl (Nat.le_of_ble_eq_true rfl) (by decide) (Nat.le_refl _) (Nat.le_refl _) (rfl : [aR, aRt] = [aR, aRt]) rfl ?_
      have hk3 := pasA_le (okH_hB b n) (c := 58) (by decide) (bd := (sumL_ (hB b n) 3 ((a1 + 1), false, c1)).2.1) hk2.1
      generalize hR3 : pasA (hB b n) 58 ((sumL_ (hB b n) 3 ((a1 + 1), false, c1)).2.1) ((sumL_ (hB b n) 3 ((a1 + 1), false, c1)).1) = R3 at hk3 ⊢
      obtain ⟨a3, b3⟩ := R3
      dsimp only at hk3
      cases b3
      · skip
        refine x_eq (lv' := [some (.ref aR), some (.int 1)]) (st' := []) (ws' := [(aR, .inr (1, [.ref aRt, .ref aRc, .int (nI n), .int (nI ((sumL_ (hB b n) 3 ((a1 + 1), false, c1)).2.2.length)), .int (nI a3), .int ((-1))])), (aRt, .inl (g.2.1 1, 60, .inl (fun j => sgB (b j)))), (aRc, .inl (g.2.1 0, 60, .inl (coL ((sumL_ (hB b n) 3 ((a1 + 1), false, c1)).2.2) f0)))]) ?_ rfl rfl rfl
        refine x_aload_n dX1_readBracket_42 rfl ?_
        refine x_get dX1_readBracket_43 0 5 inX1 fl_X1_44 rfl rfl (by decide) rfl ?_
        refine x_if_ge dX1_readBracket_46 (fun c46 => ?_) (fun c46 => ?_)
        · exact absurd c46 (by decide)
        refine x_aload_n dX1_readBracket_49 rfl ?_
        refine x_iload_n dX1_readBracket_50 rfl ?_
        refine x_cVv (ws' := [(aR, .inr (1, [.ref aRt, .ref aRc, .int (nI n), .int (nI ((sumL_ (hB b n) 3 (a3, false, ((sumL_ (hB b n) 3 ((a1 + 1), false, c1)).2.2))).2.2.length)), .int (nI ((sumL_ (hB b n) 3 (a3, false, ((sumL_ (hB b n) 3 ((a1 + 1), false, c1)).2.2))).1)), .int (flB (sumL_ (hB b n) 3 (a3, false, ((sumL_ (hB b n) 3 ((a1 + 1), false, c1)).2.2))).2.1 (sumL_ (hB b n) 3 (a3, false, ((sumL_ (hB b n) 3 ((a1 + 1), false, c1)).2.2))).1)])), (aRt, .inl (g.2.1 1, 60, .inl (fun j => sgB (b j)))), (aRc, .inl (g.2.1 0, 60, .inl (coL ((sumL_ (hB b n) 3 (a3, false, ((sumL_ (hB b n) 3 ((a1 + 1), false, c1)).2.2))).2.2) f0)))]) dX1_readBracket_51 ml_X1_47 mX1_readSum (ct_rs_3 κ.2.1 g aR aRt aRc n a3 b f0 ((sumL_ (hB b n) 3 ((a1 + 1), false, c1)).2.2) (by omega) (hn) (hb) (by omega)) [0, 1, 2] rfl rfl 0 rfl rfl rfl (Nat.le_of_ble_eq_true rfl) (by decide) (Nat.le_refl _) (Nat.le_refl _) (rfl : [aR, aRt, aRc] = [aR, aRt, aRc]) rfl ?_
        have hk4 := sumL_ok (okH_hB b n) 3 (a3, false, (sumL_ (hB b n) 3 ((a1 + 1), false, c1)).2.2) ⟨hk3, hk2.2⟩
        dsimp only [okS] at hk4
        refine x_aload_n dX1_readBracket_54 rfl ?_
        refine x_bipush (-4) dX1_readBracket_55 (by decide) ?_
        refine x_cVv (ws' := [(aR, .inr (1, [.ref aRt, .ref aRc, .int (nI n), .int (nI ((putL (-4) ((sumL_ (hB b n) 3 (a3, false, ((sumL_ (hB b n) 3 ((a1 + 1), false, c1)).2.2))).2.2)).length)), .int (nI ((sumL_ (hB b n) 3 (a3, false, ((sumL_ (hB b n) 3 ((a1 + 1), false, c1)).2.2))).1)), .int (flB (sumL_ (hB b n) 3 (a3, false, ((sumL_ (hB b n) 3 ((a1 + 1), false, c1)).2.2))).2.1 (sumL_ (hB b n) 3 (a3, false, ((sumL_ (hB b n) 3 ((a1 + 1), false, c1)).2.2))).1)])), (aRt, .inl (g.2.1 1, 60, .inl (fun j => sgB (b j)))), (aRc, .inl (g.2.1 0, 60, .inl (coL (putL (-4) ((sumL_ (hB b n) 3 (a3, false, ((sumL_ (hB b n) 3 ((a1 + 1), false, c1)).2.2))).2.2)) f0)))]) dX1_readBracket_57 ml_X1_58 mX1_put (ct_X1_put κ.2.1 g aR aRt aRc n ((sumL_ (hB b n) 3 (a3, false, ((sumL_ (hB b n) 3 ((a1 + 1), false, c1)).2.2))).1) f0 ((sumL_ (hB b n) 3 (a3, false, ((sumL_ (hB b n) 3 ((a1 + 1), false, c1)).2.2))).2.2) (flB (sumL_ (hB b n) 3 (a3, false, ((sumL_ (hB b n) 3 ((a1 + 1), false, c1)).2.2))).2.1 (sumL_ (hB b n) 3 (a3, false, ((sumL_ (hB b n) 3 ((a1 + 1), false, c1)).2.2))).1) (-4) (by first | exact hk4.2 | exact hk2.2)) [0, 2] rfl rfl 0 rfl rfl rfl (Nat.le_of_ble_eq_true rfl) (by decide) (Nat.le_refl _) (Nat.le_refl _) (rfl : [aR, aRc] = [aR, aRc]) rfl ?_
        refine x_aload_n dX1_readBracket_60 rfl ?_
        refine x_bipush 41 dX1_readBracket_61 (by decide) ?_
        refine x_cVv (ws' := [(aR, .inr (1, [.ref aRt, .ref aRc, .int (nI n), .int (nI ((putL (-4) ((sumL_ (hB b n) 3 (a3, false, ((sumL_ (hB b n) 3 ((a1 + 1), false, c1)).2.2))).2.2)).length)), .int (nI ((pasA (hB b n) 41 ((sumL_ (hB b n) 3 (a3, false, ((sumL_ (hB b n) 3 ((a1 + 1), false, c1)).2.2))).2.1) ((sumL_ (hB b n) 3 (a3, false, ((sumL_ (hB b n) 3 ((a1 + 1), false, c1)).2.2))).1)).1)), .int (flB (pasA (hB b n) 41 ((sumL_ (hB b n) 3 (a3, false, ((sumL_ (hB b n) 3 ((a1 + 1), false, c1)).2.2))).2.1) ((sumL_ (hB b n) 3 (a3, false, ((sumL_ (hB b n) 3 ((a1 + 1), false, c1)).2.2))).1)).2 (pasA (hB b n) 41 ((sumL_ (hB b n) 3 (a3, false, ((sumL_ (hB b n) 3 ((a1 + 1), false, c1)).2.2))).2.1) ((sumL_ (hB b n) 3 (a3, false, ((sumL_ (hB b n) 3 ((a1 + 1), false, c1)).2.2))).1)).1)])), (aRt, .inl (g.2.1 1, 60, .inl (fun j => sgB (b j)))), (aRc, .inl (g.2.1 0, 60, .inl (coL (putL (-4) ((sumL_ (hB b n) 3 (a3, false, ((sumL_ (hB b n) 3 ((a1 + 1), false, c1)).2.2))).2.2)) f0)))]) dX1_readBracket_63 ml_X1_77 mX1_pass (ct_X1_pass κ.2.1 g aR aRt aRc n ((sumL_ (hB b n) 3 (a3, false, ((sumL_ (hB b n) 3 ((a1 + 1), false, c1)).2.2))).1) ((putL (-4) ((sumL_ (hB b n) 3 (a3, false, ((sumL_ (hB b n) 3 ((a1 + 1), false, c1)).2.2))).2.2)).length) b 41 ((sumL_ (hB b n) 3 (a3, false, ((sumL_ (hB b n) 3 ((a1 + 1), false, c1)).2.2))).2.1) (by omega) (hn) (hb) (by decide)) [0, 1] rfl rfl 0 rfl rfl rfl (Nat.le_of_ble_eq_true rfl) (by decide) (Nat.le_refl _) (Nat.le_refl _) (rfl : [aR, aRt] = [aR, aRt]) rfl ?_
        rw [← hQ]
        refine x_vret dX1_readBracket_66 rfl (Nat.le_of_ble_eq_true rfl) (Nat.le_of_ble_eq_true rfl) ?_
        exact ⟨rfl, by first | (rw [brkL, brkA hR1] <;> rfl) | (rw [brkL, brkB hR1 (sees0 c18)] <;> rfl) | (rw [brkL, brkC hR1 (sees1 c18) hR3] <;> rfl) | (rw [brkL, brkD hR1 (sees1 c18) hR3] <;> rfl)⟩
      · skip
        refine x_eq (lv' := [some (.ref aR), some (.int 1)]) (st' := []) (ws' := [(aR, .inr (1, [.ref aRt, .ref aRc, .int (nI n), .int (nI ((sumL_ (hB b n) 3 ((a1 + 1), false, c1)).2.2.length)), .int (nI a3), .int (nI a3)])), (aRt, .inl (g.2.1 1, 60, .inl (fun j => sgB (b j)))), (aRc, .inl (g.2.1 0, 60, .inl (coL ((sumL_ (hB b n) 3 ((a1 + 1), false, c1)).2.2) f0)))]) ?_ rfl rfl rfl
        refine x_aload_n dX1_readBracket_42 rfl ?_
        refine x_get dX1_readBracket_43 0 5 inX1 fl_X1_44 rfl rfl (by decide) rfl ?_
        refine x_if_ge dX1_readBracket_46 (fun c46 => ?_) (fun c46 => ?_)
        · have c46 : 0 ≤ (nI a3) := c46
          have c46n := (nI_leI (a := 0) (b := a3) (by omega) (by omega)).mp c46
          skip
          refine x_aload_n dX1_readBracket_54 rfl ?_
          refine x_bipush (-4) dX1_readBracket_55 (by decide) ?_
          refine x_cVv (ws' := [(aR, .inr (1, [.ref aRt, .ref aRc, .int (nI n), .int (nI ((putL (-4) ((sumL_ (hB b n) 3 ((a1 + 1), false, c1)).2.2)).length)), .int (nI a3), .int (nI a3)])), (aRt, .inl (g.2.1 1, 60, .inl (fun j => sgB (b j)))), (aRc, .inl (g.2.1 0, 60, .inl (coL (putL (-4) ((sumL_ (hB b n) 3 ((a1 + 1), false, c1)).2.2)) f0)))]) dX1_readBracket_57 ml_X1_58 mX1_put (ct_X1_put κ.2.1 g aR aRt aRc n a3 f0 ((sumL_ (hB b n) 3 ((a1 + 1), false, c1)).2.2) (nI a3) (-4) (by first | exact hk4.2 | exact hk2.2)) [0, 2] rfl rfl 0 rfl rfl rfl (Nat.le_of_ble_eq_true rfl) (by decide) (Nat.le_refl _) (Nat.le_refl _) (rfl : [aR, aRc] = [aR, aRc]) rfl ?_
          refine x_aload_n dX1_readBracket_60 rfl ?_
          refine x_bipush 41 dX1_readBracket_61 (by decide) ?_
          refine x_cVv (ws' := [(aR, .inr (1, [.ref aRt, .ref aRc, .int (nI n), .int (nI ((putL (-4) ((sumL_ (hB b n) 3 ((a1 + 1), false, c1)).2.2)).length)), .int (nI ((pasA (hB b n) 41 true a3).1)), .int (flB (pasA (hB b n) 41 true a3).2 (pasA (hB b n) 41 true a3).1)])), (aRt, .inl (g.2.1 1, 60, .inl (fun j => sgB (b j)))), (aRc, .inl (g.2.1 0, 60, .inl (coL (putL (-4) ((sumL_ (hB b n) 3 ((a1 + 1), false, c1)).2.2)) f0)))]) dX1_readBracket_63 ml_X1_77 mX1_pass (ct_X1_pass κ.2.1 g aR aRt aRc n a3 ((putL (-4) ((sumL_ (hB b n) 3 ((a1 + 1), false, c1)).2.2)).length) b 41 true (by omega) (hn) (hb) (by decide)) [0, 1] rfl rfl 0 rfl rfl rfl (Nat.le_of_ble_eq_true rfl) (by decide) (Nat.le_refl _) (Nat.le_refl _) (rfl : [aR, aRt] = [aR, aRt]) rfl ?_
          rw [← hQ]
          refine x_vret dX1_readBracket_66 rfl (Nat.le_of_ble_eq_true rfl) (Nat.le_of_ble_eq_true rfl) ?_
          exact ⟨rfl, by first | (rw [brkL, brkA hR1] <;> rfl) | (rw [brkL, brkB hR1 (sees0 c18)] <;> rfl) | (rw [brkL, brkC hR1 (sees1 c18) hR3] <;> rfl) | (rw [brkL, brkD hR1 (sees1 c18) hR3] <;> rfl)⟩
        · have c46 : ¬ (0 ≤ (nI a3)) := c46
          have c46n := mt (nI_leI (a := 0) (b := a3) (by omega) (by omega)).mpr c46
          exact absurd c46n (by omega)
  · skip
    refine x_eq (lv' := [some (.ref aR), some (.int 1)]) (st' := []) (ws' := [(aR, .inr (1, [.ref aRt, .ref aRc, .int (nI n), .int (nI c1.length), .int (nI a1), .int (nI a1)])), (aRt, .inl (g.2.1 1, 60, .inl (fun j => sgB (b j)))), (aRc, .inl (g.2.1 0, 60, .inl (coL (c1) f0)))]) ?_ rfl rfl rfl
    refine x_aload_n dX1_readBracket_5 rfl ?_
    refine x_get dX1_readBracket_6 0 5 inX1 fl_X1_44 rfl rfl (by decide) rfl ?_
    refine x_if_ge dX1_readBracket_9 (fun c9 => ?_) (fun c9 => ?_)
    · have c9 : 0 ≤ (nI a1) := c9
      have c9n := (nI_leI (a := 0) (b := a1) (by omega) (by omega)).mp c9
      refine x_aload_n dX1_readBracket_60 rfl ?_
      refine x_bipush 41 dX1_readBracket_61 (by decide) ?_
      refine x_cVv (ws' := [(aR, .inr (1, [.ref aRt, .ref aRc, .int (nI n), .int (nI c1.length), .int (nI ((pasA (hB b n) 41 true a1).1)), .int (flB (pasA (hB b n) 41 true a1).2 (pasA (hB b n) 41 true a1).1)])), (aRt, .inl (g.2.1 1, 60, .inl (fun j => sgB (b j)))), (aRc, .inl (g.2.1 0, 60, .inl (coL (c1) f0)))]) dX1_readBracket_63 ml_X1_77 mX1_pass (ct_X1_pass κ.2.1 g aR aRt aRc n a1 c1.length b 41 true (by omega) (hn) (hb) (by decide)) [0, 1] rfl rfl 0 rfl rfl rfl (Nat.le_of_ble_eq_true rfl) (by decide) (Nat.le_refl _) (Nat.le_refl _) (rfl : [aR, aRt] = [aR, aRt]) rfl ?_
      rw [← hQ]
      refine x_vret dX1_readBracket_66 rfl (Nat.le_of_ble_eq_true rfl) (Nat.le_of_ble_eq_true rfl) ?_
      exact ⟨rfl, by first | (rw [brkL, brkA hR1] <;> rfl) | (rw [brkL, brkB hR1 (sees0 c18)] <;> rfl) | (rw [brkL, brkC hR1 (sees1 c18) hR3] <;> rfl) | (rw [brkL, brkD hR1 (sees1 c18) hR3] <;> rfl)⟩
    · have c9 : ¬ (0 ≤ (nI a1)) := c9
      have c9n := mt (nI_leI (a := 0) (b := a1) (by omega) (by omega)).mpr c9
      exact absurd c9n (by omega)

-- == rf_4 ==
set_option maxRecDepth 100000 in
set_option maxHeartbeats 4000000 in
theorem ct_rf_4 (l : Launch) (g : XG) (aR aRt aRc n a : Nat) (b : Nat → Nat) (f0 : Nat → Int32) (cl : List Int32) (ha : a ≤ n) (hn : n ≤ 60) (hb : ∀ j, b j < 256) (hl : cl.length ≤ 60) : Ct l g 23 0 0 yX1_readFactor cX1_readFactor 2 none [.ref aR, .int 0] [(aR, .inr (1, [.ref aRt, .ref aRc, .int (nI n), .int (nI cl.length), .int (nI a), .int ((-1))])), (aRt, .inl (g.2.1 1, 60, .inl (fun j => sgB (b j)))), (aRc, .inl (g.2.1 0, 60, .inl (coL cl f0)))] (xpv [(aR, .inr (1, [.ref aRt, .ref aRc, .int (nI n), .int (nI ((facL (hB b n) 4 (a, false, cl)).2.2.length)), .int (nI ((facL (hB b n) 4 (a, false, cl)).1)), .int (flB (facL (hB b n) 4 (a, false, cl)).2.1 (facL (hB b n) 4 (a, false, cl)).1)])), (aRt, .inl (g.2.1 1, 60, .inl (fun j => sgB (b j)))), (aRc, .inl (g.2.1 0, 60, .inl (coL ((facL (hB b n) 4 (a, false, cl)).2.2) f0)))]) := by
  refine Ct.ofX (lv := [some (.ref aR), some (.int 0)]) (by decide) rfl (Nat.le_of_ble_eq_true rfl) (fun κ => ?_)
  generalize hQ : xQ κ g 0 0 _ = Q
  refine x_aload_n dX1_readFactor_0 rfl ?_
  refine x_get dX1_readFactor_1 0 5 inX1 fl_X1_44 rfl rfl (by decide) rfl ?_
  refine x_if_lt dX1_readFactor_4 (fun c4 => ?_) (fun c4 => ?_)
  rotate_left
  · exact absurd c4 (by decide)
  refine x_aload_n dX1_readFactor_8 rfl ?_
  refine x_cVi0 dX1_readFactor_9 ml_X1_64 mX1_digit (ct_X1_digit κ.2.1 g aR aRt aRc n a cl.length b (-1) (by omega) (hn) (hb)) [0, 1] rfl rfl 0 rfl rfl rfl (Nat.le_of_ble_eq_true rfl) (by decide) (Nat.le_refl _) (Nat.le_refl _) ?_
  refine x_if_lt dX1_readFactor_12 (fun c12 => ?_) (fun c12 => ?_)
  · have c12 : (digI b n a) < 0 := c12
    refine x_aload_n dX1_readFactor_22 rfl ?_
    refine x_cVi0 dX1_readFactor_23 ml_X1_71 mX1_nameHere (ct_X1_nameHere κ.2.1 g aR aRt aRc n a cl.length b (-1) (by omega) (hn) (hb)) [0, 1] rfl rfl 0 rfl rfl rfl (Nat.le_of_ble_eq_true rfl) (by decide) (Nat.le_refl _) (Nat.le_refl _) ?_
    refine x_if_lt dX1_readFactor_26 (fun c26 => ?_) (fun c26 => ?_)
    · have c26 : (nmhI b n a) < 0 := c26
      refine x_aload_n dX1_readFactor_53 rfl ?_
      refine x_bipush 40 dX1_readFactor_54 (by decide) ?_
      refine x_cVi0 dX1_readFactor_56 ml_X1_54 mX1_sees (ct_X1_sees κ.2.1 g aR aRt aRc n a cl.length b (-1) 40 (by omega) (hn) (hb) (by decide)) [0, 1] rfl rfl 0 rfl rfl rfl (Nat.le_of_ble_eq_true rfl) (by decide) (Nat.le_refl _) (Nat.le_refl _) ?_
      refine x_if_eq dX1_readFactor_59 (fun c59 => ?_) (fun c59 => ?_)
      · have c59 : (seesI b n a 40) = 0 := c59
        refine x_aload_n dX1_readFactor_87 rfl ?_
        refine x_aload_n dX1_readFactor_88 rfl ?_
        refine x_get dX1_readFactor_89 0 4 inX1 fl_X1_41 rfl rfl (by decide) rfl ?_
        refine x_put (ws' := [(aR, .inr (1, [.ref aRt, .ref aRc, .int (nI n), .int (nI cl.length), .int (nI a), .int (nI a)])), (aRt, .inl (g.2.1 1, 60, .inl (fun j => sgB (b j)))), (aRc, .inl (g.2.1 0, 60, .inl (coL cl f0)))]) dX1_readFactor_92 0 5 inX1 tyX1_ok nmX1 fl_X1_44 rfl rfl (by decide) rfl (rfl) rfl (xlt rfl) rfl ?_
        rw [← hQ]
        refine x_vret dX1_readFactor_95 rfl (Nat.le_of_ble_eq_true rfl) (Nat.le_of_ble_eq_true rfl) ?_
        exact ⟨rfl, by first | (rw [facL, fac_num (dig1 c12)] <;> rfl) | (rw [facL, fac_nm (dig0 c12) (nmh1 c26)] <;> rfl) | (rw [facL, fac_br (dig0 c12) (nmh0 c26) (sees1 c59)] <;> rfl) | (rw [facL, fac_bad (dig0 c12) (nmh0 c26) (sees0 c59)] <;> rfl)⟩
      · have c59 : ¬ ((seesI b n a 40) = 0) := c59
        refine x_iload_n dX1_readFactor_62 rfl ?_
        refine x_iconst 4 dX1_readFactor_63 (by decide) ?_
        refine x_icmp_ge dX1_readFactor_64 (fun c64 => ?_) (fun c64 => ?_)
        · exact absurd c64 (by decide)
        refine x_aload_n dX1_readFactor_67 rfl ?_
        refine x_dup dX1_readFactor_68 rfl ?_
        refine x_get dX1_readFactor_69 0 4 inX1 fl_X1_41 rfl rfl (by decide) rfl ?_
        refine x_iconst 1 dX1_readFactor_72 (by decide) ?_
        refine x_iadd dX1_readFactor_73 ?_
        refine x_rei (nI (a + 1)) (nI_addc a 1 rfl) ?_
        refine x_put (ws' := [(aR, .inr (1, [.ref aRt, .ref aRc, .int (nI n), .int (nI cl.length), .int (nI (a + 1)), .int ((-1))])), (aRt, .inl (g.2.1 1, 60, .inl (fun j => sgB (b j)))), (aRc, .inl (g.2.1 0, 60, .inl (coL cl f0)))]) dX1_readFactor_74 0 4 inX1 tyX1_ok nmX1 fl_X1_41 rfl rfl (by decide) rfl (rfl) rfl (xlt rfl) rfl ?_
        refine x_aload_n dX1_readFactor_77 rfl ?_
        refine x_iload_n dX1_readFactor_78 rfl ?_
        refine x_iconst 1 dX1_readFactor_79 (by decide) ?_
        have hav := adv_le (okH_hB b n) (sees1 c59) (by decide)
        refine x_iadd dX1_readFactor_80 ?_
        refine x_rei 1 (by decide) ?_
        refine x_cVv (ws' := [(aR, .inr (1, [.ref aRt, .ref aRc, .int (nI n), .int (nI ((brkL (hB b n) 3 ((a + 1), false, cl)).2.2.length)), .int (nI ((brkL (hB b n) 3 ((a + 1), false, cl)).1)), .int (flB (brkL (hB b n) 3 ((a + 1), false, cl)).2.1 (brkL (hB b n) 3 ((a + 1), false, cl)).1)])), (aRt, .inl (g.2.1 1, 60, .inl (fun j => sgB (b j)))), (aRc, .inl (g.2.1 0, 60, .inl (coL ((brkL (hB b n) 3 ((a + 1), false, cl)).2.2) f0)))]) dX1_readFactor_81 ml_X1_74 mX1_readBracket (ct_rb_3 κ.2.1 g aR aRt aRc n (a + 1) b f0 cl (by omega) (hn) (hb) (by omega)) [0, 1, 2] rfl rfl 0 rfl rfl rfl (Nat.le_of_ble_eq_true rfl) (by decide) (Nat.le_refl _) (Nat.le_refl _) (rfl : [aR, aRt, aRc] = [aR, aRt, aRc]) rfl ?_
        refine x_goto dX1_readFactor_84 ?_
        rw [← hQ]
        refine x_vret dX1_readFactor_95 rfl (Nat.le_of_ble_eq_true rfl) (Nat.le_of_ble_eq_true rfl) ?_
        exact ⟨rfl, by first | (rw [facL, fac_num (dig1 c12)] <;> rfl) | (rw [facL, fac_nm (dig0 c12) (nmh1 c26)] <;> rfl) | (rw [facL, fac_br (dig0 c12) (nmh0 c26) (sees1 c59)] <;> rfl) | (rw [facL, fac_bad (dig0 c12) (nmh0 c26) (sees0 c59)] <;> rfl)⟩
    · have c26 : ¬ ((nmhI b n a) < 0) := c26
      refine x_aload_n dX1_readFactor_29 rfl ?_
      refine x_bipush (-10) dX1_readFactor_30 (by decide) ?_
      refine x_aload_n dX1_readFactor_32 rfl ?_
      refine x_cVi0 dX1_readFactor_33 ml_X1_71 mX1_nameHere (ct_X1_nameHere κ.2.1 g aR aRt aRc n a cl.length b (-1) (by omega) (hn) (hb)) [0, 1] rfl rfl 0 rfl rfl rfl (Nat.le_of_ble_eq_true rfl) (by decide) (Nat.le_refl _) (Nat.le_refl _) ?_
      refine x_rei (nI (nmIx (hB b n a))) (if_pos (nmh1 c26)) ?_
      refine x_isub dX1_readFactor_36 ?_
      refine x_cVv (ws' := [(aR, .inr (1, [.ref aRt, .ref aRc, .int (nI n), .int (nI ((putL ((-10) - (nI (nmIx (hB b n a)))) cl).length)), .int (nI a), .int (-1)])), (aRt, .inl (g.2.1 1, 60, .inl (fun j => sgB (b j)))), (aRc, .inl (g.2.1 0, 60, .inl (coL (putL ((-10) - (nI (nmIx (hB b n a)))) cl) f0)))]) dX1_readFactor_37 ml_X1_58 mX1_put (ct_X1_put κ.2.1 g aR aRt aRc n a f0 cl (-1) ((-10) - (nI (nmIx (hB b n a)))) (hl)) [0, 2] rfl rfl 0 rfl rfl rfl (Nat.le_of_ble_eq_true rfl) (by decide) (Nat.le_refl _) (Nat.le_refl _) (rfl : [aR, aRc] = [aR, aRc]) rfl ?_
      refine x_aload_n dX1_readFactor_40 rfl ?_
      refine x_dup dX1_readFactor_41 rfl ?_
      refine x_get dX1_readFactor_42 0 4 inX1 fl_X1_41 rfl rfl (by decide) rfl ?_
      refine x_iconst 1 dX1_readFactor_45 (by decide) ?_
      refine x_iadd dX1_readFactor_46 ?_
      refine x_rei (nI (a + 1)) (nI_addc a 1 rfl) ?_
      refine x_put (ws' := [(aR, .inr (1, [.ref aRt, .ref aRc, .int (nI n), .int (nI ((putL ((-10) - (nI (nmIx (hB b n a)))) cl).length)), .int (nI (a + 1)), .int (-1)])), (aRt, .inl (g.2.1 1, 60, .inl (fun j => sgB (b j)))), (aRc, .inl (g.2.1 0, 60, .inl (coL (putL ((-10) - (nI (nmIx (hB b n a)))) cl) f0)))]) dX1_readFactor_47 0 4 inX1 tyX1_ok nmX1 fl_X1_41 rfl rfl (by decide) rfl (rfl) rfl (xlt rfl) rfl ?_
      refine x_goto dX1_readFactor_50 ?_
      rw [← hQ]
      refine x_vret dX1_readFactor_95 rfl (Nat.le_of_ble_eq_true rfl) (Nat.le_of_ble_eq_true rfl) ?_
      exact ⟨rfl, by first | (rw [facL, fac_num (dig1 c12)] <;> rfl) | (rw [facL, fac_nm (dig0 c12) (nmh1 c26)] <;> rfl) | (rw [facL, fac_br (dig0 c12) (nmh0 c26) (sees1 c59)] <;> rfl) | (rw [facL, fac_bad (dig0 c12) (nmh0 c26) (sees0 c59)] <;> rfl)⟩
  · have c12 : ¬ ((digI b n a) < 0) := c12
    refine x_aload_n dX1_readFactor_15 rfl ?_
    refine x_cVv (ws' := [(aR, .inr (1, [.ref aRt, .ref aRc, .int (nI n), .int (nI ((putL (nI (numI (hB b n) a).2) cl).length)), .int (nI ((numI (hB b n) a).1)), .int (-1)])), (aRt, .inl (g.2.1 1, 60, .inl (fun j => sgB (b j)))), (aRc, .inl (g.2.1 0, 60, .inl (coL (putL (nI (numI (hB b n) a).2) cl) f0)))]) dX1_readFactor_16 ml_X1_68 mX1_readNumber (ct_X1_readNumber κ.2.1 g aR aRt aRc n a b f0 cl (by omega) (hn) (hb) (by omega)) [0, 1, 2] rfl rfl 0 rfl rfl rfl (Nat.le_of_ble_eq_true rfl) (by decide) (Nat.le_refl _) (Nat.le_refl _) (rfl : [aR, aRt, aRc] = [aR, aRt, aRc]) rfl ?_
    refine x_goto dX1_readFactor_19 ?_
    rw [← hQ]
    refine x_vret dX1_readFactor_95 rfl (Nat.le_of_ble_eq_true rfl) (Nat.le_of_ble_eq_true rfl) ?_
    exact ⟨rfl, by first | (rw [facL, fac_num (dig1 c12)] <;> rfl) | (rw [facL, fac_nm (dig0 c12) (nmh1 c26)] <;> rfl) | (rw [facL, fac_br (dig0 c12) (nmh0 c26) (sees1 c59)] <;> rfl) | (rw [facL, fac_bad (dig0 c12) (nmh0 c26) (sees0 c59)] <;> rfl)⟩

-- == rp_4 ==
set_option maxRecDepth 100000 in
set_option maxHeartbeats 4000000 in
theorem ct_rp_4 (l : Launch) (g : XG) (aR aRt aRc n a : Nat) (b : Nat → Nat) (f0 : Nat → Int32) (cl : List Int32) (ha : a ≤ n) (hn : n ≤ 60) (hb : ∀ j, b j < 256) (hl : cl.length ≤ 60) : Ct l g 24 0 0 yX1_readProduct cX1_readProduct 3 none [.ref aR, .int 0] [(aR, .inr (1, [.ref aRt, .ref aRc, .int (nI n), .int (nI cl.length), .int (nI a), .int ((-1))])), (aRt, .inl (g.2.1 1, 60, .inl (fun j => sgB (b j)))), (aRc, .inl (g.2.1 0, 60, .inl (coL cl f0)))] (xpv [(aR, .inr (1, [.ref aRt, .ref aRc, .int (nI n), .int (nI ((prodL (hB b n) 4 (a, false, cl)).2.2.length)), .int (nI ((prodL (hB b n) 4 (a, false, cl)).1)), .int (flB (prodL (hB b n) 4 (a, false, cl)).2.1 (prodL (hB b n) 4 (a, false, cl)).1)])), (aRt, .inl (g.2.1 1, 60, .inl (fun j => sgB (b j)))), (aRc, .inl (g.2.1 0, 60, .inl (coL ((prodL (hB b n) 4 (a, false, cl)).2.2) f0)))]) := by
  refine Ct.ofX (lv := [some (.ref aR), some (.int 0), none]) (by decide) rfl (Nat.le_of_ble_eq_true rfl) (fun κ => ?_)
  generalize hQ : xQ κ g 0 0 _ = Q
  refine x_aload_n dX1_readProduct_0 rfl ?_
  refine x_iload_n dX1_readProduct_1 rfl ?_
  refine x_cVv (ws' := [(aR, .inr (1, [.ref aRt, .ref aRc, .int (nI n), .int (nI ((facL (hB b n) 4 (a, false, cl)).2.2.length)), .int (nI ((facL (hB b n) 4 (a, false, cl)).1)), .int (flB (facL (hB b n) 4 (a, false, cl)).2.1 (facL (hB b n) 4 (a, false, cl)).1)])), (aRt, .inl (g.2.1 1, 60, .inl (fun j => sgB (b j)))), (aRc, .inl (g.2.1 0, 60, .inl (coL ((facL (hB b n) 4 (a, false, cl)).2.2) f0)))]) dX1_readProduct_2 ml_X1_61 mX1_readFactor (ct_rf_4 κ.2.1 g aR aRt aRc n a b f0 cl (by omega) (hn) (hb) (by omega)) [0, 1, 2] rfl rfl 0 rfl rfl rfl (Nat.le_of_ble_eq_true rfl) (by decide) (Nat.le_refl _) (Nat.le_refl _) (rfl : [aR, aRt, aRc] = [aR, aRt, aRc]) rfl ?_
  have hk0 := facL_ok (okH_hB b n) 4 (a, false, cl) ⟨ha, hl⟩
  refine x_iconst 0 dX1_readProduct_5 (by decide) ?_
  refine x_istore_n (lv' := [some (.ref aR), some (.int 0), some (.int 0)]) dX1_readProduct_6 (xlt rfl) rfl ?_
  have L7_1 : ∀ (i : Nat), i ≤ 60 → ∀ (qa : Nat), ∀ (qb : Bool), ∀ (qc : List Int32), (qa, qb, qc) = itr (prS (hB b n) (facL (hB b n) 4)) i (facL (hB b n) 4 (a, false, cl)) → qa ≤ n → qc.length ≤ 60 → Xs κ g 24 0 0 cX1_readProduct yX1_readProduct none Q 0 0 7 [some (.ref aR), some (.int 0), some (.int (nI i))] [] [(aR, .inr (1, [.ref aRt, .ref aRc, .int (nI n), .int (nI qc.length), .int (nI qa), .int (flB qb qa)])), (aRt, .inl (g.2.1 1, 60, .inl (fun j => sgB (b j)))), (aRc, .inl (g.2.1 0, 60, .inl (coL qc f0)))] := by
    refine upTo 60 (fun i hi7 ih7 => ?_)
    intro qa
    intro qb
    intro qc
    intro hqq hqa hqc
    refine x_iload_n dX1_readProduct_7 rfl ?_
    refine x_bipush 60 dX1_readProduct_8 (by decide) ?_
    refine x_icmp_ge dX1_readProduct_10 (fun c10 => ?_) (fun c10 => ?_)
    · have c10 : 60 ≤ (nI i) := c10
      have c10n := (nI_leI (a := 60) (b := i) (by omega) (by omega)).mp c10
      have hxc10 : i = 60 := by omega
      try rw [hxc10]
      try rw [hxc10] at hqq
      try rw [hxc10] at hqa
      try rw [hxc10] at hqc
      rw [← hQ]
      refine x_vret dX1_readProduct_56 rfl (Nat.le_of_ble_eq_true rfl) (Nat.le_of_ble_eq_true rfl) ?_
      exact ⟨rfl, by first | (rw [show prodL (hB b n) 4 (a, false, cl) = (qa, qb, qc) from Eq.trans (rfl) (hqq.symm)] <;> rfl) | (rw [show prodL (hB b n) 4 (a, false, cl) = (qa, true, qc) from Eq.trans (rfl) (itr_fix hqq rfl (by omega))] <;> rfl) | (rw [show prodL (hB b n) 4 (a, false, cl) = (qa, false, qc) from Eq.trans (rfl) (itr_fix hqq (by simp [prS, sees0 c26]) (by omega))] <;> rfl)⟩
    · have c10 : ¬ (60 ≤ (nI i)) := c10
      have c10n := mt (nI_leI (a := 60) (b := i) (by omega) (by omega)).mpr c10
      cases qb
      · skip
        refine x_eq (lv' := [some (.ref aR), some (.int 0), some (.int (nI i))]) (st' := []) (ws' := [(aR, .inr (1, [.ref aRt, .ref aRc, .int (nI n), .int (nI qc.length), .int (nI qa), .int ((-1))])), (aRt, .inl (g.2.1 1, 60, .inl (fun j => sgB (b j)))), (aRc, .inl (g.2.1 0, 60, .inl (coL qc f0)))]) ?_ rfl rfl rfl
        refine x_aload_n dX1_readProduct_13 rfl ?_
        refine x_get dX1_readProduct_14 0 5 inX1 fl_X1_44 rfl rfl (by decide) rfl ?_
        refine x_if_ge dX1_readProduct_17 (fun c17 => ?_) (fun c17 => ?_)
        · exact absurd c17 (by decide)
        refine x_aload_n dX1_readProduct_20 rfl ?_
        refine x_bipush 42 dX1_readProduct_21 (by decide) ?_
        refine x_cVi0 dX1_readProduct_23 ml_X1_54 mX1_sees (ct_X1_sees κ.2.1 g aR aRt aRc n qa qc.length b (-1) 42 (by omega) (hn) (hb) (by decide)) [0, 1] rfl rfl 0 rfl rfl rfl (Nat.le_of_ble_eq_true rfl) (by decide) (Nat.le_refl _) (Nat.le_refl _) ?_
        refine x_if_eq dX1_readProduct_26 (fun c26 => ?_) (fun c26 => ?_)
        · have c26 : (seesI b n qa 42) = 0 := c26
          rw [← hQ]
          refine x_vret dX1_readProduct_56 rfl (Nat.le_of_ble_eq_true rfl) (Nat.le_of_ble_eq_true rfl) ?_
          exact ⟨rfl, by first | (rw [show prodL (hB b n) 4 (a, false, cl) = (qa, qb, qc) from Eq.trans (rfl) (hqq.symm)] <;> rfl) | (rw [show prodL (hB b n) 4 (a, false, cl) = (qa, true, qc) from Eq.trans (rfl) (itr_fix hqq rfl (by omega))] <;> rfl) | (rw [show prodL (hB b n) 4 (a, false, cl) = (qa, false, qc) from Eq.trans (rfl) (itr_fix hqq (by simp [prS, sees0 c26]) (by omega))] <;> rfl)⟩
        · have c26 : ¬ ((seesI b n qa 42) = 0) := c26
          refine x_aload_n dX1_readProduct_29 rfl ?_
          refine x_dup dX1_readProduct_30 rfl ?_
          refine x_get dX1_readProduct_31 0 4 inX1 fl_X1_41 rfl rfl (by decide) rfl ?_
          refine x_iconst 1 dX1_readProduct_34 (by decide) ?_
          refine x_iadd dX1_readProduct_35 ?_
          refine x_rei (nI (qa + 1)) (nI_addc qa 1 rfl) ?_
          refine x_put (ws' := [(aR, .inr (1, [.ref aRt, .ref aRc, .int (nI n), .int (nI qc.length), .int (nI (qa + 1)), .int ((-1))])), (aRt, .inl (g.2.1 1, 60, .inl (fun j => sgB (b j)))), (aRc, .inl (g.2.1 0, 60, .inl (coL qc f0)))]) dX1_readProduct_36 0 4 inX1 tyX1_ok nmX1 fl_X1_41 rfl rfl (by decide) rfl (rfl) rfl (xlt rfl) rfl ?_
          refine x_aload_n dX1_readProduct_39 rfl ?_
          have hav := adv_le (okH_hB b n) (sees1 c26) (by decide)
          refine x_iload_n dX1_readProduct_40 rfl ?_
          refine x_cVv (ws' := [(aR, .inr (1, [.ref aRt, .ref aRc, .int (nI n), .int (nI ((facL (hB b n) 4 ((qa + 1), false, qc)).2.2.length)), .int (nI ((facL (hB b n) 4 ((qa + 1), false, qc)).1)), .int (flB (facL (hB b n) 4 ((qa + 1), false, qc)).2.1 (facL (hB b n) 4 ((qa + 1), false, qc)).1)])), (aRt, .inl (g.2.1 1, 60, .inl (fun j => sgB (b j)))), (aRc, .inl (g.2.1 0, 60, .inl (coL ((facL (hB b n) 4 ((qa + 1), false, qc)).2.2) f0)))]) dX1_readProduct_41 ml_X1_61 mX1_readFactor (ct_rf_4 κ.2.1 g aR aRt aRc n (qa + 1) b f0 qc (by omega) (hn) (hb) (by omega)) [0, 1, 2] rfl rfl 0 rfl rfl rfl (Nat.le_of_ble_eq_true rfl) (by decide) (Nat.le_refl _) (Nat.le_refl _) (rfl : [aR, aRt, aRc] = [aR, aRt, aRc]) rfl ?_
          have hk := facL_ok (okH_hB b n) 4 (qa + 1, false, qc) ⟨hav, hqc⟩
          refine x_aload_n dX1_readProduct_44 rfl ?_
          refine x_bipush (-3) dX1_readProduct_45 (by decide) ?_
          refine x_cVv (ws' := [(aR, .inr (1, [.ref aRt, .ref aRc, .int (nI n), .int (nI ((putL (-3) ((facL (hB b n) 4 ((qa + 1), false, qc)).2.2)).length)), .int (nI ((facL (hB b n) 4 ((qa + 1), false, qc)).1)), .int (flB (facL (hB b n) 4 ((qa + 1), false, qc)).2.1 (facL (hB b n) 4 ((qa + 1), false, qc)).1)])), (aRt, .inl (g.2.1 1, 60, .inl (fun j => sgB (b j)))), (aRc, .inl (g.2.1 0, 60, .inl (coL (putL (-3) ((facL (hB b n) 4 ((qa + 1), false, qc)).2.2)) f0)))]) dX1_readProduct_47 ml_X1_58 mX1_put (ct_X1_put κ.2.1 g aR aRt aRc n ((facL (hB b n) 4 ((qa + 1), false, qc)).1) f0 ((facL (hB b n) 4 ((qa + 1), false, qc)).2.2) (flB (facL (hB b n) 4 ((qa + 1), false, qc)).2.1 (facL (hB b n) 4 ((qa + 1), false, qc)).1) (-3) (hk.2)) [0, 2] rfl rfl 0 rfl rfl rfl (Nat.le_of_ble_eq_true rfl) (by decide) (Nat.le_refl _) (Nat.le_refl _) (rfl : [aR, aRc] = [aR, aRc]) rfl ?_
          refine x_iinc (lv' := [some (.ref aR), some (.int 0), some (.int (nI (i + 1)))]) (nI (i + 1)) dX1_readProduct_50 rfl (nI_addc i 1 rfl) rfl ?_
          refine x_goto dX1_readProduct_53 ?_
          exact ih7 (by omega) ((facL (hB b n) 4 ((qa + 1), false, qc)).1) ((facL (hB b n) 4 ((qa + 1), false, qc)).2.1) (putL (-3) (facL (hB b n) 4 ((qa + 1), false, qc)).2.2) (by rw [itr, ← hqq]; simp only [prS, sees1 c26]; rfl) (hk.1) (putL_le hk.2)
      · skip
        refine x_eq (lv' := [some (.ref aR), some (.int 0), some (.int (nI i))]) (st' := []) (ws' := [(aR, .inr (1, [.ref aRt, .ref aRc, .int (nI n), .int (nI qc.length), .int (nI qa), .int (nI qa)])), (aRt, .inl (g.2.1 1, 60, .inl (fun j => sgB (b j)))), (aRc, .inl (g.2.1 0, 60, .inl (coL qc f0)))]) ?_ rfl rfl rfl
        refine x_aload_n dX1_readProduct_13 rfl ?_
        refine x_get dX1_readProduct_14 0 5 inX1 fl_X1_44 rfl rfl (by decide) rfl ?_
        refine x_if_ge dX1_readProduct_17 (fun c17 => ?_) (fun c17 => ?_)
        · have c17 : 0 ≤ (nI qa) := c17
          have c17n := (nI_leI (a := 0) (b := qa) (by omega) (by omega)).mp c17
          rw [← hQ]
          refine x_vret dX1_readProduct_56 rfl (Nat.le_of_ble_eq_true rfl) (Nat.le_of_ble_eq_true rfl) ?_
          exact ⟨rfl, by first | (rw [show prodL (hB b n) 4 (a, false, cl) = (qa, qb, qc) from Eq.trans (rfl) (hqq.symm)] <;> rfl) | (rw [show prodL (hB b n) 4 (a, false, cl) = (qa, true, qc) from Eq.trans (rfl) (itr_fix hqq rfl (by omega))] <;> rfl) | (rw [show prodL (hB b n) 4 (a, false, cl) = (qa, false, qc) from Eq.trans (rfl) (itr_fix hqq (by simp [prS, sees0 c26]) (by omega))] <;> rfl)⟩
        · have c17 : ¬ (0 ≤ (nI qa)) := c17
          have c17n := mt (nI_leI (a := 0) (b := qa) (by omega) (by omega)).mpr c17
          exact absurd c17n (by omega)
  exact L7_1 0 (Nat.zero_le _) ((facL (hB b n) 4 (a, false, cl)).1) ((facL (hB b n) 4 (a, false, cl)).2.1) ((facL (hB b n) 4 (a, false, cl)).2.2) (rfl) (hk0.1) (hk0.2)

-- == rs_4 ==
set_option maxRecDepth 100000 in
set_option maxHeartbeats 4000000 in
theorem ct_rs_4 (l : Launch) (g : XG) (aR aRt aRc n a : Nat) (b : Nat → Nat) (f0 : Nat → Int32) (cl : List Int32) (ha : a ≤ n) (hn : n ≤ 60) (hb : ∀ j, b j < 256) (hl : cl.length ≤ 60) : Ct l g 25 0 0 yX1_readSum cX1_readSum 4 none [.ref aR, .int 0] [(aR, .inr (1, [.ref aRt, .ref aRc, .int (nI n), .int (nI cl.length), .int (nI a), .int ((-1))])), (aRt, .inl (g.2.1 1, 60, .inl (fun j => sgB (b j)))), (aRc, .inl (g.2.1 0, 60, .inl (coL cl f0)))] (xpv [(aR, .inr (1, [.ref aRt, .ref aRc, .int (nI n), .int (nI ((sumL_ (hB b n) 4 (a, false, cl)).2.2.length)), .int (nI ((sumL_ (hB b n) 4 (a, false, cl)).1)), .int (flB (sumL_ (hB b n) 4 (a, false, cl)).2.1 (sumL_ (hB b n) 4 (a, false, cl)).1)])), (aRt, .inl (g.2.1 1, 60, .inl (fun j => sgB (b j)))), (aRc, .inl (g.2.1 0, 60, .inl (coL ((sumL_ (hB b n) 4 (a, false, cl)).2.2) f0)))]) := by
  refine Ct.ofX (lv := [some (.ref aR), some (.int 0), none, none]) (by decide) rfl (Nat.le_of_ble_eq_true rfl) (fun κ => ?_)
  generalize hQ : xQ κ g 0 0 _ = Q
  refine x_aload_n dX1_readSum_0 rfl ?_
  refine x_iload_n dX1_readSum_1 rfl ?_
  refine x_cVv (ws' := [(aR, .inr (1, [.ref aRt, .ref aRc, .int (nI n), .int (nI ((prodL (hB b n) 4 (a, false, cl)).2.2.length)), .int (nI ((prodL (hB b n) 4 (a, false, cl)).1)), .int (flB (prodL (hB b n) 4 (a, false, cl)).2.1 (prodL (hB b n) 4 (a, false, cl)).1)])), (aRt, .inl (g.2.1 1, 60, .inl (fun j => sgB (b j)))), (aRc, .inl (g.2.1 0, 60, .inl (coL ((prodL (hB b n) 4 (a, false, cl)).2.2) f0)))]) dX1_readSum_2 ml_X1_51 mX1_readProduct (ct_rp_4 κ.2.1 g aR aRt aRc n a b f0 cl (by omega) (hn) (hb) (by omega)) [0, 1, 2] rfl rfl 0 rfl rfl rfl (Nat.le_of_ble_eq_true rfl) (by decide) (Nat.le_refl _) (Nat.le_refl _) (rfl : [aR, aRt, aRc] = [aR, aRt, aRc]) rfl ?_
  have hk0 := prodL_ok (okH_hB b n) 4 (a, false, cl) ⟨ha, hl⟩
  refine x_iconst 0 dX1_readSum_5 (by decide) ?_
  refine x_istore_n (lv' := [some (.ref aR), some (.int 0), some (.int 0), none]) dX1_readSum_6 (xlt rfl) rfl ?_
  have L7_1 : ∀ (i : Nat), i ≤ 60 → ∀ (qa : Nat), ∀ (qb : Bool), ∀ (qc : List Int32), (qa, qb, qc) = itr (smS (hB b n) (prodL (hB b n) 4)) i (prodL (hB b n) 4 (a, false, cl)) → qa ≤ n → qc.length ≤ 60 → Xs κ g 25 0 0 cX1_readSum yX1_readSum none Q 0 0 7 [some (.ref aR), some (.int 0), some (.int (nI i)), none] [] [(aR, .inr (1, [.ref aRt, .ref aRc, .int (nI n), .int (nI qc.length), .int (nI qa), .int (flB qb qa)])), (aRt, .inl (g.2.1 1, 60, .inl (fun j => sgB (b j)))), (aRc, .inl (g.2.1 0, 60, .inl (coL qc f0)))] := by
    refine upTo 60 (fun i hi7 ih7 => ?_)
    intro qa
    intro qb
    intro qc
    intro hqq hqa hqc
    refine x_iload_n dX1_readSum_7 rfl ?_
    refine x_bipush 60 dX1_readSum_8 (by decide) ?_
    refine x_icmp_ge dX1_readSum_10 (fun c10 => ?_) (fun c10 => ?_)
    · have c10 : 60 ≤ (nI i) := c10
      have c10n := (nI_leI (a := 60) (b := i) (by omega) (by omega)).mp c10
      have hxc10 : i = 60 := by omega
      try rw [hxc10]
      try rw [hxc10] at hqq
      try rw [hxc10] at hqa
      try rw [hxc10] at hqc
      rw [← hQ]
      refine x_vret dX1_readSum_80 rfl (Nat.le_of_ble_eq_true rfl) (Nat.le_of_ble_eq_true rfl) ?_
      exact ⟨rfl, by first | (rw [show sumL_ (hB b n) 4 (a, false, cl) = (qa, qb, qc) from Eq.trans (congrFun (sumL_eq (hB b n) 4) (a, false, cl)) (hqq.symm)] <;> rfl) | (rw [show sumL_ (hB b n) 4 (a, false, cl) = (qa, true, qc) from Eq.trans (congrFun (sumL_eq (hB b n) 4) (a, false, cl)) (itr_fix hqq rfl (by omega))] <;> rfl) | (rw [show sumL_ (hB b n) 4 (a, false, cl) = (qa, false, qc) from Eq.trans (congrFun (sumL_eq (hB b n) 4) (a, false, cl)) (itr_fix hqq (by simp [smS, sees0 c26, sees0 c35]) (by omega))] <;> rfl)⟩
    · have c10 : ¬ (60 ≤ (nI i)) := c10
      have c10n := mt (nI_leI (a := 60) (b := i) (by omega) (by omega)).mpr c10
      cases qb
      · skip
        refine x_eq (lv' := [some (.ref aR), some (.int 0), some (.int (nI i)), none]) (st' := []) (ws' := [(aR, .inr (1, [.ref aRt, .ref aRc, .int (nI n), .int (nI qc.length), .int (nI qa), .int ((-1))])), (aRt, .inl (g.2.1 1, 60, .inl (fun j => sgB (b j)))), (aRc, .inl (g.2.1 0, 60, .inl (coL qc f0)))]) ?_ rfl rfl rfl
        refine x_aload_n dX1_readSum_13 rfl ?_
        refine x_get dX1_readSum_14 0 5 inX1 fl_X1_44 rfl rfl (by decide) rfl ?_
        refine x_if_ge dX1_readSum_17 (fun c17 => ?_) (fun c17 => ?_)
        · exact absurd c17 (by decide)
        refine x_aload_n dX1_readSum_20 rfl ?_
        refine x_bipush 43 dX1_readSum_21 (by decide) ?_
        refine x_cVi0 dX1_readSum_23 ml_X1_54 mX1_sees (ct_X1_sees κ.2.1 g aR aRt aRc n qa qc.length b (-1) 43 (by omega) (hn) (hb) (by decide)) [0, 1] rfl rfl 0 rfl rfl rfl (Nat.le_of_ble_eq_true rfl) (by decide) (Nat.le_refl _) (Nat.le_refl _) ?_
        refine x_if_ne dX1_readSum_26 (fun c26 => ?_) (fun c26 => ?_)
        · have c26 : ¬ ((seesI b n qa 43) = 0) := c26
          refine x_aload_n dX1_readSum_38 rfl ?_
          refine x_bipush 43 dX1_readSum_39 (by decide) ?_
          refine x_cVi0 dX1_readSum_41 ml_X1_54 mX1_sees (ct_X1_sees κ.2.1 g aR aRt aRc n qa qc.length b (-1) 43 (by omega) (hn) (hb) (by decide)) [0, 1] rfl rfl 0 rfl rfl rfl (Nat.le_of_ble_eq_true rfl) (by decide) (Nat.le_refl _) (Nat.le_refl _) ?_
          refine x_if_eq dX1_readSum_44 (fun c44 => ?_) (fun c44 => ?_)
          · have c44 : (seesI b n qa 43) = 0 := c44
            exact absurd c44 c26
          · have c44 : ¬ ((seesI b n qa 43) = 0) := c44
            refine x_iconst (-1) dX1_readSum_47 (by decide) ?_
            refine x_goto dX1_readSum_48 ?_
            refine x_istore_n (lv' := [some (.ref aR), some (.int 0), some (.int (nI i)), some (.int ((-1)))]) dX1_readSum_53 (xlt rfl) rfl ?_
            refine x_aload_n dX1_readSum_54 rfl ?_
            refine x_dup dX1_readSum_55 rfl ?_
            refine x_get dX1_readSum_56 0 4 inX1 fl_X1_41 rfl rfl (by decide) rfl ?_
            refine x_iconst 1 dX1_readSum_59 (by decide) ?_
            refine x_iadd dX1_readSum_60 ?_
            refine x_rei (nI (qa + 1)) (nI_addc qa 1 rfl) ?_
            refine x_put (ws' := [(aR, .inr (1, [.ref aRt, .ref aRc, .int (nI n), .int (nI qc.length), .int (nI (qa + 1)), .int ((-1))])), (aRt, .inl (g.2.1 1, 60, .inl (fun j => sgB (b j)))), (aRc, .inl (g.2.1 0, 60, .inl (coL qc f0)))]) dX1_readSum_61 0 4 inX1 tyX1_ok nmX1 fl_X1_41 rfl rfl (by decide) rfl (rfl) rfl (xlt rfl) rfl ?_
            refine x_aload_n dX1_readSum_64 rfl ?_
            have hav : qa + 1 ≤ n := by first | exact adv_le (okH_hB b n) (sees1 c26) (by decide) | exact adv_le (okH_hB b n) (sees1 c35) (by decide)
            refine x_iload_n dX1_readSum_65 rfl ?_
            refine x_cVv (ws' := [(aR, .inr (1, [.ref aRt, .ref aRc, .int (nI n), .int (nI ((prodL (hB b n) 4 ((qa + 1), false, qc)).2.2.length)), .int (nI ((prodL (hB b n) 4 ((qa + 1), false, qc)).1)), .int (flB (prodL (hB b n) 4 ((qa + 1), false, qc)).2.1 (prodL (hB b n) 4 ((qa + 1), false, qc)).1)])), (aRt, .inl (g.2.1 1, 60, .inl (fun j => sgB (b j)))), (aRc, .inl (g.2.1 0, 60, .inl (coL ((prodL (hB b n) 4 ((qa + 1), false, qc)).2.2) f0)))]) dX1_readSum_66 ml_X1_51 mX1_readProduct (ct_rp_4 κ.2.1 g aR aRt aRc n (qa + 1) b f0 qc (by omega) (hn) (hb) (by omega)) [0, 1, 2] rfl rfl 0 rfl rfl rfl (Nat.le_of_ble_eq_true rfl) (by decide) (Nat.le_refl _) (Nat.le_refl _) (rfl : [aR, aRt, aRc] = [aR, aRt, aRc]) rfl ?_
            have hk := prodL_ok (okH_hB b n) 4 (qa + 1, false, qc) ⟨hav, hqc⟩
            refine x_aload_n dX1_readSum_69 rfl ?_
            refine x_iload_n dX1_readSum_70 rfl ?_
            refine x_cVv (ws' := [(aR, .inr (1, [.ref aRt, .ref aRc, .int (nI n), .int (nI ((putL (-1) ((prodL (hB b n) 4 ((qa + 1), false, qc)).2.2)).length)), .int (nI ((prodL (hB b n) 4 ((qa + 1), false, qc)).1)), .int (flB (prodL (hB b n) 4 ((qa + 1), false, qc)).2.1 (prodL (hB b n) 4 ((qa + 1), false, qc)).1)])), (aRt, .inl (g.2.1 1, 60, .inl (fun j => sgB (b j)))), (aRc, .inl (g.2.1 0, 60, .inl (coL (putL (-1) ((prodL (hB b n) 4 ((qa + 1), false, qc)).2.2)) f0)))]) dX1_readSum_71 ml_X1_58 mX1_put (ct_X1_put κ.2.1 g aR aRt aRc n ((prodL (hB b n) 4 ((qa + 1), false, qc)).1) f0 ((prodL (hB b n) 4 ((qa + 1), false, qc)).2.2) (flB (prodL (hB b n) 4 ((qa + 1), false, qc)).2.1 (prodL (hB b n) 4 ((qa + 1), false, qc)).1) (-1) (hk.2)) [0, 2] rfl rfl 0 rfl rfl rfl (Nat.le_of_ble_eq_true rfl) (by decide) (Nat.le_refl _) (Nat.le_refl _) (rfl : [aR, aRc] = [aR, aRc]) rfl ?_
            refine x_iinc (lv' := [some (.ref aR), some (.int 0), some (.int (nI (i + 1))), some (.int ((-1)))]) (nI (i + 1)) dX1_readSum_74 rfl (nI_addc i 1 rfl) rfl ?_
            refine x_goto dX1_readSum_77 ?_
            refine x_fgt (lv' := [some (.ref aR), some (.int 0), some (.int (nI (i + 1))), none]) ⟨Or.inr rfl, Or.inr rfl, Or.inr rfl, Or.inl rfl, trivial⟩ ?_
            exact ih7 (by omega) ((prodL (hB b n) 4 ((qa + 1), false, qc)).1) ((prodL (hB b n) 4 ((qa + 1), false, qc)).2.1) (putL (-1) (prodL (hB b n) 4 ((qa + 1), false, qc)).2.2) (by rw [itr, ← hqq]; simp only [smS, sees1 c26]; rfl) (hk.1) (putL_le hk.2)
        · have c26 : (seesI b n qa 43) = 0 := c26
          refine x_aload_n dX1_readSum_29 rfl ?_
          refine x_bipush 45 dX1_readSum_30 (by decide) ?_
          refine x_cVi0 dX1_readSum_32 ml_X1_54 mX1_sees (ct_X1_sees κ.2.1 g aR aRt aRc n qa qc.length b (-1) 45 (by omega) (hn) (hb) (by decide)) [0, 1] rfl rfl 0 rfl rfl rfl (Nat.le_of_ble_eq_true rfl) (by decide) (Nat.le_refl _) (Nat.le_refl _) ?_
          refine x_if_eq dX1_readSum_35 (fun c35 => ?_) (fun c35 => ?_)
          · have c35 : (seesI b n qa 45) = 0 := c35
            rw [← hQ]
            refine x_vret dX1_readSum_80 rfl (Nat.le_of_ble_eq_true rfl) (Nat.le_of_ble_eq_true rfl) ?_
            exact ⟨rfl, by first | (rw [show sumL_ (hB b n) 4 (a, false, cl) = (qa, qb, qc) from Eq.trans (congrFun (sumL_eq (hB b n) 4) (a, false, cl)) (hqq.symm)] <;> rfl) | (rw [show sumL_ (hB b n) 4 (a, false, cl) = (qa, true, qc) from Eq.trans (congrFun (sumL_eq (hB b n) 4) (a, false, cl)) (itr_fix hqq rfl (by omega))] <;> rfl) | (rw [show sumL_ (hB b n) 4 (a, false, cl) = (qa, false, qc) from Eq.trans (congrFun (sumL_eq (hB b n) 4) (a, false, cl)) (itr_fix hqq (by simp [smS, sees0 c26, sees0 c35]) (by omega))] <;> rfl)⟩
          · have c35 : ¬ ((seesI b n qa 45) = 0) := c35
            refine x_aload_n dX1_readSum_38 rfl ?_
            refine x_bipush 43 dX1_readSum_39 (by decide) ?_
            refine x_cVi0 dX1_readSum_41 ml_X1_54 mX1_sees (ct_X1_sees κ.2.1 g aR aRt aRc n qa qc.length b (-1) 43 (by omega) (hn) (hb) (by decide)) [0, 1] rfl rfl 0 rfl rfl rfl (Nat.le_of_ble_eq_true rfl) (by decide) (Nat.le_refl _) (Nat.le_refl _) ?_
            refine x_if_eq dX1_readSum_44 (fun c44 => ?_) (fun c44 => ?_)
            · have c44 : (seesI b n qa 43) = 0 := c44
              refine x_bipush (-2) dX1_readSum_51 (by decide) ?_
              refine x_istore_n (lv' := [some (.ref aR), some (.int 0), some (.int (nI i)), some (.int ((-2)))]) dX1_readSum_53 (xlt rfl) rfl ?_
              refine x_aload_n dX1_readSum_54 rfl ?_
              refine x_dup dX1_readSum_55 rfl ?_
              refine x_get dX1_readSum_56 0 4 inX1 fl_X1_41 rfl rfl (by decide) rfl ?_
              refine x_iconst 1 dX1_readSum_59 (by decide) ?_
              refine x_iadd dX1_readSum_60 ?_
              refine x_rei (nI (qa + 1)) (nI_addc qa 1 rfl) ?_
              refine x_put (ws' := [(aR, .inr (1, [.ref aRt, .ref aRc, .int (nI n), .int (nI qc.length), .int (nI (qa + 1)), .int ((-1))])), (aRt, .inl (g.2.1 1, 60, .inl (fun j => sgB (b j)))), (aRc, .inl (g.2.1 0, 60, .inl (coL qc f0)))]) dX1_readSum_61 0 4 inX1 tyX1_ok nmX1 fl_X1_41 rfl rfl (by decide) rfl (rfl) rfl (xlt rfl) rfl ?_
              refine x_aload_n dX1_readSum_64 rfl ?_
              have hav : qa + 1 ≤ n := by first | exact adv_le (okH_hB b n) (sees1 c26) (by decide) | exact adv_le (okH_hB b n) (sees1 c35) (by decide)
              refine x_iload_n dX1_readSum_65 rfl ?_
              refine x_cVv (ws' := [(aR, .inr (1, [.ref aRt, .ref aRc, .int (nI n), .int (nI ((prodL (hB b n) 4 ((qa + 1), false, qc)).2.2.length)), .int (nI ((prodL (hB b n) 4 ((qa + 1), false, qc)).1)), .int (flB (prodL (hB b n) 4 ((qa + 1), false, qc)).2.1 (prodL (hB b n) 4 ((qa + 1), false, qc)).1)])), (aRt, .inl (g.2.1 1, 60, .inl (fun j => sgB (b j)))), (aRc, .inl (g.2.1 0, 60, .inl (coL ((prodL (hB b n) 4 ((qa + 1), false, qc)).2.2) f0)))]) dX1_readSum_66 ml_X1_51 mX1_readProduct (ct_rp_4 κ.2.1 g aR aRt aRc n (qa + 1) b f0 qc (by omega) (hn) (hb) (by omega)) [0, 1, 2] rfl rfl 0 rfl rfl rfl (Nat.le_of_ble_eq_true rfl) (by decide) (Nat.le_refl _) (Nat.le_refl _) (rfl : [aR, aRt, aRc] = [aR, aRt, aRc]) rfl ?_
              have hk := prodL_ok (okH_hB b n) 4 (qa + 1, false, qc) ⟨hav, hqc⟩
              refine x_aload_n dX1_readSum_69 rfl ?_
              refine x_iload_n dX1_readSum_70 rfl ?_
              refine x_cVv (ws' := [(aR, .inr (1, [.ref aRt, .ref aRc, .int (nI n), .int (nI ((putL (-2) ((prodL (hB b n) 4 ((qa + 1), false, qc)).2.2)).length)), .int (nI ((prodL (hB b n) 4 ((qa + 1), false, qc)).1)), .int (flB (prodL (hB b n) 4 ((qa + 1), false, qc)).2.1 (prodL (hB b n) 4 ((qa + 1), false, qc)).1)])), (aRt, .inl (g.2.1 1, 60, .inl (fun j => sgB (b j)))), (aRc, .inl (g.2.1 0, 60, .inl (coL (putL (-2) ((prodL (hB b n) 4 ((qa + 1), false, qc)).2.2)) f0)))]) dX1_readSum_71 ml_X1_58 mX1_put (ct_X1_put κ.2.1 g aR aRt aRc n ((prodL (hB b n) 4 ((qa + 1), false, qc)).1) f0 ((prodL (hB b n) 4 ((qa + 1), false, qc)).2.2) (flB (prodL (hB b n) 4 ((qa + 1), false, qc)).2.1 (prodL (hB b n) 4 ((qa + 1), false, qc)).1) (-2) (hk.2)) [0, 2] rfl rfl 0 rfl rfl rfl (Nat.le_of_ble_eq_true rfl) (by decide) (Nat.le_refl _) (Nat.le_refl _) (rfl : [aR, aRc] = [aR, aRc]) rfl ?_
              refine x_iinc (lv' := [some (.ref aR), some (.int 0), some (.int (nI (i + 1))), some (.int ((-2)))]) (nI (i + 1)) dX1_readSum_74 rfl (nI_addc i 1 rfl) rfl ?_
              refine x_goto dX1_readSum_77 ?_
              refine x_fgt (lv' := [some (.ref aR), some (.int 0), some (.int (nI (i + 1))), none]) ⟨Or.inr rfl, Or.inr rfl, Or.inr rfl, Or.inl rfl, trivial⟩ ?_
              exact ih7 (by omega) ((prodL (hB b n) 4 ((qa + 1), false, qc)).1) ((prodL (hB b n) 4 ((qa + 1), false, qc)).2.1) (putL (-2) (prodL (hB b n) 4 ((qa + 1), false, qc)).2.2) (by rw [itr, ← hqq]; simp only [smS, sees1 c35]; rfl) (hk.1) (putL_le hk.2)
            · have c44 : ¬ ((seesI b n qa 43) = 0) := c44
              exact absurd c26 c44
      · skip
        refine x_eq (lv' := [some (.ref aR), some (.int 0), some (.int (nI i)), none]) (st' := []) (ws' := [(aR, .inr (1, [.ref aRt, .ref aRc, .int (nI n), .int (nI qc.length), .int (nI qa), .int (nI qa)])), (aRt, .inl (g.2.1 1, 60, .inl (fun j => sgB (b j)))), (aRc, .inl (g.2.1 0, 60, .inl (coL qc f0)))]) ?_ rfl rfl rfl
        refine x_aload_n dX1_readSum_13 rfl ?_
        refine x_get dX1_readSum_14 0 5 inX1 fl_X1_44 rfl rfl (by decide) rfl ?_
        refine x_if_ge dX1_readSum_17 (fun c17 => ?_) (fun c17 => ?_)
        · have c17 : 0 ≤ (nI qa) := c17
          have c17n := (nI_leI (a := 0) (b := qa) (by omega) (by omega)).mp c17
          rw [← hQ]
          refine x_vret dX1_readSum_80 rfl (Nat.le_of_ble_eq_true rfl) (Nat.le_of_ble_eq_true rfl) ?_
          exact ⟨rfl, by first | (rw [show sumL_ (hB b n) 4 (a, false, cl) = (qa, qb, qc) from Eq.trans (congrFun (sumL_eq (hB b n) 4) (a, false, cl)) (hqq.symm)] <;> rfl) | (rw [show sumL_ (hB b n) 4 (a, false, cl) = (qa, true, qc) from Eq.trans (congrFun (sumL_eq (hB b n) 4) (a, false, cl)) (itr_fix hqq rfl (by omega))] <;> rfl) | (rw [show sumL_ (hB b n) 4 (a, false, cl) = (qa, false, qc) from Eq.trans (congrFun (sumL_eq (hB b n) 4) (a, false, cl)) (itr_fix hqq (by simp [smS, sees0 c26, sees0 c35]) (by omega))] <;> rfl)⟩
        · have c17 : ¬ (0 ≤ (nI qa)) := c17
          have c17n := mt (nI_leI (a := 0) (b := qa) (by omega) (by omega)).mpr c17
          exact absurd c17n (by omega)
  exact L7_1 0 (Nat.zero_le _) ((prodL (hB b n) 4 (a, false, cl)).1) ((prodL (hB b n) 4 (a, false, cl)).2.1) ((prodL (hB b n) 4 (a, false, cl)).2.2) (rfl) (hk0.1) (hk0.2)

