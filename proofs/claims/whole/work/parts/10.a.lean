def wI (v a b : Int32) : Int32 := if v < a then 0 else (if b < v then 0 else 1)
theorem wI_nar (v a b : Int32) : narrow .boolean (.int (wI v a b)) = .int (wI v a b) := by unfold wI; split <;> (try split) <;> rfl

-- == X8_within ==
theorem dX8_within_0 : xd cX8_within 0 (.iload_n 0) 1 1 := ⟨by decide +kernel, rfl⟩
theorem dX8_within_1 : xd cX8_within 1 (.iload_n 1) 1 2 := ⟨by decide +kernel, rfl⟩
theorem dX8_within_2 : xj cX8_within 2 (.if_icmp .lt) 5 14 := ⟨12, by decide +kernel, rfl, by decide⟩
theorem dX8_within_5 : xd cX8_within 5 (.iload_n 0) 1 6 := ⟨by decide +kernel, rfl⟩
theorem dX8_within_6 : xd cX8_within 6 (.iload_n 2) 1 7 := ⟨by decide +kernel, rfl⟩
theorem dX8_within_7 : xj cX8_within 7 (.if_icmp .gt) 10 14 := ⟨7, by decide +kernel, rfl, by decide⟩
theorem dX8_within_10 : xd cX8_within 10 (.iconst 1) 1 11 := ⟨by decide +kernel, rfl⟩
theorem dX8_within_11 : xj cX8_within 11 .goto 14 15 := ⟨4, by decide +kernel, rfl, by decide⟩
theorem dX8_within_14 : xd cX8_within 14 (.iconst 0) 1 15 := ⟨by decide +kernel, rfl⟩
theorem dX8_within_15 : xd cX8_within 15 .ireturn 1 16 := ⟨by decide +kernel, rfl⟩

set_option maxRecDepth 100000 in
set_option maxHeartbeats 4000000 in
theorem ct_X8_within (l : Launch) (g : XG) (v least most : Int32) : Ct l g 1 0 0 yX8_within cX8_within 3 (some .boolean) [.int v, .int least, .int most] [] (xpi (wI v least most) []) := by
  refine Ct.ofX (lv := [some (.int v), some (.int least), some (.int most)]) (by decide) rfl (Nat.le_of_ble_eq_true rfl) (fun κ => ?_)
  generalize hQ : xQ κ g 0 0 _ = Q
  refine x_iload_n dX8_within_0 rfl ?_
  refine x_iload_n dX8_within_1 rfl ?_
  have J2_4 : ∀ (v3 : Int32), v3 = (if v < least then 0 else ((if most < v then 0 else 1))) → Xs κ g 1 0 0 cX8_within yX8_within (some .boolean) Q 0 0 15 [some (.int v), some (.int least), some (.int most)] [.int v3] [] := by
    intro v3 ev3
    rw [← hQ]
    refine x_zret dX8_within_15 rfl (by simp only [ev3]; exact wI_nar v least most) (Nat.le_of_ble_eq_true rfl) (Nat.le_of_ble_eq_true rfl) ?_
    exact ⟨by simp only [ev3]; rfl, rfl⟩
  refine x_icmp_lt dX8_within_2 (fun c2 => ?_) (fun c2 => ?_)
  · have c2 : v < least := c2
    refine x_iconst 0 dX8_within_14 (by decide) ?_
    exact J2_4 _ (if_pos c2).symm
  · have c2 : ¬ (v < least) := c2
    refine x_iload_n dX8_within_5 rfl ?_
    refine x_iload_n dX8_within_6 rfl ?_
    have J7_6 : ∀ (v5 : Int32), v5 = (if most < v then 0 else 1) → Xs κ g 1 0 0 cX8_within yX8_within (some .boolean) Q 0 0 15 [some (.int v), some (.int least), some (.int most)] [.int v5] [] := by
      intro v5 ev5
      exact J2_4 _ (by rw [if_neg c2]; try simp only [ev5])
    refine x_icmp_gt dX8_within_7 (fun c7 => ?_) (fun c7 => ?_)
    · have c7 : most < v := c7
      refine x_iconst 0 dX8_within_14 (by decide) ?_
      exact J7_6 _ (if_pos c7).symm
    · have c7 : ¬ (most < v) := c7
      refine x_iconst 1 dX8_within_10 (by decide) ?_
      refine x_goto dX8_within_11 ?_
      exact J7_6 _ (if_neg c7).symm

-- == X8_isPlace ==
theorem dX8_isPlace_0 : xd cX8_isPlace 0 (.iload_n 0) 1 1 := ⟨by decide +kernel, rfl⟩
theorem dX8_isPlace_1 : xd cX8_isPlace 1 (.iconst 0) 1 2 := ⟨by decide +kernel, rfl⟩
theorem dX8_isPlace_2 : xd cX8_isPlace 2 (.sipush 494) 3 5 := ⟨by decide +kernel, rfl⟩
theorem dX8_isPlace_5 : xd cX8_isPlace 5 (.invokestatic 89) 3 8 := ⟨by decide +kernel, rfl⟩
theorem dX8_isPlace_8 : xd cX8_isPlace 8 .ireturn 1 9 := ⟨by decide +kernel, rfl⟩

set_option maxRecDepth 100000 in
set_option maxHeartbeats 4000000 in
theorem ct_X8_isPlace (l : Launch) (g : XG) (v : Int32) : Ct l g 2 0 0 yX8_isPlace cX8_isPlace 1 (some .boolean) [.int v] [] (xpi (wI v 0 494) []) := by
  refine Ct.ofX (lv := [some (.int v)]) (by decide) rfl (Nat.le_of_ble_eq_true rfl) (fun κ => ?_)
  generalize hQ : xQ κ g 0 0 _ = Q
  refine x_iload_n dX8_isPlace_0 rfl ?_
  refine x_iconst 0 dX8_isPlace_1 (by decide) ?_
  refine x_sipush 494 dX8_isPlace_2 (by decide) ?_
  refine x_cSi dX8_isPlace_5 ml_X8_89 mX8_within (ct_X8_within κ.2.1 g v 0 494) rfl (Nat.le_of_ble_eq_true rfl) (by decide) (Nat.le_refl _) (Nat.le_refl _) ?_
  rw [← hQ]
  refine x_zret dX8_isPlace_8 rfl (wI_nar _ _ _) (Nat.le_of_ble_eq_true rfl) (Nat.le_of_ble_eq_true rfl) ?_
  exact ⟨rfl, rfl⟩

-- == X8_isNumber ==
theorem dX8_isNumber_0 : xd cX8_isNumber 0 (.iload_n 0) 1 1 := ⟨by decide +kernel, rfl⟩
theorem dX8_isNumber_1 : xd cX8_isNumber 1 (.iconst 0) 1 2 := ⟨by decide +kernel, rfl⟩
theorem dX8_isNumber_2 : xd cX8_isNumber 2 (.bipush 11) 2 4 := ⟨by decide +kernel, rfl⟩
theorem dX8_isNumber_4 : xd cX8_isNumber 4 (.invokestatic 89) 3 7 := ⟨by decide +kernel, rfl⟩
theorem dX8_isNumber_7 : xd cX8_isNumber 7 .ireturn 1 8 := ⟨by decide +kernel, rfl⟩

set_option maxRecDepth 100000 in
set_option maxHeartbeats 4000000 in
theorem ct_X8_isNumber (l : Launch) (g : XG) (v : Int32) : Ct l g 2 0 0 yX8_isNumber cX8_isNumber 1 (some .boolean) [.int v] [] (xpi (wI v 0 11) []) := by
  refine Ct.ofX (lv := [some (.int v)]) (by decide) rfl (Nat.le_of_ble_eq_true rfl) (fun κ => ?_)
  generalize hQ : xQ κ g 0 0 _ = Q
  refine x_iload_n dX8_isNumber_0 rfl ?_
  refine x_iconst 0 dX8_isNumber_1 (by decide) ?_
  refine x_bipush 11 dX8_isNumber_2 (by decide) ?_
  refine x_cSi dX8_isNumber_4 ml_X8_89 mX8_within (ct_X8_within κ.2.1 g v 0 11) rfl (Nat.le_of_ble_eq_true rfl) (by decide) (Nat.le_refl _) (Nat.le_refl _) ?_
  rw [← hQ]
  refine x_zret dX8_isNumber_7 rfl (wI_nar _ _ _) (Nat.le_of_ble_eq_true rfl) (Nat.le_of_ble_eq_true rfl) ?_
  exact ⟨rfl, rfl⟩

-- == X8_isSheet ==
theorem dX8_isSheet_0 : xd cX8_isSheet 0 (.iload_n 0) 1 1 := ⟨by decide +kernel, rfl⟩
theorem dX8_isSheet_1 : xd cX8_isSheet 1 (.iconst 0) 1 2 := ⟨by decide +kernel, rfl⟩
theorem dX8_isSheet_2 : xd cX8_isSheet 2 (.iconst 3) 1 3 := ⟨by decide +kernel, rfl⟩
theorem dX8_isSheet_3 : xd cX8_isSheet 3 (.invokestatic 89) 3 6 := ⟨by decide +kernel, rfl⟩
theorem dX8_isSheet_6 : xd cX8_isSheet 6 .ireturn 1 7 := ⟨by decide +kernel, rfl⟩

set_option maxRecDepth 100000 in
set_option maxHeartbeats 4000000 in
theorem ct_X8_isSheet (l : Launch) (g : XG) (v : Int32) : Ct l g 2 0 0 yX8_isSheet cX8_isSheet 1 (some .boolean) [.int v] [] (xpi (wI v 0 3) []) := by
  refine Ct.ofX (lv := [some (.int v)]) (by decide) rfl (Nat.le_of_ble_eq_true rfl) (fun κ => ?_)
  generalize hQ : xQ κ g 0 0 _ = Q
  refine x_iload_n dX8_isSheet_0 rfl ?_
  refine x_iconst 0 dX8_isSheet_1 (by decide) ?_
  refine x_iconst 3 dX8_isSheet_2 (by decide) ?_
  refine x_cSi dX8_isSheet_3 ml_X8_89 mX8_within (ct_X8_within κ.2.1 g v 0 3) rfl (Nat.le_of_ble_eq_true rfl) (by decide) (Nat.le_refl _) (Nat.le_refl _) ?_
  rw [← hQ]
  refine x_zret dX8_isSheet_6 rfl (wI_nar _ _ _) (Nat.le_of_ble_eq_true rfl) (Nat.le_of_ble_eq_true rfl) ?_
  exact ⟨rfl, rfl⟩

