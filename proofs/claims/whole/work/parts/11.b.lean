theorem wI_nat {n a b : Nat} (h : a ≤ n ∧ n ≤ b ∧ n < 2 ^ 31 ∧ b < 2 ^ 31) : wI (nI n) (nI a) (nI b) = 1 := by
  unfold wI
  rw [if_neg (nI_nlt h.1 h.2.2.1), if_neg (nI_nlt h.2.1 h.2.2.2)]
def bfI (wk : Nat) : Int32 := if wk < 40 then 0 else 1
def hasL (cs : Nat) : Int32 := if cs = 0 then 0 else 1
theorem hasL_nar (cs : Nat) : narrow .boolean (.int (hasL cs)) = .int (hasL cs) := by unfold hasL; split <;> rfl
def latI (ce : Nat → Int32) (wk : Nat) : Int32 := if wk = 0 then 0 else ce ((wk - 1) * 8 + 0)
theorem fstEq {p : Nat → Bool} {i : Nat} : ∀ {n : Nat}, i < n → (∀ k, k < i → p k = false) → p i = true → fa_first p n = i
  | 0, h, _, _ => absurd h (Nat.not_lt_zero _)
  | n + 1, h, h1, h2 => by
    rw [fa_first]
    by_cases hi : i < n
    · rw [fstEq hi h1 h2, if_pos hi]
    · have e : i = n := by omega
      subst e
      have hle := fa_first_le p i
      by_cases hlt : fa_first p i < i
      · have := fa_first_yes p i hlt
        rw [h1 _ hlt] at this; cases this
      · rw [if_neg hlt, if_pos h2]
theorem fstNone {p : Nat → Bool} : ∀ {n : Nat}, (∀ k, k < n → p k = false) → fa_first p n = n
  | 0, _ => rfl
  | n + 1, h => by
    have h1 := fstNone (p := p) (n := n) (fun k hk => h k (by omega))
    rw [fa_first, h1, if_neg (Nat.lt_irrefl n), h n (by omega)]
    simp
theorem z01 {v : Int32} (h : v = 0 ∨ v = 1) : narrow .boolean (.int v) = .int v := by rcases h with rfl | rfl <;> rfl
theorem bit01 (r n : Nat) : nI (bitN r n) = 0 ∨ nI (bitN r n) = 1 := by
  have := bitN_lt r n
  rcases (by omega : bitN r n = 0 ∨ bitN r n = 1) with h | h <;> rw [h]
  · exact Or.inl rfl
  · exact Or.inr rfl
theorem bit_if (r n : Nat) : (if nI (bitN r n) = 1 then (1 : Int32) else 0) = nI (bitN r n) := by
  have := bitN_lt r n
  rcases (by omega : bitN r n = 0 ∨ bitN r n = 1) with h | h <;> rw [h] <;> rfl
theorem bit_if0 (r n : Nat) : (if nI (bitN r n) = 0 then (0 : Int32) else 1) = nI (bitN r n) := by
  have := bitN_lt r n
  rcases (by omega : bitN r n = 0 ∨ bitN r n = 1) with h | h <;> rw [h] <;> rfl

-- == J6_bitCount_0f7a4 ==
theorem dJ6_bitCount_0f7a4_0 : xd cJ6_bitCount_0f7a4 0 (.iload_n 0) 1 1 := ⟨by decide +kernel, rfl⟩
theorem dJ6_bitCount_0f7a4_1 : xd cJ6_bitCount_0f7a4 1 (.iload_n 0) 1 2 := ⟨by decide +kernel, rfl⟩
theorem dJ6_bitCount_0f7a4_2 : xd cJ6_bitCount_0f7a4 2 (.iconst 1) 1 3 := ⟨by decide +kernel, rfl⟩
theorem dJ6_bitCount_0f7a4_3 : xd cJ6_bitCount_0f7a4 3 .iushr 1 4 := ⟨by decide +kernel, rfl⟩
theorem dJ6_bitCount_0f7a4_4 : xd cJ6_bitCount_0f7a4 4 (.ldc_w 265) 3 7 := ⟨by decide +kernel, rfl⟩
theorem dJ6_bitCount_0f7a4_7 : xd cJ6_bitCount_0f7a4 7 .iand 1 8 := ⟨by decide +kernel, rfl⟩
theorem dJ6_bitCount_0f7a4_8 : xd cJ6_bitCount_0f7a4 8 .isub 1 9 := ⟨by decide +kernel, rfl⟩
theorem dJ6_bitCount_0f7a4_9 : xd cJ6_bitCount_0f7a4 9 (.istore_n 0) 1 10 := ⟨by decide +kernel, rfl⟩
theorem dJ6_bitCount_0f7a4_10 : xd cJ6_bitCount_0f7a4 10 (.iload_n 0) 1 11 := ⟨by decide +kernel, rfl⟩
theorem dJ6_bitCount_0f7a4_11 : xd cJ6_bitCount_0f7a4 11 (.ldc_w 266) 3 14 := ⟨by decide +kernel, rfl⟩
theorem dJ6_bitCount_0f7a4_14 : xd cJ6_bitCount_0f7a4 14 .iand 1 15 := ⟨by decide +kernel, rfl⟩
theorem dJ6_bitCount_0f7a4_15 : xd cJ6_bitCount_0f7a4 15 (.iload_n 0) 1 16 := ⟨by decide +kernel, rfl⟩
theorem dJ6_bitCount_0f7a4_16 : xd cJ6_bitCount_0f7a4 16 (.iconst 2) 1 17 := ⟨by decide +kernel, rfl⟩
theorem dJ6_bitCount_0f7a4_17 : xd cJ6_bitCount_0f7a4 17 .iushr 1 18 := ⟨by decide +kernel, rfl⟩
theorem dJ6_bitCount_0f7a4_18 : xd cJ6_bitCount_0f7a4 18 (.ldc_w 266) 3 21 := ⟨by decide +kernel, rfl⟩
theorem dJ6_bitCount_0f7a4_21 : xd cJ6_bitCount_0f7a4 21 .iand 1 22 := ⟨by decide +kernel, rfl⟩
theorem dJ6_bitCount_0f7a4_22 : xd cJ6_bitCount_0f7a4 22 .iadd 1 23 := ⟨by decide +kernel, rfl⟩
theorem dJ6_bitCount_0f7a4_23 : xd cJ6_bitCount_0f7a4 23 (.istore_n 0) 1 24 := ⟨by decide +kernel, rfl⟩
theorem dJ6_bitCount_0f7a4_24 : xd cJ6_bitCount_0f7a4 24 (.iload_n 0) 1 25 := ⟨by decide +kernel, rfl⟩
theorem dJ6_bitCount_0f7a4_25 : xd cJ6_bitCount_0f7a4 25 (.iload_n 0) 1 26 := ⟨by decide +kernel, rfl⟩
theorem dJ6_bitCount_0f7a4_26 : xd cJ6_bitCount_0f7a4 26 (.iconst 4) 1 27 := ⟨by decide +kernel, rfl⟩
theorem dJ6_bitCount_0f7a4_27 : xd cJ6_bitCount_0f7a4 27 .iushr 1 28 := ⟨by decide +kernel, rfl⟩
theorem dJ6_bitCount_0f7a4_28 : xd cJ6_bitCount_0f7a4 28 .iadd 1 29 := ⟨by decide +kernel, rfl⟩
theorem dJ6_bitCount_0f7a4_29 : xd cJ6_bitCount_0f7a4 29 (.ldc_w 267) 3 32 := ⟨by decide +kernel, rfl⟩
theorem dJ6_bitCount_0f7a4_32 : xd cJ6_bitCount_0f7a4 32 .iand 1 33 := ⟨by decide +kernel, rfl⟩
theorem dJ6_bitCount_0f7a4_33 : xd cJ6_bitCount_0f7a4 33 (.istore_n 0) 1 34 := ⟨by decide +kernel, rfl⟩
theorem dJ6_bitCount_0f7a4_34 : xd cJ6_bitCount_0f7a4 34 (.iload_n 0) 1 35 := ⟨by decide +kernel, rfl⟩
theorem dJ6_bitCount_0f7a4_35 : xd cJ6_bitCount_0f7a4 35 (.iload_n 0) 1 36 := ⟨by decide +kernel, rfl⟩
theorem dJ6_bitCount_0f7a4_36 : xd cJ6_bitCount_0f7a4 36 (.bipush 8) 2 38 := ⟨by decide +kernel, rfl⟩
theorem dJ6_bitCount_0f7a4_38 : xd cJ6_bitCount_0f7a4 38 .iushr 1 39 := ⟨by decide +kernel, rfl⟩
theorem dJ6_bitCount_0f7a4_39 : xd cJ6_bitCount_0f7a4 39 .iadd 1 40 := ⟨by decide +kernel, rfl⟩
theorem dJ6_bitCount_0f7a4_40 : xd cJ6_bitCount_0f7a4 40 (.istore_n 0) 1 41 := ⟨by decide +kernel, rfl⟩
theorem dJ6_bitCount_0f7a4_41 : xd cJ6_bitCount_0f7a4 41 (.iload_n 0) 1 42 := ⟨by decide +kernel, rfl⟩
theorem dJ6_bitCount_0f7a4_42 : xd cJ6_bitCount_0f7a4 42 (.iload_n 0) 1 43 := ⟨by decide +kernel, rfl⟩
theorem dJ6_bitCount_0f7a4_43 : xd cJ6_bitCount_0f7a4 43 (.bipush 16) 2 45 := ⟨by decide +kernel, rfl⟩
theorem dJ6_bitCount_0f7a4_45 : xd cJ6_bitCount_0f7a4 45 .iushr 1 46 := ⟨by decide +kernel, rfl⟩
theorem dJ6_bitCount_0f7a4_46 : xd cJ6_bitCount_0f7a4 46 .iadd 1 47 := ⟨by decide +kernel, rfl⟩
theorem dJ6_bitCount_0f7a4_47 : xd cJ6_bitCount_0f7a4 47 (.istore_n 0) 1 48 := ⟨by decide +kernel, rfl⟩
theorem dJ6_bitCount_0f7a4_48 : xd cJ6_bitCount_0f7a4 48 (.iload_n 0) 1 49 := ⟨by decide +kernel, rfl⟩
theorem dJ6_bitCount_0f7a4_49 : xd cJ6_bitCount_0f7a4 49 (.bipush 63) 2 51 := ⟨by decide +kernel, rfl⟩
theorem dJ6_bitCount_0f7a4_51 : xd cJ6_bitCount_0f7a4 51 .iand 1 52 := ⟨by decide +kernel, rfl⟩
theorem dJ6_bitCount_0f7a4_52 : xd cJ6_bitCount_0f7a4 52 .ireturn 1 53 := ⟨by decide +kernel, rfl⟩

set_option maxRecDepth 100000 in
set_option maxHeartbeats 4000000 in
theorem ct_J6_bitCount_0f7a4 (l : Launch) (g : XG) (x : Int32) : Ct l g 1 0 0 yJ6_bitCount_0f7a4 cJ6_bitCount_0f7a4 1 (some .int) [.int x] [] (xpi (bcI x) []) := by
  refine Ct.ofX (lv := [some (.int x)]) (by decide) rfl (Nat.le_of_ble_eq_true rfl) (fun κ => ?_)
  generalize hQ : xQ κ g 0 0 _ = Q
  refine x_iload_n dJ6_bitCount_0f7a4_0 rfl ?_
  refine x_iload_n dJ6_bitCount_0f7a4_1 rfl ?_
  refine x_iconst 1 dJ6_bitCount_0f7a4_2 (by decide) ?_
  refine x_iushr dJ6_bitCount_0f7a4_3 ?_
  refine x_ldcw dJ6_bitCount_0f7a4_4 k_J6_265 ?_
  refine x_iand dJ6_bitCount_0f7a4_7 ?_
  refine x_isub dJ6_bitCount_0f7a4_8 ?_
  refine x_nmi (fun v1 ev1 => ?_)
  refine x_istore_n (lv' := [some (.int v1)]) dJ6_bitCount_0f7a4_9 (xlt rfl) rfl ?_
  refine x_iload_n dJ6_bitCount_0f7a4_10 rfl ?_
  refine x_ldcw dJ6_bitCount_0f7a4_11 k_J6_266 ?_
  refine x_iand dJ6_bitCount_0f7a4_14 ?_
  refine x_iload_n dJ6_bitCount_0f7a4_15 rfl ?_
  refine x_iconst 2 dJ6_bitCount_0f7a4_16 (by decide) ?_
  refine x_iushr dJ6_bitCount_0f7a4_17 ?_
  refine x_ldcw dJ6_bitCount_0f7a4_18 k_J6_266 ?_
  refine x_iand dJ6_bitCount_0f7a4_21 ?_
  refine x_iadd dJ6_bitCount_0f7a4_22 ?_
  refine x_nmi (fun v2 ev2 => ?_)
  refine x_istore_n (lv' := [some (.int v2)]) dJ6_bitCount_0f7a4_23 (xlt rfl) rfl ?_
  refine x_iload_n dJ6_bitCount_0f7a4_24 rfl ?_
  refine x_iload_n dJ6_bitCount_0f7a4_25 rfl ?_
  refine x_iconst 4 dJ6_bitCount_0f7a4_26 (by decide) ?_
  refine x_iushr dJ6_bitCount_0f7a4_27 ?_
  refine x_iadd dJ6_bitCount_0f7a4_28 ?_
  refine x_ldcw dJ6_bitCount_0f7a4_29 k_J6_267 ?_
  refine x_iand dJ6_bitCount_0f7a4_32 ?_
  refine x_nmi (fun v3 ev3 => ?_)
  refine x_istore_n (lv' := [some (.int v3)]) dJ6_bitCount_0f7a4_33 (xlt rfl) rfl ?_
  refine x_iload_n dJ6_bitCount_0f7a4_34 rfl ?_
  refine x_iload_n dJ6_bitCount_0f7a4_35 rfl ?_
  refine x_bipush 8 dJ6_bitCount_0f7a4_36 (by decide) ?_
  refine x_iushr dJ6_bitCount_0f7a4_38 ?_
  refine x_iadd dJ6_bitCount_0f7a4_39 ?_
  refine x_nmi (fun v4 ev4 => ?_)
  refine x_istore_n (lv' := [some (.int v4)]) dJ6_bitCount_0f7a4_40 (xlt rfl) rfl ?_
  refine x_iload_n dJ6_bitCount_0f7a4_41 rfl ?_
  refine x_iload_n dJ6_bitCount_0f7a4_42 rfl ?_
  refine x_bipush 16 dJ6_bitCount_0f7a4_43 (by decide) ?_
  refine x_iushr dJ6_bitCount_0f7a4_45 ?_
  refine x_iadd dJ6_bitCount_0f7a4_46 ?_
  refine x_nmi (fun v5 ev5 => ?_)
  refine x_istore_n (lv' := [some (.int v5)]) dJ6_bitCount_0f7a4_47 (xlt rfl) rfl ?_
  refine x_iload_n dJ6_bitCount_0f7a4_48 rfl ?_
  refine x_bipush 63 dJ6_bitCount_0f7a4_49 (by decide) ?_
  refine x_iand dJ6_bitCount_0f7a4_51 ?_
  rw [← hQ]
  refine x_iret dJ6_bitCount_0f7a4_52 rfl (Nat.le_of_ble_eq_true rfl) (Nat.le_of_ble_eq_true rfl) ?_
  exact ⟨by simp only [ev5, ev4, ev3, ev2, ev1]; rfl, rfl⟩

-- == bitCount_n ==
theorem ct_bitCount_n (l : Launch) (g : XG) (n : Nat) (hn : n < 4096) : Ct l g 1 0 0 yJ6_bitCount_0f7a4 cJ6_bitCount_0f7a4 1 (some .int) [.int (nI n)] [] (xpi (nI (popN n)) []) := by
  have h := ct_J6_bitCount_0f7a4 l g (nI n)
  rw [bc_pop hn] at h
  exact h

-- == J7_fill_53178 ==
theorem dJ7_fill_53178_0 : xd cJ7_fill_53178 0 (.iconst 0) 1 1 := ⟨by decide +kernel, rfl⟩
theorem dJ7_fill_53178_1 : xd cJ7_fill_53178 1 (.istore_n 2) 1 2 := ⟨by decide +kernel, rfl⟩
theorem dJ7_fill_53178_2 : xd cJ7_fill_53178 2 (.aload_n 0) 1 3 := ⟨by decide +kernel, rfl⟩
theorem dJ7_fill_53178_3 : xd cJ7_fill_53178 3 .arraylength 1 4 := ⟨by decide +kernel, rfl⟩
theorem dJ7_fill_53178_4 : xd cJ7_fill_53178 4 (.istore_n 3) 1 5 := ⟨by decide +kernel, rfl⟩
theorem dJ7_fill_53178_5 : xd cJ7_fill_53178 5 (.iload_n 2) 1 6 := ⟨by decide +kernel, rfl⟩
theorem dJ7_fill_53178_6 : xd cJ7_fill_53178 6 (.iload_n 3) 1 7 := ⟨by decide +kernel, rfl⟩
theorem dJ7_fill_53178_7 : xj cJ7_fill_53178 7 (.if_icmp .ge) 10 20 := ⟨13, by decide +kernel, rfl, by decide⟩
theorem dJ7_fill_53178_10 : xd cJ7_fill_53178 10 (.aload_n 0) 1 11 := ⟨by decide +kernel, rfl⟩
theorem dJ7_fill_53178_11 : xd cJ7_fill_53178 11 (.iload_n 2) 1 12 := ⟨by decide +kernel, rfl⟩
theorem dJ7_fill_53178_12 : xd cJ7_fill_53178 12 (.iload_n 1) 1 13 := ⟨by decide +kernel, rfl⟩
theorem dJ7_fill_53178_13 : xd cJ7_fill_53178 13 .iastore 1 14 := ⟨by decide +kernel, rfl⟩
theorem dJ7_fill_53178_14 : xd cJ7_fill_53178 14 (.iinc 2 1) 3 17 := ⟨by decide +kernel, rfl⟩
theorem dJ7_fill_53178_17 : xj cJ7_fill_53178 17 .goto 20 5 := ⟨(-12), by decide +kernel, rfl, by decide⟩
theorem dJ7_fill_53178_20 : xd cJ7_fill_53178 20 .return_ 1 21 := ⟨by decide +kernel, rfl⟩

set_option maxRecDepth 100000 in
set_option maxHeartbeats 4000000 in
theorem ct_J7_fill_53178 (l : Launch) (g : XG) (a n v : Nat) (f : Nat → Int32) (hn : n < 2 ^ 31) : Ct l g 1 0 0 yJ7_fill_53178 cJ7_fill_53178 4 none [.ref a, .int (nI v)] [(a, .inl (g.2.1 0, n, .inl f))] (xpv [(a, .inl (g.2.1 0, n, .inl (nIf (fun _ => v))))]) := by
  refine Ct.ofX (lv := [some (.ref a), some (.int (nI v)), none, none]) (by decide) rfl (Nat.le_of_ble_eq_true rfl) (fun κ => ?_)
  generalize hQ : xQ κ g 0 0 _ = Q
  refine x_iconst 0 dJ7_fill_53178_0 (by decide) ?_
  refine x_istore_n (lv' := [some (.ref a), some (.int (nI v)), some (.int 0), none]) dJ7_fill_53178_1 (xlt rfl) rfl ?_
  refine x_aload_n dJ7_fill_53178_2 rfl ?_
  refine x_alen (ti := 0) (nI n) dJ7_fill_53178_3 0 rfl rfl rfl ?_
  refine x_istore_n (lv' := [some (.ref a), some (.int (nI v)), some (.int 0), some (.int (nI n))]) dJ7_fill_53178_4 (xlt rfl) rfl ?_
  have L5_1 : ∀ (i : Nat), i ≤ n → ∀ (f1 : Nat → Int32), f1 = fillT i (fun _ => nI v) f → Xs κ g 1 0 0 cJ7_fill_53178 yJ7_fill_53178 none Q 0 0 5 [some (.ref a), some (.int (nI v)), some (.int (nI i)), some (.int (nI n))] [] [(a, .inl (g.2.1 0, n, .inl f1))] := by
    refine upTo n (fun i hi5 ih5 => ?_)
    intro f1 ef1
    subst ef1
    refine x_iload_n dJ7_fill_53178_5 rfl ?_
    refine x_iload_n dJ7_fill_53178_6 rfl ?_
    refine x_icmp_ge dJ7_fill_53178_7 (fun c7 => ?_) (fun c7 => ?_)
    · have c7 : (nI n) ≤ (nI i) := c7
      have c7n := (nI_leI (a := n) (b := i) (by omega) (by omega)).mp c7
      have hxc7 : i = n := by omega
      try rw [hxc7]
      refine x_funi (ws' := [(a, .inl (g.2.1 0, n, .inl (nIf (fun _ => v))))]) (q0 := 0) rfl (fun j hj => fillT_in (fun _ => nI v) f hj) rfl ?_
      rw [← hQ]
      refine x_vret dJ7_fill_53178_20 rfl (Nat.le_of_ble_eq_true rfl) (Nat.le_of_ble_eq_true rfl) ?_
      exact ⟨rfl, rfl⟩
    · have c7 : ¬ ((nI n) ≤ (nI i)) := c7
      have c7n := mt (nI_leI (a := n) (b := i) (by omega) (by omega)).mpr c7
      refine x_aload_n dJ7_fill_53178_10 rfl ?_
      refine x_iload_n dJ7_fill_53178_11 rfl ?_
      refine x_iload_n dJ7_fill_53178_12 rfl ?_
      refine x_iast (ws' := [(a, .inl (g.2.1 0, n, .inl (upd (fillT i (fun _ => nI v) f) i (nI v))))]) dJ7_fill_53178_13 0 i rfl (rfl) (by omega) (by omega) rfl ?_
      refine x_iinc (lv' := [some (.ref a), some (.int (nI v)), some (.int (nI (i + 1))), some (.int (nI n))]) (nI (i + 1)) dJ7_fill_53178_14 rfl (nI_addc i 1 rfl) rfl ?_
      refine x_goto dJ7_fill_53178_17 ?_
      exact ih5 (by omega) _ (by exact fillT_upd i (fun _ => nI v) f)
  exact L5_1 0 (Nat.zero_le _) _ (by exact (fillT_0 _ _).symm)

-- == J7_fill_d0a16 ==
theorem dJ7_fill_d0a16_0 : xd cJ7_fill_d0a16 0 (.iconst 0) 1 1 := ⟨by decide +kernel, rfl⟩
theorem dJ7_fill_d0a16_1 : xd cJ7_fill_d0a16 1 (.istore_n 3) 1 2 := ⟨by decide +kernel, rfl⟩
theorem dJ7_fill_d0a16_2 : xd cJ7_fill_d0a16 2 (.aload_n 0) 1 3 := ⟨by decide +kernel, rfl⟩
theorem dJ7_fill_d0a16_3 : xd cJ7_fill_d0a16 3 .arraylength 1 4 := ⟨by decide +kernel, rfl⟩
theorem dJ7_fill_d0a16_4 : xd cJ7_fill_d0a16 4 (.istore 4) 2 6 := ⟨by decide +kernel, rfl⟩
theorem dJ7_fill_d0a16_6 : xd cJ7_fill_d0a16 6 (.iload_n 3) 1 7 := ⟨by decide +kernel, rfl⟩
theorem dJ7_fill_d0a16_7 : xd cJ7_fill_d0a16 7 (.iload 4) 2 9 := ⟨by decide +kernel, rfl⟩
theorem dJ7_fill_d0a16_9 : xj cJ7_fill_d0a16 9 (.if_icmp .ge) 12 22 := ⟨13, by decide +kernel, rfl, by decide⟩
theorem dJ7_fill_d0a16_12 : xd cJ7_fill_d0a16 12 (.aload_n 0) 1 13 := ⟨by decide +kernel, rfl⟩
theorem dJ7_fill_d0a16_13 : xd cJ7_fill_d0a16 13 (.iload_n 3) 1 14 := ⟨by decide +kernel, rfl⟩
theorem dJ7_fill_d0a16_14 : xd cJ7_fill_d0a16 14 (.lload_n 1) 1 15 := ⟨by decide +kernel, rfl⟩
theorem dJ7_fill_d0a16_15 : xd cJ7_fill_d0a16 15 .lastore 1 16 := ⟨by decide +kernel, rfl⟩
theorem dJ7_fill_d0a16_16 : xd cJ7_fill_d0a16 16 (.iinc 3 1) 3 19 := ⟨by decide +kernel, rfl⟩
theorem dJ7_fill_d0a16_19 : xj cJ7_fill_d0a16 19 .goto 22 6 := ⟨(-13), by decide +kernel, rfl, by decide⟩
theorem dJ7_fill_d0a16_22 : xd cJ7_fill_d0a16 22 .return_ 1 23 := ⟨by decide +kernel, rfl⟩

set_option maxRecDepth 100000 in
set_option maxHeartbeats 4000000 in
theorem ct_J7_fill_d0a16 (l : Launch) (g : XG) (a n : Nat) (v : Int64) (f : Nat → Int64) (hn : n < 2 ^ 31) : Ct l g 1 0 0 yJ7_fill_d0a16 cJ7_fill_d0a16 5 none [.ref a, .long v] [(a, .inl (g.2.1 2, n, .inr (.inl f)))] (xpv [(a, .inl (g.2.1 2, n, .inr (.inl (fun _ => v))))]) := by
  refine Ct.ofX (lv := [some (.ref a), some (.long v), none, none, none]) (by decide) rfl (Nat.le_of_ble_eq_true rfl) (fun κ => ?_)
  generalize hQ : xQ κ g 0 0 _ = Q
  refine x_iconst 0 dJ7_fill_d0a16_0 (by decide) ?_
  refine x_istore_n (lv' := [some (.ref a), some (.long v), none, some (.int 0), none]) dJ7_fill_d0a16_1 (xlt rfl) rfl ?_
  refine x_aload_n dJ7_fill_d0a16_2 rfl ?_
  refine x_alen (ti := 2) (nI n) dJ7_fill_d0a16_3 0 rfl rfl rfl ?_
  refine x_istore (lv' := [some (.ref a), some (.long v), none, some (.int 0), some (.int (nI n))]) dJ7_fill_d0a16_4 (xlt rfl) rfl ?_
  have L6_1 : ∀ (i : Nat), i ≤ n → ∀ (f1 : Nat → Int64), f1 = fillT i (fun _ => v) f → Xs κ g 1 0 0 cJ7_fill_d0a16 yJ7_fill_d0a16 none Q 0 0 6 [some (.ref a), some (.long v), none, some (.int (nI i)), some (.int (nI n))] [] [(a, .inl (g.2.1 2, n, .inr (.inl f1)))] := by
    refine upTo n (fun i hi6 ih6 => ?_)
    intro f1 ef1
    subst ef1
    refine x_iload_n dJ7_fill_d0a16_6 rfl ?_
    refine x_iload dJ7_fill_d0a16_7 rfl ?_
    refine x_icmp_ge dJ7_fill_d0a16_9 (fun c9 => ?_) (fun c9 => ?_)
    · have c9 : (nI n) ≤ (nI i) := c9
      have c9n := (nI_leI (a := n) (b := i) (by omega) (by omega)).mp c9
      have hxc9 : i = n := by omega
      try rw [hxc9]
      refine x_funl (ws' := [(a, .inl (g.2.1 2, n, .inr (.inl (fun _ => v))))]) (q0 := 0) rfl (fun j hj => fillT_in (fun _ => v) f hj) rfl ?_
      rw [← hQ]
      refine x_vret dJ7_fill_d0a16_22 rfl (Nat.le_of_ble_eq_true rfl) (Nat.le_of_ble_eq_true rfl) ?_
      exact ⟨rfl, rfl⟩
    · have c9 : ¬ ((nI n) ≤ (nI i)) := c9
      have c9n := mt (nI_leI (a := n) (b := i) (by omega) (by omega)).mpr c9
      refine x_aload_n dJ7_fill_d0a16_12 rfl ?_
      refine x_iload_n dJ7_fill_d0a16_13 rfl ?_
      refine x_lload_n dJ7_fill_d0a16_14 rfl ?_
      refine x_last (ws' := [(a, .inl (g.2.1 2, n, .inr (.inl (vp_updL (fillT i (fun _ => v) f) i v))))]) dJ7_fill_d0a16_15 0 i rfl (rfl) (by omega) (by omega) rfl ?_
      refine x_iinc (lv' := [some (.ref a), some (.long v), none, some (.int (nI (i + 1))), some (.int (nI n))]) (nI (i + 1)) dJ7_fill_d0a16_16 rfl (nI_addc i 1 rfl) rfl ?_
      refine x_goto dJ7_fill_d0a16_19 ?_
      exact ih6 (by omega) _ (by exact fillT_updL i (fun _ => v) f)
  exact L6_1 0 (Nat.zero_le _) _ (by exact (fillT_0 _ _).symm)

-- == within_n ==
theorem ct_within_n (l : Launch) (g : XG) (n a b : Nat) (hw : a ≤ n ∧ n ≤ b ∧ n < 2 ^ 31 ∧ b < 2 ^ 31) : Ct l g 1 0 0 yX8_within cX8_within 3 (some .boolean) [.int (nI n), .int (nI a), .int (nI b)] [] (xpi (1) []) := by
  have h := ct_X8_within l g (nI n) (nI a) (nI b)
  rw [wI_nat hw] at h
  exact h

-- == X6_hasLiking ==
theorem dX6_hasLiking_0 : xd cX6_hasLiking 0 (.aload_n 0) 1 1 := ⟨by decide +kernel, rfl⟩
theorem dX6_hasLiking_1 : xd cX6_hasLiking 1 (.getfield 52) 3 4 := ⟨by decide +kernel, rfl⟩
theorem dX6_hasLiking_4 : xj cX6_hasLiking 4 (.ifCond .le) 7 11 := ⟨7, by decide +kernel, rfl, by decide⟩
theorem dX6_hasLiking_7 : xd cX6_hasLiking 7 (.iconst 1) 1 8 := ⟨by decide +kernel, rfl⟩
theorem dX6_hasLiking_8 : xj cX6_hasLiking 8 .goto 11 12 := ⟨4, by decide +kernel, rfl, by decide⟩
theorem dX6_hasLiking_11 : xd cX6_hasLiking 11 (.iconst 0) 1 12 := ⟨by decide +kernel, rfl⟩
theorem dX6_hasLiking_12 : xd cX6_hasLiking 12 .ireturn 1 13 := ⟨by decide +kernel, rfl⟩

set_option maxRecDepth 100000 in
set_option maxHeartbeats 4000000 in
theorem ct_X6_hasLiking (l : Launch) (g : XG) (aS aSk aSm aSp aSt aSc aSr aSe gr br cs wk : Nat) (z : Int32) (hcs : cs ≤ 60) : Ct l g 1 0 0 yX6_hasLiking cX6_hasLiking 1 (some .boolean) [.ref aS] [(aS, .inr (6, [.ref aSk, .ref aSm, .ref aSp, .ref aSt, .ref aSc, .ref aSr, .ref aSe, .int (nI gr), .int (nI br), .int (nI cs), .int (nI wk), .int z]))] (xpi (hasL cs) [(aS, .inr (6, [.ref aSk, .ref aSm, .ref aSp, .ref aSt, .ref aSc, .ref aSr, .ref aSe, .int (nI gr), .int (nI br), .int (nI cs), .int (nI wk), .int z]))]) := by
  refine Ct.ofX (lv := [some (.ref aS)]) (by decide) rfl (Nat.le_of_ble_eq_true rfl) (fun κ => ?_)
  generalize hQ : xQ κ g 0 0 _ = Q
  refine x_aload_n dX6_hasLiking_0 rfl ?_
  refine x_get dX6_hasLiking_1 0 9 inX6 fl_X6_52 rfl rfl (by decide) rfl ?_
  have J4_2 : ∀ (v1 : Int32), v1 = (if (nI cs) ≤ 0 then 0 else 1) → Xs κ g 1 0 0 cX6_hasLiking yX6_hasLiking (some .boolean) Q 0 0 12 [some (.ref aS)] [.int v1] [(aS, .inr (6, [.ref aSk, .ref aSm, .ref aSp, .ref aSt, .ref aSc, .ref aSr, .ref aSe, .int (nI gr), .int (nI br), .int (nI cs), .int (nI wk), .int z]))] := by
    intro v1 ev1
    rw [← hQ]
    refine x_zret dX6_hasLiking_12 rfl (by simp only [ev1, nI_le0 (show cs < 2 ^ 31 by omega)]; exact hasL_nar cs) (Nat.le_of_ble_eq_true rfl) (Nat.le_of_ble_eq_true rfl) ?_
    exact ⟨by simp only [ev1, hasL, nI_le0 (show cs < 2 ^ 31 by omega)], rfl⟩
  refine x_if_le dX6_hasLiking_4 (fun c4 => ?_) (fun c4 => ?_)
  · have c4 : (nI cs) ≤ 0 := c4
    have c4n := (nI_leI (a := cs) (b := 0) (by omega) (by omega)).mp c4
    refine x_iconst 0 dX6_hasLiking_11 (by decide) ?_
    exact J4_2 _ (if_pos c4).symm
  · have c4 : ¬ ((nI cs) ≤ 0) := c4
    have c4n := mt (nI_leI (a := cs) (b := 0) (by omega) (by omega)).mpr c4
    refine x_iconst 1 dX6_hasLiking_7 (by decide) ?_
    refine x_goto dX6_hasLiking_8 ?_
    exact J4_2 _ (if_neg c4).symm

-- == X6_isBookFull ==
theorem dX6_isBookFull_0 : xd cX6_isBookFull 0 (.aload_n 0) 1 1 := ⟨by decide +kernel, rfl⟩
theorem dX6_isBookFull_1 : xd cX6_isBookFull 1 (.getfield 55) 3 4 := ⟨by decide +kernel, rfl⟩
theorem dX6_isBookFull_4 : xd cX6_isBookFull 4 (.bipush 40) 2 6 := ⟨by decide +kernel, rfl⟩
theorem dX6_isBookFull_6 : xj cX6_isBookFull 6 (.if_icmp .lt) 9 13 := ⟨7, by decide +kernel, rfl, by decide⟩
theorem dX6_isBookFull_9 : xd cX6_isBookFull 9 (.iconst 1) 1 10 := ⟨by decide +kernel, rfl⟩
theorem dX6_isBookFull_10 : xj cX6_isBookFull 10 .goto 13 14 := ⟨4, by decide +kernel, rfl, by decide⟩
theorem dX6_isBookFull_13 : xd cX6_isBookFull 13 (.iconst 0) 1 14 := ⟨by decide +kernel, rfl⟩
theorem dX6_isBookFull_14 : xd cX6_isBookFull 14 .ireturn 1 15 := ⟨by decide +kernel, rfl⟩

set_option maxRecDepth 100000 in
set_option maxHeartbeats 4000000 in
theorem ct_X6_isBookFull (l : Launch) (g : XG) (aS aSk aSm aSp aSt aSc aSr aSe gr br cs wk : Nat) (z : Int32) (hwk : wk ≤ 40) : Ct l g 1 0 0 yX6_isBookFull cX6_isBookFull 1 (some .boolean) [.ref aS] [(aS, .inr (6, [.ref aSk, .ref aSm, .ref aSp, .ref aSt, .ref aSc, .ref aSr, .ref aSe, .int (nI gr), .int (nI br), .int (nI cs), .int (nI wk), .int z]))] (xpi (bfI wk) [(aS, .inr (6, [.ref aSk, .ref aSm, .ref aSp, .ref aSt, .ref aSc, .ref aSr, .ref aSe, .int (nI gr), .int (nI br), .int (nI cs), .int (nI wk), .int z]))]) := by
  refine Ct.ofX (lv := [some (.ref aS)]) (by decide) rfl (Nat.le_of_ble_eq_true rfl) (fun κ => ?_)
  generalize hQ : xQ κ g 0 0 _ = Q
  refine x_aload_n dX6_isBookFull_0 rfl ?_
  refine x_get dX6_isBookFull_1 0 10 inX6 fl_X6_55 rfl rfl (by decide) rfl ?_
  refine x_bipush 40 dX6_isBookFull_4 (by decide) ?_
  have J6_2 : ∀ (v1 : Int32), v1 = (if (nI wk) < 40 then 0 else 1) → Xs κ g 1 0 0 cX6_isBookFull yX6_isBookFull (some .boolean) Q 0 0 14 [some (.ref aS)] [.int v1] [(aS, .inr (6, [.ref aSk, .ref aSm, .ref aSp, .ref aSt, .ref aSc, .ref aSr, .ref aSe, .int (nI gr), .int (nI br), .int (nI cs), .int (nI wk), .int z]))] := by
    intro v1 ev1
    rw [← hQ]
    refine x_zret dX6_isBookFull_14 rfl (z01 (by simp only [ev1]; split <;> simp)) (Nat.le_of_ble_eq_true rfl) (Nat.le_of_ble_eq_true rfl) ?_
    exact ⟨by simp only [ev1, bfI, show ((40 : Int32) = nI 40) from rfl, nI_ltI (show wk < 2 ^ 31 by omega) (show 40 < 2 ^ 31 by decide)], rfl⟩
  refine x_icmp_lt dX6_isBookFull_6 (fun c6 => ?_) (fun c6 => ?_)
  · have c6 : (nI wk) < 40 := c6
    have c6n := (nI_ltI (a := wk) (b := 40) (by omega) (by omega)).mp c6
    refine x_iconst 0 dX6_isBookFull_13 (by decide) ?_
    exact J6_2 _ (if_pos c6).symm
  · have c6 : ¬ ((nI wk) < 40) := c6
    have c6n := mt (nI_ltI (a := wk) (b := 40) (by omega) (by omega)).mpr c6
    refine x_iconst 1 dX6_isBookFull_9 (by decide) ?_
    refine x_goto dX6_isBookFull_10 ?_
    exact J6_2 _ (if_neg c6).symm

-- == X6_boughtAt ==
theorem dX6_boughtAt_0 : xd cX6_boughtAt 0 (.iconst 0) 1 1 := ⟨by decide +kernel, rfl⟩
theorem dX6_boughtAt_1 : xd cX6_boughtAt 1 (.istore_n 2) 1 2 := ⟨by decide +kernel, rfl⟩
theorem dX6_boughtAt_2 : xd cX6_boughtAt 2 (.iload_n 2) 1 3 := ⟨by decide +kernel, rfl⟩
theorem dX6_boughtAt_3 : xd cX6_boughtAt 3 (.aload_n 0) 1 4 := ⟨by decide +kernel, rfl⟩
theorem dX6_boughtAt_4 : xd cX6_boughtAt 4 (.getfield 49) 3 7 := ⟨by decide +kernel, rfl⟩
theorem dX6_boughtAt_7 : xj cX6_boughtAt 7 (.if_icmp .ge) 10 34 := ⟨27, by decide +kernel, rfl, by decide⟩
theorem dX6_boughtAt_10 : xd cX6_boughtAt 10 (.iload_n 2) 1 11 := ⟨by decide +kernel, rfl⟩
theorem dX6_boughtAt_11 : xd cX6_boughtAt 11 (.bipush 40) 2 13 := ⟨by decide +kernel, rfl⟩
theorem dX6_boughtAt_13 : xj cX6_boughtAt 13 (.if_icmp .ge) 16 34 := ⟨21, by decide +kernel, rfl, by decide⟩
theorem dX6_boughtAt_16 : xd cX6_boughtAt 16 (.aload_n 0) 1 17 := ⟨by decide +kernel, rfl⟩
theorem dX6_boughtAt_17 : xd cX6_boughtAt 17 (.getfield 18) 3 20 := ⟨by decide +kernel, rfl⟩
theorem dX6_boughtAt_20 : xd cX6_boughtAt 20 (.iload_n 2) 1 21 := ⟨by decide +kernel, rfl⟩
theorem dX6_boughtAt_21 : xd cX6_boughtAt 21 .iaload 1 22 := ⟨by decide +kernel, rfl⟩
theorem dX6_boughtAt_22 : xd cX6_boughtAt 22 (.iload_n 1) 1 23 := ⟨by decide +kernel, rfl⟩
theorem dX6_boughtAt_23 : xj cX6_boughtAt 23 (.if_icmp .ne) 26 28 := ⟨5, by decide +kernel, rfl, by decide⟩
theorem dX6_boughtAt_26 : xd cX6_boughtAt 26 (.iload_n 2) 1 27 := ⟨by decide +kernel, rfl⟩
theorem dX6_boughtAt_27 : xd cX6_boughtAt 27 .ireturn 1 28 := ⟨by decide +kernel, rfl⟩
theorem dX6_boughtAt_28 : xd cX6_boughtAt 28 (.iinc 2 1) 3 31 := ⟨by decide +kernel, rfl⟩
theorem dX6_boughtAt_31 : xj cX6_boughtAt 31 .goto 34 2 := ⟨(-29), by decide +kernel, rfl, by decide⟩
theorem dX6_boughtAt_34 : xd cX6_boughtAt 34 (.aload_n 0) 1 35 := ⟨by decide +kernel, rfl⟩
theorem dX6_boughtAt_35 : xd cX6_boughtAt 35 (.getfield 49) 3 38 := ⟨by decide +kernel, rfl⟩
theorem dX6_boughtAt_38 : xd cX6_boughtAt 38 .ireturn 1 39 := ⟨by decide +kernel, rfl⟩

set_option maxRecDepth 100000 in
set_option maxHeartbeats 4000000 in
theorem ct_X6_boughtAt (l : Launch) (g : XG) (aS aSk aSm aSp aSt aSc aSr aSe gr br cs wk : Nat) (z : Int32) (bp : Nat → Nat) (p : Nat) (hbr : br ≤ 40) (hp : p < 2 ^ 31) (hbp : ∀ j, bp j < 495) : Ct l g 1 0 0 yX6_boughtAt cX6_boughtAt 3 (some .int) [.ref aS, .int (nI p)] [(aS, .inr (6, [.ref aSk, .ref aSm, .ref aSp, .ref aSt, .ref aSc, .ref aSr, .ref aSe, .int (nI gr), .int (nI br), .int (nI cs), .int (nI wk), .int z])), (aSp, .inl (g.2.1 0, 40, .inl (nIf bp)))] (xpi (nI (fa_first (fun j => bp j == p) br)) [(aS, .inr (6, [.ref aSk, .ref aSm, .ref aSp, .ref aSt, .ref aSc, .ref aSr, .ref aSe, .int (nI gr), .int (nI br), .int (nI cs), .int (nI wk), .int z])), (aSp, .inl (g.2.1 0, 40, .inl (nIf bp)))]) := by
  refine Ct.ofX (lv := [some (.ref aS), some (.int (nI p)), none]) (by decide) rfl (Nat.le_of_ble_eq_true rfl) (fun κ => ?_)
  generalize hQ : xQ κ g 0 0 _ = Q
  refine x_iconst 0 dX6_boughtAt_0 (by decide) ?_
  refine x_istore_n (lv' := [some (.ref aS), some (.int (nI p)), some (.int 0)]) dX6_boughtAt_1 (xlt rfl) rfl ?_
  have L2_1 : ∀ (i : Nat), i ≤ br → (∀ k, k < i → (bp k == p) = false) → Xs κ g 1 0 0 cX6_boughtAt yX6_boughtAt (some .int) Q 0 0 2 [some (.ref aS), some (.int (nI p)), some (.int (nI i))] [] [(aS, .inr (6, [.ref aSk, .ref aSm, .ref aSp, .ref aSt, .ref aSc, .ref aSr, .ref aSe, .int (nI gr), .int (nI br), .int (nI cs), .int (nI wk), .int z])), (aSp, .inl (g.2.1 0, 40, .inl (nIf bp)))] := by
    refine upTo br (fun i hi2 ih2 => ?_)
    intro hno
    have hbi := hbp i
    refine x_iload_n dX6_boughtAt_2 rfl ?_
    refine x_aload_n dX6_boughtAt_3 rfl ?_
    refine x_get dX6_boughtAt_4 0 8 inX6 fl_X6_49 rfl rfl (by decide) rfl ?_
    refine x_icmp_ge dX6_boughtAt_7 (fun c7 => ?_) (fun c7 => ?_)
    · have c7 : (nI br) ≤ (nI i) := c7
      have c7n := (nI_leI (a := br) (b := i) (by omega) (by omega)).mp c7
      have hxc7 : i = br := by omega
      try rw [hxc7]
      try rw [hxc7] at hno
      refine x_aload_n dX6_boughtAt_34 rfl ?_
      refine x_get dX6_boughtAt_35 0 8 inX6 fl_X6_49 rfl rfl (by decide) rfl ?_
      rw [← hQ]
      refine x_iret dX6_boughtAt_38 rfl (Nat.le_of_ble_eq_true rfl) (Nat.le_of_ble_eq_true rfl) ?_
      exact ⟨by rw [fstNone (p := fun j => bp j == p) hno], rfl⟩
    · have c7 : ¬ ((nI br) ≤ (nI i)) := c7
      have c7n := mt (nI_leI (a := br) (b := i) (by omega) (by omega)).mpr c7
      refine x_iload_n dX6_boughtAt_10 rfl ?_
      refine x_bipush 40 dX6_boughtAt_11 (by decide) ?_
      refine x_icmp_ge dX6_boughtAt_13 (fun c13 => ?_) (fun c13 => ?_)
      · have c13 : 40 ≤ (nI i) := c13
        have c13n := (nI_leI (a := 40) (b := i) (by omega) (by omega)).mp c13
        exact absurd c13n (by omega)
      · have c13 : ¬ (40 ≤ (nI i)) := c13
        have c13n := mt (nI_leI (a := 40) (b := i) (by omega) (by omega)).mpr c13
        refine x_aload_n dX6_boughtAt_16 rfl ?_
        refine x_get dX6_boughtAt_17 0 2 inX6 fl_X6_18 rfl rfl (by decide) rfl ?_
        refine x_iload_n dX6_boughtAt_20 rfl ?_
        refine x_iald dX6_boughtAt_21 1 i rfl (rfl) (by omega) (by decide) ?_
        refine x_iload_n dX6_boughtAt_22 rfl ?_
        refine x_icmp_ne dX6_boughtAt_23 (fun c23 => ?_) (fun c23 => ?_)
        · have c23 : ¬ ((nI (bp i)) = (nI p)) := c23
          have c23n := mt (nI_eq (a := (bp i)) (b := p) (by omega) (by omega)).mpr c23
          refine x_iinc (lv' := [some (.ref aS), some (.int (nI p)), some (.int (nI (i + 1)))]) (nI (i + 1)) dX6_boughtAt_28 rfl (nI_addc i 1 rfl) rfl ?_
          refine x_goto dX6_boughtAt_31 ?_
          exact ih2 (by omega)  (allS hno (by simpa using c23n))
        · have c23 : (nI (bp i)) = (nI p) := c23
          have c23n := (nI_eq (a := (bp i)) (b := p) (by omega) (by omega)).mp c23
          refine x_iload_n dX6_boughtAt_26 rfl ?_
          rw [← hQ]
          refine x_iret dX6_boughtAt_27 rfl (Nat.le_of_ble_eq_true rfl) (Nat.le_of_ble_eq_true rfl) ?_
          exact ⟨by rw [fstEq (p := fun j => bp j == p) (by omega) hno (by simpa using c23n)], rfl⟩
  exact L2_1 0 (Nat.zero_le _)  (fun k hk => by omega)

-- == X6_bookCell ==
theorem dX6_bookCell_0 : xd cX6_bookCell 0 (.iload_n 1) 1 1 := ⟨by decide +kernel, rfl⟩
theorem dX6_bookCell_1 : xd cX6_bookCell 1 (.iconst 0) 1 2 := ⟨by decide +kernel, rfl⟩
theorem dX6_bookCell_2 : xd cX6_bookCell 2 (.bipush 39) 2 4 := ⟨by decide +kernel, rfl⟩
theorem dX6_bookCell_4 : xd cX6_bookCell 4 (.invokestatic 58) 3 7 := ⟨by decide +kernel, rfl⟩
theorem dX6_bookCell_7 : xj cX6_bookCell 7 (.ifCond .eq) 10 20 := ⟨13, by decide +kernel, rfl, by decide⟩
theorem dX6_bookCell_10 : xd cX6_bookCell 10 (.iload_n 2) 1 11 := ⟨by decide +kernel, rfl⟩
theorem dX6_bookCell_11 : xd cX6_bookCell 11 (.iconst 0) 1 12 := ⟨by decide +kernel, rfl⟩
theorem dX6_bookCell_12 : xd cX6_bookCell 12 (.bipush 7) 2 14 := ⟨by decide +kernel, rfl⟩
theorem dX6_bookCell_14 : xd cX6_bookCell 14 (.invokestatic 58) 3 17 := ⟨by decide +kernel, rfl⟩
theorem dX6_bookCell_17 : xj cX6_bookCell 17 (.ifCond .ne) 20 22 := ⟨5, by decide +kernel, rfl, by decide⟩
theorem dX6_bookCell_20 : xd cX6_bookCell 20 (.iconst 0) 1 21 := ⟨by decide +kernel, rfl⟩
theorem dX6_bookCell_21 : xd cX6_bookCell 21 .ireturn 1 22 := ⟨by decide +kernel, rfl⟩
theorem dX6_bookCell_22 : xd cX6_bookCell 22 (.aload_n 0) 1 23 := ⟨by decide +kernel, rfl⟩
theorem dX6_bookCell_23 : xd cX6_bookCell 23 (.getfield 30) 3 26 := ⟨by decide +kernel, rfl⟩
theorem dX6_bookCell_26 : xd cX6_bookCell 26 (.iload_n 1) 1 27 := ⟨by decide +kernel, rfl⟩
theorem dX6_bookCell_27 : xd cX6_bookCell 27 (.bipush 8) 2 29 := ⟨by decide +kernel, rfl⟩
theorem dX6_bookCell_29 : xd cX6_bookCell 29 .imul 1 30 := ⟨by decide +kernel, rfl⟩
theorem dX6_bookCell_30 : xd cX6_bookCell 30 (.iload_n 2) 1 31 := ⟨by decide +kernel, rfl⟩
theorem dX6_bookCell_31 : xd cX6_bookCell 31 .iadd 1 32 := ⟨by decide +kernel, rfl⟩
theorem dX6_bookCell_32 : xd cX6_bookCell 32 .iaload 1 33 := ⟨by decide +kernel, rfl⟩
theorem dX6_bookCell_33 : xd cX6_bookCell 33 .ireturn 1 34 := ⟨by decide +kernel, rfl⟩

set_option maxRecDepth 100000 in
set_option maxHeartbeats 4000000 in
theorem ct_X6_bookCell (l : Launch) (g : XG) (aS aSk aSm aSp aSt aSc aSr aSe gr br cs wk : Nat) (z : Int32) (ce : Nat → Int32) (w q : Nat) (hw : w < 40) (hq : q < 8) : Ct l g 2 0 0 yX6_bookCell cX6_bookCell 3 (some .int) [.ref aS, .int (nI w), .int (nI q)] [(aS, .inr (6, [.ref aSk, .ref aSm, .ref aSp, .ref aSt, .ref aSc, .ref aSr, .ref aSe, .int (nI gr), .int (nI br), .int (nI cs), .int (nI wk), .int z])), (aSe, .inl (g.2.1 0, 320, .inl ce))] (xpi (ce (w * 8 + q)) [(aS, .inr (6, [.ref aSk, .ref aSm, .ref aSp, .ref aSt, .ref aSc, .ref aSr, .ref aSe, .int (nI gr), .int (nI br), .int (nI cs), .int (nI wk), .int z])), (aSe, .inl (g.2.1 0, 320, .inl ce))]) := by
  refine Ct.ofX (lv := [some (.ref aS), some (.int (nI w)), some (.int (nI q))]) (by decide) rfl (Nat.le_of_ble_eq_true rfl) (fun κ => ?_)
  generalize hQ : xQ κ g 0 0 _ = Q
  refine x_iload_n dX6_bookCell_0 rfl ?_
  refine x_iconst 0 dX6_bookCell_1 (by decide) ?_
  refine x_bipush 39 dX6_bookCell_2 (by decide) ?_
  refine x_cSNi dX6_bookCell_4 (fun h => h.2.2.2.2.2.1) mX8_within (ct_within_n κ.2.1 g w 0 39 (⟨by omega, by omega, by omega, by omega⟩)) rfl (Nat.le_of_ble_eq_true rfl) (by decide) (Nat.le_refl _) (Nat.le_refl _) ?_
  refine x_if_eq dX6_bookCell_7 (fun c7 => ?_) (fun c7 => ?_)
  · exact absurd c7 (by decide)
  refine x_iload_n dX6_bookCell_10 rfl ?_
  refine x_iconst 0 dX6_bookCell_11 (by decide) ?_
  refine x_bipush 7 dX6_bookCell_12 (by decide) ?_
  refine x_cSNi dX6_bookCell_14 (fun h => h.2.2.2.2.2.1) mX8_within (ct_within_n κ.2.1 g q 0 7 (⟨by omega, by omega, by omega, by omega⟩)) rfl (Nat.le_of_ble_eq_true rfl) (by decide) (Nat.le_refl _) (Nat.le_refl _) ?_
  refine x_if_ne dX6_bookCell_17 (fun c17 => ?_) (fun c17 => ?_)
  rotate_left
  · exact absurd c17 (by decide)
  refine x_aload_n dX6_bookCell_22 rfl ?_
  refine x_get dX6_bookCell_23 0 6 inX6 fl_X6_30 rfl rfl (by decide) rfl ?_
  refine x_iload_n dX6_bookCell_26 rfl ?_
  refine x_bipush 8 dX6_bookCell_27 (by decide) ?_
  refine x_imul dX6_bookCell_29 ?_
  refine x_rei (nI (w * 8)) (nI_imul w 8) ?_
  refine x_iload_n dX6_bookCell_30 rfl ?_
  refine x_iadd dX6_bookCell_31 ?_
  refine x_rei (nI ((w * 8) + q)) (nI_iadd (w * 8) q) ?_
  refine x_iald dX6_bookCell_32 1 ((w * 8) + q) rfl (rfl) (by omega) (by decide) ?_
  rw [← hQ]
  refine x_iret dX6_bookCell_33 rfl (Nat.le_of_ble_eq_true rfl) (Nat.le_of_ble_eq_true rfl) ?_
  exact ⟨rfl, rfl⟩

-- == bookCell_m ==
set_option maxRecDepth 100000 in
set_option maxHeartbeats 4000000 in
theorem ct_bookCell_m (l : Launch) (g : XG) (aS aSk aSm aSp aSt aSc aSr aSe gr br cs wk : Nat) (z : Int32) (ce : Nat → Int32) : Ct l g 2 0 0 yX6_bookCell cX6_bookCell 3 (some .int) [.ref aS, .int ((-1)), .int 0] [(aS, .inr (6, [.ref aSk, .ref aSm, .ref aSp, .ref aSt, .ref aSc, .ref aSr, .ref aSe, .int (nI gr), .int (nI br), .int (nI cs), .int (nI wk), .int z])), (aSe, .inl (g.2.1 0, 320, .inl ce))] (xpi (0) [(aS, .inr (6, [.ref aSk, .ref aSm, .ref aSp, .ref aSt, .ref aSc, .ref aSr, .ref aSe, .int (nI gr), .int (nI br), .int (nI cs), .int (nI wk), .int z])), (aSe, .inl (g.2.1 0, 320, .inl ce))]) := by
  refine Ct.ofX (lv := [some (.ref aS), some (.int ((-1))), some (.int 0)]) (by decide) rfl (Nat.le_of_ble_eq_true rfl) (fun κ => ?_)
  generalize hQ : xQ κ g 0 0 _ = Q
  refine x_iload_n dX6_bookCell_0 rfl ?_
  refine x_iconst 0 dX6_bookCell_1 (by decide) ?_
  refine x_bipush 39 dX6_bookCell_2 (by decide) ?_
  refine x_cSNi dX6_bookCell_4 (fun h => h.2.2.2.2.2.1) mX8_within (ct_X8_within κ.2.1 g (-1) 0 39) rfl (Nat.le_of_ble_eq_true rfl) (by decide) (Nat.le_refl _) (Nat.le_refl _) ?_
  refine x_if_eq dX6_bookCell_7 (fun c7 => ?_) (fun c7 => ?_)
  rotate_left
  · exact absurd c7 (by decide)
  refine x_iconst 0 dX6_bookCell_20 (by decide) ?_
  rw [← hQ]
  refine x_iret dX6_bookCell_21 rfl (Nat.le_of_ble_eq_true rfl) (Nat.le_of_ble_eq_true rfl) ?_
  exact ⟨rfl, rfl⟩

