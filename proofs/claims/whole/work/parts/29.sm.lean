/-- from the highest place down: the lowest without a cross by then, how many -/
def alA (cr : Nat → Nat) : Nat → Int32
  | 0 => -1
  | i + 1 => if nI (cr (494 - i)) = 0 then nI (494 - i) else alA cr i
def alC (cr : Nat → Nat) : Nat → Nat
  | 0 => 0
  | i + 1 => if nI (cr (494 - i)) = 0 then alC cr i + 1 else alC cr i
theorem al_mid {i : Nat} (h : i < 495) : nI (495 - i) + (-1) = nI (494 - i) := by
  rw [show 495 - i = (494 - i) + 1 by omega, nI_succ]
  rw [Int32.add_assoc, show (1 : Int32) + (-1) = 0 from by decide, Int32.add_zero]
theorem al_dn {i : Nat} : nI (494 - i) + (-1) = nI (495 - (i + 1)) + (-1) := by rw [show 495 - (i + 1) = 494 - i by omega]
theorem alA_hi (cr : Nat → Nat) : ∀ i, alA cr i = -1 ∨ ∃ p, p < 495 ∧ alA cr i = nI p
  | 0 => Or.inl rfl
  | i + 1 => by
    simp only [alA]
    split
    · exact Or.inr ⟨494 - i, by omega, rfl⟩
    · exact alA_hi cr i
theorem fit_A : (List.range 256).all (fun c => decide (fits .byte (.int (sgB c)) = true)) = true := by decide +kernel
theorem fit_sgB {c : Nat} (h : c < 256) : fits .byte (.int (sgB c)) = true := of_decide_eq_true (List.all_eq_true.mp fit_A c (List.mem_range.mpr h))
theorem cpy_txt (tb bo : Nat → Nat) (n : Nat) : va_cpy (fun j => sgB (tb j)) (fun j => sgB (bo j)) 0 0 n = fun j => sgB (if j < n then tb j else bo j) := by
  funext j
  simp only [va_cpy]
  by_cases h : j < n
  · simp [h]
  · simp [h]
theorem cpy_code (cl : List Int32) (f0 co : Nat → Int32) : va_cpy (coL cl f0) co 0 0 cl.length = coL cl co := by
  funext j
  simp only [va_cpy, coL]
  by_cases h : j < cl.length
  · simp [h, List.getD_eq_getElem?_getD, List.getElem?_eq_getElem h]
  · simp [h, List.getD_eq_getElem?_getD, List.getElem?_eq_none (show cl.length ≤ j by omega)]
theorem hB_mix (tb bo : Nat → Nat) (n : Nat) : hB (fun j => if j < n then tb j else bo j) n = hB tb n := by
  funext a
  unfold hB
  by_cases h : a < n
  · simp [h]
  · simp [h]
theorem hdI_n {sz f n : Nat} (h : f + n ≤ sz) (h2 : sz ≤ 40) : hdI sz (nI f) (nI n) = 1 := by
  unfold hdI
  rw [if_neg (nI_pos (by omega)), if_neg (nI_pos (by omega)), if_neg (nI_nlt (by omega) (by omega)), nI_isub _ _ (by omega), if_neg (nI_nlt (by omega) (by omega))]
/-- the first number that is not what the book has -/
def rdB (nu : Nat → Int64) (ce : Nat → Int32) (wk : Nat) : Nat → Bool := fun i => decide (wk ≤ i) || !decide (nu i = (ce (i * 8 + 3)).toInt64)
def rdN (nu : Nat → Int64) (ce : Nat → Int32) (wk n : Nat) : Nat := if fa_first (rdB nu ce wk) n < n then 1 + fa_first (rdB nu ce wk) n else 0
theorem lgc_eq (x y : Int64) : lg_cmp x y = 0 ↔ x = y := by
  unfold lg_cmp
  by_cases h : x > y
  · rw [if_pos h]; exact ⟨fun q => absurd q (by decide), fun q => by subst q; exact absurd h (by rw [gt_iff_lt, fa_lt64]; omega)⟩
  · rw [if_neg h]
    by_cases e : x = y
    · rw [if_pos e]; exact ⟨fun _ => e, fun _ => rfl⟩
    · rw [if_neg e]; exact ⟨fun q => absurd q (by decide), fun q => absurd q e⟩
theorem rdN_hit {nu : Nat → Int64} {ce : Nat → Int32} {wk n i : Nat} (h : i < n) (h1 : ∀ k, k < i → rdB nu ce wk k = false) (h2 : rdB nu ce wk i = true) : rdN nu ce wk n = 1 + i := by
  unfold rdN
  rw [fstEq h h1 h2, if_pos h]
theorem rdN_no {nu : Nat → Int64} {ce : Nat → Int32} {wk n : Nat} (h1 : ∀ k, k < n → rdB nu ce wk k = false) : rdN nu ce wk n = 0 := by
  unfold rdN
  rw [fstNone h1, if_neg (Nat.lt_irrefl n)]
