theorem rmN_le (w : Nat) : rmN w ≤ 99999999 := by
  unfold rmN
  match w with
  | 0 | 1 | 2 | 3 | 4 | 5 | 6 | 7 => decide
  | n + 8 => simp
theorem lpB_le (ru : Nat → Nat) (tot : Nat) (cr th tw : Nat → Nat) (p : Nat) : lpB ru tot cr th tw p ≤ 99999999 := (hvI_le (lpP ru tot cr th tw p) (0, 99999999) 99999999 ⟨by decide, Nat.le_refl _⟩ 32).2
