/-- the first without a cross, from below -/
def ahB (cr : Nat → Nat) : Nat → Int32
  | 0 => -1
  | i + 1 => if nI (cr i) = 0 then (if 0 ≤ ahB cr i then ahB cr i else nI i) else ahB cr i
def ahC (cr : Nat → Nat) : Nat → Nat := sumN (fun i => if nI (cr i) = 0 then 1 else 0)
theorem ahB_m1 (cr : Nat → Nat) : ∀ i, ahB cr i = -1 ∨ ∃ p, p < i ∧ ahB cr i = nI p
  | 0 => Or.inl rfl
  | i + 1 => by
    have ih := ahB_m1 cr i
    simp only [ahB]
    split
    · split
      · rcases ih with h | ⟨p, hp, h⟩
        · exact Or.inl h
        · exact Or.inr ⟨p, by omega, h⟩
      · exact Or.inr ⟨i, by omega, rfl⟩
    · rcases ih with h | ⟨p, hp, h⟩
      · exact Or.inl h
      · exact Or.inr ⟨p, by omega, h⟩
