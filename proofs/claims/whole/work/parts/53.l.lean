/-! ===== the liking: code behind code ===== -/
theorem evR_app (nm : Nat → Int32) : ∀ (a b st : List Int32), evR nm (a ++ b) st = (evR nm a st).bind (fun s => evR nm b s)
  | [], b, st => rfl
  | c :: cs, b, st => by
    rw [List.cons_append, evR, evR]
    split
    · exact evR_app nm cs b _
    · split
      · exact evR_app nm cs b _
      · cases opS c st with
        | none => rfl
        | some s => exact evR_app nm cs b s
/-- code that leaves its value on whatever stands -/
def pushes (nm : Nat → Int32) (cl : List Int32) (v : Int32) : Prop := ∀ st, evR nm cl st = some (v :: st)
theorem push_num (nm : Nat → Int32) {n : Nat} (h : n < 2 ^ 31) : pushes nm [nI n] (nI n) := by
  intro st
  have h0 : (0 : Int32) ≤ nI n := (nI_leI (a := 0) (by decide) h).mpr (Nat.zero_le _)
  rw [evR, if_pos h0]; rfl
theorem push_name (nm : Nat → Int32) {n : Nat} (h : n < 7) : pushes nm [(-10) - nI n] (nm n) := by
  intro st
  rcases (by omega : n = 0 ∨ n = 1 ∨ n = 2 ∨ n = 3 ∨ n = 4 ∨ n = 5 ∨ n = 6) with rfl | rfl | rfl | rfl | rfl | rfl | rfl <;> rfl
theorem push_bin {nm : Nat → Int32} {a b : List Int32} {x y : Int32} (ha : pushes nm a x) (hb : pushes nm b y) :
    pushes nm (a ++ b ++ [-1]) (x + y) ∧ pushes nm (a ++ b ++ [-2]) (x - y) ∧ pushes nm (a ++ b ++ [-3]) (x * y) := by
  refine ⟨fun st => ?_, fun st => ?_, fun st => ?_⟩ <;>
  · rw [evR_app, evR_app, ha st]
    show ((evR nm b (x :: st)).bind _) = _
    rw [hb (x :: st)]
    rfl
theorem push_cho {nm : Nat → Int32} {a b c : List Int32} {v x y : Int32} (hv : pushes nm a v) (hx : pushes nm b x) (hy : pushes nm c y) : pushes nm (a ++ b ++ c ++ [-4]) (if v ≤ 0 then y else x) := by
  intro st
  rw [evR_app, evR_app, evR_app, hv st]
  show (((evR nm b (v :: st)).bind _).bind _) = _
  rw [hx (v :: st)]
  show ((evR nm c (x :: v :: st)).bind _) = _
  rw [hy (x :: v :: st)]
  rfl
