theorem line2_A : (List.range 4096).all (fun r => (if nI r &&& (-16) = 0 then (1 : Int32) else (if nI r &&& (-241) = 0 then 1 else (if nI r &&& (-3841) = 0 then 1 else 0))) == nI (lineF r)) = true := by decide +kernel
theorem line2_eq {r : Nat} (hr : r < 4096) : (if nI r &&& (-16) = 0 then (1 : Int32) else (if nI r &&& (-241) = 0 then 1 else (if nI r &&& (-3841) = 0 then 1 else 0))) = nI (lineF r) := eq_of_beq (List.all_eq_true.mp line2_A r (List.mem_range.mpr hr))
theorem col2_A : (List.range 4096).all (fun r => colF r == (if popN (r &&& 273) = 3 ∨ popN (r &&& 546) = 3 ∨ popN (r &&& 1092) = 3 ∨ popN (r &&& 2184) = 3 then 1 else 0)) = true := by decide +kernel
theorem col2_eq {r : Nat} (hr : r < 4096) : colF r = (if popN (r &&& 273) = 3 ∨ popN (r &&& 546) = 3 ∨ popN (r &&& 1092) = 3 ∨ popN (r &&& 2184) = 3 then 1 else 0) := eq_of_beq (List.all_eq_true.mp col2_A r (List.mem_range.mpr hr))
theorem bit7_A : (List.range 4096).all (fun r => decide (bitN r 7 = 0) == decide (r &&& 128 = 0)) = true := by decide +kernel
theorem bit7 {r : Nat} (hr : r < 4096) : bitN r 7 = 0 ↔ r &&& 128 = 0 := by
  have := List.all_eq_true.mp bit7_A r (List.mem_range.mpr hr)
  simpa using this
/-- what the reference reads out of its text -/
def txV (bb : Nat → Nat) (sz wk L p : Nat) : Int32 := (srL (hB bb sz) (nmI wk L p) 4 0).2.2
def crH (gr : Nat) (ki ma hd : Nat → Nat) (L : Nat) (sd : Nat → Nat) : Nat → Nat := fun p => hd p + sumN (fun q => shN (ki q) (ma q) p L sd) gr
def toH (gr : Nat) (ki ma hd : Nat → Nat) (L : Nat) (sd : Nat → Nat) : Nat := sumN (crH gr ki ma hd L sd) 495
def wnI (a b : Int32) : Int32 := if a = 0 then b else 1
theorem clN_if (v : Int32) : (if 0 ≤ v then (if v ≤ 99 then v else 99) else (0 : Int32)) = nI (clN v) := by
  rw [← clN_eq]
  unfold clI
  have h9 : (99 : Int32).toInt = 99 := rfl
  have h0 : (0 : Int32).toInt = 0 := rfl
  by_cases h2 : v ≤ 99
  · have h3 : ¬ (99 : Int32) < v := fun q => (fa_of_lt q).2.1 h2
    simp only [if_neg h3, if_pos h2]
    by_cases h : 0 ≤ v
    · rw [if_pos h]
      by_cases h4 : 0 < v
      · rw [if_pos h4]
      · rw [if_neg h4]
        rcases fa_three 0 v with e | e | e
        · exact absurd e h4
        · exact e.symm
        · exact absurd h (fa_of_lt e).2.1
    · rw [if_neg h, if_neg (fun q => h (fa_of_lt q).1)]
  · have h3 : (99 : Int32) < v := fa_of_nle h2
    simp only [if_pos h3, if_neg h2]
    rw [if_pos (show (0 : Int32) < 99 by decide), if_pos (show 0 ≤ v by rw [fa_lt, h9] at h3; rw [fa_le, h0]; omega)]
theorem one_clN : (if (1 : Int32) < 0 then (0 : Int32) else (if (1 : Int32) ≤ 99 then 1 else 99)) = nI 1 := by decide
theorem fill_la (gr : Nat) (f nlo : Nat → Nat) : ∀ q, q < gr → fillT gr f nlo q = f q := fun q h => fillT_in _ _ h
theorem updN_acc (nlo : Nat → Nat) (g : Nat) (f : Nat → Nat) (i : Nat) : updN (updN nlo g (sumN f i)) g (sumN f i + f i) = updN nlo g (sumN f (i + 1)) := by
  funext j
  simp only [updN, sumN]
  split <;> rfl
theorem crH_step (gr : Nat) (ki ma hd : Nat → Nat) (L : Nat) (sd : Nat → Nat) (g i : Nat) : updN (fillT i (crH (g + 1) ki ma hd L sd) (crH g ki ma hd L sd)) i ((fillT i (crH (g + 1) ki ma hd L sd) (crH g ki ma hd L sd)) i + shN (ki g) (ma g) i L sd) = fillT (i + 1) (crH (g + 1) ki ma hd L sd) (crH g ki ma hd L sd) := by
  rw [fillT_out _ _ (Nat.lt_irrefl i), ← fillT_updN]
  congr 1
  simp only [crH, sumN]; omega
theorem lo_step (nlo f : Nat → Nat) (g : Nat) : updN (fillT g f nlo) g (f g) = fillT (g + 1) f nlo := fillT_updN g f nlo
def syI (X : RS) (n : Nat) : Int32 := if ¬ (bI X.2.1 = 0) then 1 else (if nI n ≤ nI X.1 then 0 else 1)
