theorem msF_kept {gr wk lk sz br : Nat} {z : Int32} {ru ki ma bb hd : Nat → Nat} {ce : Nat → Int32} : True := trivial
def rtwN (ce : Nat → Int32) (dr : Nat → Nat) (n wk : Nat) (fl : Nat) : Int32 := sumI (fun w => if bitN (dr w) n = fl then ce (8 * w + 3) else 0) wk
theorem add_if0 (x y : Int32) (c : Prop) [Decidable c] : (if c then x + 0 else x + y) = x + (if c then 0 else y) := by split <;> simp
/-- the first without a cross, from below; how many -/
def ahA (cr : Nat → Nat) : Nat → Int32
  | 0 => -1
  | i + 1 => if cr i = 0 then (if 0 ≤ ahA cr i then ahA cr i else nI i) else ahA cr i
theorem hd_zero {gr wk lk sz br j : Nat} {z : Int32} {ru ki ma bb hd : Nat → Nat} {ce : Nat → Int32} (hj : j < 919) : msF gr wk z lk sz br ru ki ma bb ce (fillT 495 (fun _ => 0) hd) j = msF gr wk z lk sz br ru ki ma bb ce (fun _ => 0) j := by
  rw [msp_hd, msp_hd (hd := fun _ => 0)]
  split
  · rw [fillT_in _ _ (by omega)]
  · rfl
def drmR (dr : Nat → Nat) (wk : Nat) : Nat → Int64 := sumL (fun n => (12 * (nI (sumN (fun w => bitN (dr w) n) wk)).toInt64 - 4 * (nI wk).toInt64) * (12 * (nI (sumN (fun w => bitN (dr w) n) wk)).toInt64 - 4 * (nI wk).toInt64))
theorem rtw_1 (ce : Nat → Int32) (dr : Nat → Nat) (n i : Nat) : rtwN ce dr n i 1 + (if nI (bitN (dr i) n) = 0 then 0 else ce (8 * i + 3)) = rtwN ce dr n (i + 1) 1 := by
  simp only [rtwN, sumI, bitI0]
  have := bitN_lt (dr i) n
  by_cases h : bitN (dr i) n = 0
  · rw [if_pos h, if_neg (by omega)]
  · rw [if_neg h, if_pos (by omega)]
theorem rtw_0 (ce : Nat → Int32) (dr : Nat → Nat) (n i : Nat) : rtwN ce dr n i 0 + (if nI (bitN (dr i) n) = 0 then ce (8 * i + 3) else 0) = rtwN ce dr n (i + 1) 0 := by
  simp only [rtwN, sumI, bitI0]
