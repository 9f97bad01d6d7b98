def laS (r : Nat) : Nat → Nat := sumN (fun k => if nI (bitN r k) = 0 then 0 else k)
def laL (r : Nat) : Nat → Int32
  | 0 => -1
  | k + 1 => if nI (bitN r k) = 0 then laL r k else if 0 ≤ laL r k then laL r k else nI k
def laG (r : Nat) : Nat → Nat
  | 0 => 0
  | k + 1 => if nI (bitN r k) = 0 then laG r k else k
def laE (r : Nat) : Nat → Nat := sumN (fun k => if nI (bitN r k) = 0 then 0 else if nI k - nI k / 2 * 2 = 0 then 1 else 0)
def laC (r : Nat) : Nat → Nat
  | 0 => 0
  | k + 1 => if nI (laR r (k + 1)) ≤ nI (laC r k) then laC r k else laR r (k + 1)
where laR (r : Nat) : Nat → Nat
  | 0 => 0
  | k + 1 => if nI (bitN r k) = 0 then 0 else laR r k + 1
def laF (fa : Nat → Int32) (p r k : Nat) : Nat → Int32 := fun j => if j = 5 * p then nI (laS r k) else if j = 5 * p + 1 then laL r k else if j = 5 * p + 2 then nI (laG r k) else if j = 5 * p + 3 then nI (laE r k) else if j = 5 * p + 4 then nI (laC r k) else fa j
theorem la_A : rowsL.all (fun r => (laS r 12 == fSr r) && (laL r 12 == nI (nAr r)) && (laG r 12 == nDr r) && (laE r 12 == popN (r &&& 1365)) && (laC r 12 == lngR r 12)) = true := by decide +kernel
theorem laR_le (r : Nat) : ∀ k, laC.laR r k ≤ k
  | 0 => Nat.le_refl _
  | k + 1 => by simp only [laC.laR]; split; omega; have := laR_le r k; omega
theorem laC_le (r : Nat) : ∀ k, laC r k ≤ k
  | 0 => Nat.le_refl _
  | k + 1 => by
    simp only [laC]; split
    · have := laC_le r k; omega
    · exact laR_le r (k + 1)
theorem la_fin {r : Nat} (h1 : r < 4096) (h2 : popN r = 4) (fa : Nat → Int32) (p j : Nat) : laF fa p r 12 j = if 5 * p ≤ j ∧ j < 5 * p + 5 then nI (fcR r (j - 5 * p)) else fa j := by
  have h := List.all_eq_true.mp la_A r (rowsL_mem.mpr ⟨h1, h2⟩)
  simp only [Bool.and_eq_true, beq_iff_eq] at h
  obtain ⟨⟨⟨⟨e0, e1⟩, e2⟩, e3⟩, e4⟩ := h
  unfold laF
  by_cases q0 : j = 5 * p
  · rw [if_pos q0, if_pos (by omega), e0, show j - 5 * p = 0 by omega]; simp [fcR]
  rw [if_neg q0]
  by_cases q1 : j = 5 * p + 1
  · rw [if_pos q1, if_pos (by omega), e1, show j - 5 * p = 1 by omega]; simp [fcR]
  rw [if_neg q1]
  by_cases q2 : j = 5 * p + 2
  · rw [if_pos q2, if_pos (by omega), e2, show j - 5 * p = 2 by omega]; simp [fcR]
  rw [if_neg q2]
  by_cases q3 : j = 5 * p + 3
  · rw [if_pos q3, if_pos (by omega), e3, show j - 5 * p = 3 by omega]; simp [fcR]
  rw [if_neg q3]
  by_cases q4 : j = 5 * p + 4
  · rw [if_pos q4, if_pos (by omega), e4, show j - 5 * p = 4 by omega]; simp [fcR]
  rw [if_neg q4, if_neg (by omega)]
theorem la_step (fa : Nat → Int32) (p r k : Nat) : upd (upd (upd (upd (upd (laF fa p r k) (5 * p) (nI (laS r (k + 1)))) (5 * p + 1) (laL r (k + 1))) (5 * p + 2) (nI (laG r (k + 1)))) (5 * p + 3) (nI (laE r (k + 1)))) (5 * p + 4) (nI (laC r (k + 1))) = laF fa p r (k + 1) := by
  funext j
  simp only [upd, laF]
  by_cases q4 : j = 5 * p + 4
  · subst q4; rw [if_pos rfl, if_neg (by omega), if_neg (by omega), if_neg (by omega), if_neg (by omega), if_pos rfl]
  rw [if_neg q4]
  by_cases q3 : j = 5 * p + 3
  · subst q3; rw [if_pos rfl, if_neg (by omega), if_neg (by omega), if_neg (by omega), if_pos rfl]
  rw [if_neg q3]
  by_cases q2 : j = 5 * p + 2
  · subst q2; rw [if_pos rfl, if_neg (by omega), if_neg (by omega), if_pos rfl]
  rw [if_neg q2]
  by_cases q1 : j = 5 * p + 1
  · subst q1; rw [if_pos rfl, if_neg (by omega), if_pos rfl]
  rw [if_neg q1]
  by_cases q0 : j = 5 * p
  · rw [if_pos q0, if_pos q0]
  simp only [q0, q1, q2, q3, q4, if_false]
theorem la_0 (fa : Nat → Int32) (p r : Nat) (h0 : fa (5 * p) = 0) (h2 : fa (5 * p + 2) = 0) (h3 : fa (5 * p + 3) = 0) (h4 : fa (5 * p + 4) = 0) : upd fa (5 * p + 1) (-1) = laF fa p r 0 := by
  funext j
  simp only [upd, laF]
  by_cases q1 : j = 5 * p + 1
  · rw [if_pos q1, if_neg (by omega), if_pos q1]; rfl
  rw [if_neg q1]
  by_cases q0 : j = 5 * p
  · rw [if_pos q0, q0, h0]; rfl
  rw [if_neg q0, if_neg q1]
  by_cases q2 : j = 5 * p + 2
  · rw [if_pos q2, q2, h2]; rfl
  rw [if_neg q2]
  by_cases q3 : j = 5 * p + 3
  · rw [if_pos q3, q3, h3]; rfl
  rw [if_neg q3]
  by_cases q4 : j = 5 * p + 4
  · rw [if_pos q4, q4, h4]; rfl
  rw [if_neg q4]
def cnR : Nat → Nat := sumN (fun q => if popN q = 4 then 1 else 0)
theorem cn_list (N : Nat) : ((List.range N).filter (fun n => popN n == 4)).length = cnR N := by
  induction N with
  | zero => rfl
  | succ N ih =>
    rw [List.range_succ, List.filter_append, List.length_append, ih]
    show _ = cnR N + (if popN N = 4 then 1 else 0)
    by_cases h : popN N = 4 <;> simp [h]
theorem cn_mono (r : Nat) : ∀ n, cnR r ≤ cnR (r + n)
  | 0 => Nat.le_refl _
  | n + 1 => Nat.le_trans (cn_mono r n) (by show cnR (r + n) ≤ cnR (r + n) + _; exact Nat.le_add_right _ _)
theorem cn_get {r : Nat} (hp : popN r = 4) : ∀ N, r < N → ((List.range N).filter (fun n => popN n == 4)).getD (cnR r) 0 = r
  | 0, h => absurd h (Nat.not_lt_zero _)
  | N + 1, h => by
    rw [List.range_succ, List.filter_append]
    by_cases e : r = N
    · subst e
      rw [List.getD_eq_getElem?_getD, List.getElem?_append_right (by rw [cn_list]; exact Nat.le_refl _), cn_list, Nat.sub_self]
      simp [hp]
    · have h2 := cn_get hp N (by omega)
      have hl : cnR r < ((List.range N).filter (fun n => popN n == 4)).length := by
        rw [cn_list]
        have h3 := cn_mono (r + 1) (N - (r + 1))
        rw [show r + 1 + (N - (r + 1)) = N by omega] at h3
        have h4 : cnR (r + 1) = cnR r + 1 := by show cnR r + (if popN r = 4 then 1 else 0) = _; rw [if_pos hp]
        omega
      rw [List.getD_eq_getElem?_getD, List.getElem?_append_left hl, ← List.getD_eq_getElem?_getD]
      exact h2
theorem cn_row {r : Nat} (h : r < 4096) (hp : popN r = 4) : rowB (cnR r) = r := cn_get hp 4096 h
theorem pl_A : (List.range 495).all (fun p => plB (rowB p) 12 == p) = true := by decide +kernel
theorem cn_495 : cnR 4096 = 495 := by rw [← cn_list]; exact rowsL_len
theorem cn_lt {r : Nat} (h : r < 4096) (hp : popN r = 4) : cnR r < 495 := by
  have h3 := cn_mono (r + 1) (4096 - (r + 1))
  rw [show r + 1 + (4096 - (r + 1)) = 4096 by omega, cn_495] at h3
  have h4 : cnR (r + 1) = cnR r + 1 := by show cnR r + (if popN r = 4 then 1 else 0) = _; rw [if_pos hp]
  omega
theorem cn_pl {r : Nat} (h : r < 4096) (hp : popN r = 4) : plB r 12 = cnR r := by
  have := eq_of_beq (List.all_eq_true.mp pl_A (cnR r) (List.mem_range.mpr (cn_lt h hp)))
  rw [cn_row h hp] at this
  exact this
def plT (w : Nat) : Nat → Int32 := fun j => if 1 ≤ j ∧ j < w then plI j else 0
theorem plT_s {w : Nat} (hw : 1 ≤ w) : upd (plT w) w (plI w) = plT (w + 1) := by
  funext j
  simp only [upd, plT]
  by_cases e : j = w
  · subst e; rw [if_pos rfl, if_pos (by omega)]
  · rw [if_neg e]
    by_cases c : 1 ≤ j ∧ j < w
    · rw [if_pos c, if_pos (by omega)]
    · rw [if_neg c, if_neg (by omega)]
theorem pop_A : (List.range 4096).all (fun n => (popN n == popN (n / 2) + (n &&& 1)) && (nI n >>> ((1 : Int32) &&& 31) == nI (n / 2))) = true := by decide +kernel
theorem pop_h {n : Nat} (h : n < 4096) : popN n = popN (n / 2) + (n &&& 1) ∧ nI n >>> ((1 : Int32) &&& 31) = nI (n / 2) := by
  have := List.all_eq_true.mp pop_A n (List.mem_range.mpr h)
  simp only [Bool.and_eq_true, beq_iff_eq] at this
  exact this
theorem fc_step {w : Nat} (h : w < 4096) (hp : popN w = 4) : (fun j => if 5 * cnR w ≤ j ∧ j < 5 * cnR w + 5 then nI (fcR w (j - 5 * cnR w)) else nIf (fillT (5 * cnR w) fcN (fun _ => 0)) j) = nIf (fillT (5 * cnR (w + 1)) fcN (fun _ => 0)) := by
  funext j
  have h4 : cnR (w + 1) = cnR w + 1 := by show cnR w + (if popN w = 4 then 1 else 0) = _; rw [if_pos hp]
  simp only [nIf, fillT, h4]
  by_cases c : j < 5 * cnR w
  · rw [if_neg (by omega), if_pos c, if_pos (by omega)]
  · by_cases c2 : j < 5 * cnR w + 5
    · rw [if_pos (by omega), if_pos (by omega)]
      unfold fcN
      rw [show j / 5 = cnR w by omega, show j % 5 = j - 5 * cnR w by omega, cn_row h hp]
    · rw [if_neg (by omega), if_neg c, if_neg (by omega)]
theorem s0_A : (List.range 919).all (fun j => upd (upd (upd (upd (upd (upd (fun _ => 0) 2 1) 10 1) 11 50) 12 60) 13 30) 14 10 j == msF 0 0 1 0 0 0 rfN (fun _ => 0) (fun _ => 0) (fun _ => 0) (fun _ => 0) (fun _ => 0) j) = true := by decide +kernel
