def wiF (cr : Nat → Nat) : Nat → Nat := fun j => winN cr (rowB (j / 3)) (j % 3 + 2)
/-- the winners by draws, the first places taken in at draw d -/
def wiT (cr old : Nat → Nat) (d i : Nat) : Nat → Nat := fun j => if j < 3 * d then wiF cr j else if j < 3 * d + 3 then winT cr (rowB d) i (j % 3 + 2) else old j
theorem wiT_0 (cr old : Nat → Nat) (d : Nat) : updN (updN (updN (fillT (3 * d) (wiF cr) old) (3 * d + 0) 0) (3 * d + 1) 0) (3 * d + 2) 0 = wiT cr old d 0 := by
  funext j
  simp only [updN, wiT, fillT]
  by_cases h2 : j = 3 * d + 2
  · subst h2; rw [if_pos rfl, if_neg (by omega), if_pos (by omega)]; simp [winT, sumN]
  · rw [if_neg h2]
    by_cases h1 : j = 3 * d + 1
    · subst h1; rw [if_pos rfl, if_neg (by omega), if_pos (by omega)]; simp [winT, sumN]
    · rw [if_neg h1]
      by_cases h0 : j = 3 * d + 0
      · subst h0; rw [if_pos rfl, if_neg (by omega), if_pos (by omega)]; simp [winT, sumN]
      · rw [if_neg h0]
        by_cases h3 : j < 3 * d
        · rw [if_pos h3, if_pos h3]
        · rw [if_neg h3, if_neg h3, if_neg (by omega)]
theorem wiT_step (cr old : Nat → Nat) (d i : Nat) {k : Nat} (hk : popN (rowB i &&& rowB d) = k) (h1 : 1 < k) (h4 : k ≤ 4) : updN (wiT cr old d i) (3 * d + k - 2) (wiT cr old d i (3 * d + k - 2) + cr i) = wiT cr old d (i + 1) := by
  funext j
  have hm : (3 * d + k - 2) % 3 + 2 = k := by omega
  by_cases e : j = 3 * d + k - 2
  · subst e
    rw [updN_self]
    simp only [wiT]
    rw [if_neg (by omega), if_pos (by omega), if_neg (by omega), if_pos (by omega), hm]
    simp [winT, sumN, hk, h4]
  · rw [updN_ne _ _ e]
    simp only [wiT]
    by_cases h3 : j < 3 * d
    · rw [if_pos h3, if_pos h3]
    · rw [if_neg h3, if_neg h3]
      by_cases h5 : j < 3 * d + 3
      · rw [if_pos h5, if_pos h5]
        simp only [winT, sumN, hk]
        rw [if_neg (show ¬ k = j % 3 + 2 by omega)]; rfl
      · rw [if_neg h5, if_neg h5]
theorem wiT_skip (cr old : Nat → Nat) (d i : Nat) (h1 : ¬ 1 < popN (rowB i &&& rowB d)) : wiT cr old d i = wiT cr old d (i + 1) := by
  funext j
  simp only [wiT]
  by_cases h3 : j < 3 * d
  · rw [if_pos h3, if_pos h3]
  · rw [if_neg h3, if_neg h3]
    by_cases h5 : j < 3 * d + 3
    · rw [if_pos h5, if_pos h5]
      simp only [winT, sumN]
      rw [if_neg (show ¬ popN (rowB i &&& rowB d) = j % 3 + 2 by omega)]; rfl
    · rw [if_neg h5, if_neg h5]
theorem wiT_end (cr old : Nat → Nat) (d : Nat) : wiT cr old d 495 = fillT (3 * (d + 1)) (wiF cr) old := by
  funext j
  simp only [wiT, fillT, wiF]
  by_cases h3 : j < 3 * d
  · rw [if_pos h3, if_pos (by omega)]
  · rw [if_neg h3]
    by_cases h5 : j < 3 * d + 3
    · rw [if_pos h5, if_pos (by omega), show j / 3 = d by omega]; rfl
    · rw [if_neg h5, if_neg (by omega)]
theorem and_pop4_A : rowsL.all (fun a => (List.range 12).all (fun _ => decide (popN a = 4))) = true := by decide +kernel
def txR (ru : Nat → Nat) (v : Int64) : Int64 := if lg_cmp v (nI (ru 6)).toInt64 ≤ 0 then v else v - (v - (nI (ru 6)).toInt64) * (nI (ru 5)).toInt64 / 100
/-- what a cross of the place gets over all draws, as the reference adds it -/
def gaR (ru : Nat → Nat) (pot : Int64) (cr : Nat → Nat) (p : Nat) : Nat → Int64 := sumL (fun d => if popN (rowB p &&& rowB d) ≤ 1 then 0 else txR ru (partL ru (popN (rowB p &&& rowB d)) pot / (nI (winN cr (rowB d) (popN (rowB p &&& rowB d)) + 1)).toInt64))
def woR (ru : Nat → Nat) (pot : Int64) (cr : Nat → Nat) (p : Nat) : Int32 := (gaR ru pot cr p 495 / 495).toInt32
theorem wiF_at (cr : Nat → Nat) (d : Nat) {k : Nat} (h1 : 1 < k) (h4 : k ≤ 4) : wiF cr (3 * d + k - 2) = winN cr (rowB d) k := by
  unfold wiF
  rw [show (3 * d + k - 2) / 3 = d by omega, show (3 * d + k - 2) % 3 + 2 = k by omega]
theorem winN_le (cr : Nat → Nat) (d r : Nat) : winN cr d r ≤ sumN cr 495 := by
  unfold winN winT
  split
  · have : ∀ n, sumN (fun p => if popN (rowB p &&& d) = r then cr p else 0) n ≤ sumN cr n := by
      intro n
      induction n with
      | zero => exact Nat.le_refl _
      | succ n ih => simp only [sumN]; split <;> omega
    exact this 495
  · exact Nat.zero_le _
theorem and4 {p d : Nat} (hp : p < 495) : popN (rowB p &&& rowB d) ≤ 4 := by
  have h : ∀ a b : Nat, popN (a &&& b) ≤ popN a := by
    intro a b
    have key : ∀ k, (a &&& b) / 2 ^ k % 2 ≤ a / 2 ^ k % 2 := by
      intro k
      have h1 := Nat.testBit_and a b k
      rw [Nat.testBit_eq_decide_div_mod_eq, Nat.testBit_eq_decide_div_mod_eq] at h1
      have h2 := Nat.mod_lt ((a &&& b) / 2 ^ k) (show 0 < 2 by decide)
      by_cases c : (a &&& b) / 2 ^ k % 2 = 1
      · rw [decide_eq_true c] at h1
        have h3 : decide (a / 2 ^ k % 2 = 1) = true := by
          cases q : decide (a / 2 ^ k % 2 = 1)
          · rw [q] at h1; simp at h1
          · rfl
        have := of_decide_eq_true h3
        omega
      · omega
    have e := fun k => key k
    have e0 := e 0; have e1 := e 1; have e2 := e 2; have e3 := e 3; have e4 := e 4; have e5 := e 5; have e6 := e 6; have e7 := e 7; have e8 := e 8; have e9 := e 9; have e10 := e 10; have e11 := e 11
    simp only [Nat.reducePow, Nat.div_one] at e0 e1 e2 e3 e4 e5 e6 e7 e8 e9 e10 e11
    unfold popN
    omega
  have := h (rowB p) (rowB d)
  rw [rowB_pop hp] at this
  exact this
def clR (x : Int64) : Int64 := if 0 ≤ lg_cmp x 0 then (if lg_cmp x 99999999 ≤ 0 then x else 99999999) else 0
theorem clR_eq (x : Int64) : clR x = clampP x := by
  unfold clR clampP
  have h0 : (0 : Int64).toInt = 0 := rfl
  have h9 : (99999999 : Int64).toInt = 99999999 := rfl
  have g0 : 0 ≤ lg_cmp x 0 ↔ ¬ x < 0 := by
    unfold lg_cmp
    by_cases a : x > 0
    · rw [if_pos a]; rw [gt_iff_lt, fa_lt64, h0] at a; exact ⟨fun _ q => by rw [fa_lt64, h0] at q; omega, fun _ => by decide⟩
    · rw [if_neg a]
      by_cases b : x = 0
      · subst b; exact ⟨fun _ => by decide, fun _ => by decide⟩
      · rw [if_neg b]
        refine ⟨fun q => absurd q (by decide), fun q => ?_⟩
        exfalso
        rw [gt_iff_lt, fa_lt64, h0] at a; rw [fa_lt64, h0] at q; rw [fa_eq64, h0] at b; omega
  have g9 : lg_cmp x 99999999 ≤ 0 ↔ ¬ 99999999 < x := by
    unfold lg_cmp
    by_cases a : x > 99999999
    · rw [if_pos a]; exact ⟨fun q => absurd q (by decide), fun q => absurd a q⟩
    · rw [if_neg a]
      refine ⟨fun _ => a, fun _ => ?_⟩
      split <;> decide
  by_cases c : x < 0
  · rw [if_neg (fun q => (g0.mp q) c), if_neg (show ¬ (0 : Int64) < x from fun q => by rw [fa_lt64, h0] at c q; omega), if_neg (by decide)]
  · rw [if_pos (g0.mpr c)]
    by_cases z : (0 : Int64) < x
    · simp only [if_pos z]
      by_cases d : 99999999 < x
      · rw [if_pos d, if_neg (fun q => (g9.mp q) d)]
      · rw [if_neg d, if_pos (g9.mpr d)]
    · simp only [if_neg z]
      have e : x = 0 := by rw [fa_lt64, h0] at c z; rw [fa_eq64, h0]; omega
      subst e; decide
theorem clR_pot (x : Int64) : (clR x).toInt32 = nI (potE x) := by rw [clR_eq]; exact potE_eq x
theorem cells_eq (ce : Nat → Int32) (wk d a4 a3 a2 : Nat) (e4 e3 e2 : Int32) (pt : Nat) : upd (upd (upd (upd (upd (upd (upd (upd ce (8 * wk) (nI d)) (8 * wk + 5 - 4) (nI a4)) (8 * wk + 8 - 4) e4) (8 * wk + 5 - 3) (nI a3)) (8 * wk + 8 - 3) e3) (8 * wk + 5 - 2) (nI a2)) (8 * wk + 8 - 2) e2) (8 * wk + 7) (nI pt) =
    upd (upd (upd (upd (upd (upd (upd (upd ce (wk * 8 + 5 - 4) (nI a4)) (wk * 8 + 8 - 4) e4) (wk * 8 + 5 - 3) (nI a3)) (wk * 8 + 8 - 3) e3) (wk * 8 + 5 - 2) (nI a2)) (wk * 8 + 8 - 2) e2) (wk * 8) (nI d)) (wk * 8 + 7) (nI pt) := by
  funext j
  simp only [upd]
  rw [show wk * 8 = 8 * wk from Nat.mul_comm _ _]
  by_cases h7 : j = 8 * wk + 7
  · rw [if_pos h7, if_pos h7]
  rw [if_neg h7, if_neg h7]
  by_cases h0 : j = 8 * wk
  · subst h0
    rw [if_neg (by omega), if_neg (by omega), if_neg (by omega), if_neg (by omega), if_neg (by omega), if_neg (by omega), if_pos rfl, if_pos rfl]
  · rw [if_neg h0, if_neg h0]
theorem each_if (w : Nat) (hw : w < 2 ^ 31) (part : Int64) : (if nI w = 0 then (0 : Int64) else part / (nI w).toInt64) = eachL w part := by
  unfold eachL
  have h1 := nI_le0 hw
  have h2 := nI_eq0 hw
  by_cases q : w = 0
  · rw [if_pos (h2.mpr q), if_pos (h1.mpr q)]
  · rw [if_neg (mt h2.mp q), if_neg (mt h1.mp q)]
