/-- the taken rows behind k picks -/
def tkS (cr : Nat → Nat) : Nat → Nat → Int32
  | 0 => fun _ => 0
  | k + 1 => upd (tkS cr k) (raN (tkS cr k) cr 495) 1
def pkN (cr : Nat → Nat) (k : Nat) : Nat := raN (tkS cr k) cr 495
theorem tkS_01 (cr : Nat → Nat) : ∀ k p, tkS cr k p = 0 ∨ tkS cr k p = 1
  | 0, p => Or.inl rfl
  | k + 1, p => by
    simp only [tkS, upd]; split
    · exact Or.inr rfl
    · exact tkS_01 cr k p
theorem tkS_ct (cr : Nat → Nat) : ∀ k, fb_ct (fun p => tkS cr k p == 1) 495 ≤ k
  | 0 => by
    rw [(fb_ct_zero (p := fun p => tkS cr 0 p == 1) (n := 495)).mpr (fun _ _ => rfl)]
    exact Nat.zero_le 0
  | k + 1 => by
    have ih := tkS_ct cr k
    have e : fb_ct (fun p => tkS cr (k + 1) p == 1) 495 = fb_ct (fun p => if p = raN (tkS cr k) cr 495 then true else (tkS cr k p == 1)) 495 := fb_ct_cong (fun p _ => by
      simp only [tkS, upd]; split <;> simp)
    rw [e]
    rcases Nat.lt_or_ge (raN (tkS cr k) cr 495) 495 with h | h
    · exact Nat.le_trans (Nat.le.intro (fb_ct_upd (fun p => tkS cr k p == 1) true h)) (Nat.succ_le_succ ih)
    · rw [fb_ct_out (fun p => tkS cr k p == 1) true h]; omega
theorem pkN_lt (cr : Nat → Nat) {k : Nat} (hk : k < 495) : pkN cr k < 495 := by
  unfold pkN
  refine raN_has _ _ 495 (Nat.le_refl _) ?_
  have h1 := tkS_ct cr k
  have h2 : ¬ fb_ct (fun p => tkS cr k p == 1) 495 = 495 := by omega
  rw [fb_ct_all] at h2
  have h3 : ∃ i, i < 495 ∧ ¬ ((tkS cr k i == 1) = true) := by
    apply Classical.byContradiction
    intro q
    exact h2 (fun i hi => Classical.byContradiction fun z => q ⟨i, hi, z⟩)
  obtain ⟨i, hi, hz⟩ := h3
  refine ⟨i, hi, (tkS_01 cr k i).resolve_right (fun e => hz (by rw [e]; rfl))⟩
/-- how many of the bought rows have r in common with the row d -/
def ownN (cr : Nat → Nat) (d n : Nat) : Nat → Nat := fun r => sumN (fun k => if popN (rowB (pkN cr k) &&& rowB d) = r then 1 else 0) n
theorem own_0 (cr : Nat → Nat) (d : Nat) (o : Nat → Nat) {j : Nat} (h : j < 5) : updN (updN (updN (updN (updN o 0 0) 1 0) 2 0) 3 0) 4 0 j = ownN cr d 0 j := by
  rcases (by omega : j = 0 ∨ j = 1 ∨ j = 2 ∨ j = 3 ∨ j = 4) with rfl | rfl | rfl | rfl | rfl <;> rfl
theorem own_s (cr : Nat → Nat) (d k : Nat) : updN (ownN cr d k) (popN (rowB (pkN cr k) &&& rowB d)) (ownN cr d k (popN (rowB (pkN cr k) &&& rowB d)) + 1) = ownN cr d (k + 1) := by
  funext r
  by_cases e : r = popN (rowB (pkN cr k) &&& rowB d)
  · subst e; simp [updN, ownN, sumN]
  · rw [updN_ne _ _ e]; simp [ownN, sumN, if_neg (fun q => e q.symm : ¬ popN (rowB (pkN cr k) &&& rowB d) = r)]
theorem own_le (cr : Nat → Nat) (d n r : Nat) : ownN cr d n r ≤ n := by
  have h : ownN cr d n r ≤ n * 1 := sumN_le (fun k _ => by show (if _ then 1 else 0) ≤ 1; split <;> omega)
  omega
theorem ho_if (o : Nat) (h : o < 2 ^ 31) (X : Int64) : (if nI o = 0 then (0 : Int64) else X) = if o = 0 then 0 else X := by
  have h2 := nI_eq0 h
  by_cases q : o = 0
  · rw [if_pos (h2.mpr q), if_pos q]
  · rw [if_neg (mt h2.mp q), if_neg q]
def hoT (ru : Nat → Nat) (pot : Int64) (cr : Nat → Nat) (n d r : Nat) : Int64 := if ownN cr d n r = 0 then 0 else (nI (ownN cr d n r)).toInt64 * txR ru (partL ru r pot / (nI (winN cr (rowB d) r + ownN cr d n r)).toInt64)
def hoS (ru : Nat → Nat) (pot : Int64) (cr : Nat → Nat) (n : Nat) : Nat → Int64
  | 0 => 0
  | d + 1 => hoS ru pot cr n d + hoT ru pot cr n d 2 + hoT ru pot cr n d 3 + hoT ru pot cr n d 4
theorem and4' {p q : Nat} (hp : p < 495) : popN (rowB p &&& rowB q) ≤ 4 := and4 hp
def byN (x : Int32) (k : Nat) : Nat := ((x >>> (nI k &&& 31)) &&& 255).toInt.toNat
theorem byN_eq (x : Int32) (k : Nat) : (x >>> (nI k &&& 31)) &&& 255 = nI (byN x k) ∧ byN x k < 256 := by
  obtain ⟨j, hj, e⟩ := pk_andE (x >>> (nI k &&& 31)) (m := 255) 8 (by decide)
  have h2 : j < 256 := by omega
  unfold byN
  rw [show ((255 : Int32)) = nI 255 from rfl] at *
  rw [e, nI_toInt (by omega)]
  exact ⟨by simp, by simpa using h2⟩
/-- n numbers moved -/
def cpR (nn : Nat → Int64) (a b n : Nat) : Nat → Int64 := fun j => if b ≤ j ∧ j < b + n then nn (a + (j - b)) else nn j
theorem cpR_0 (nn : Nat → Int64) (a b : Nat) : cpR nn a b 0 = nn := by funext j; simp only [cpR]; rw [if_neg (by omega)]
theorem cpR_f (nn : Nat → Int64) {a b k : Nat} (h : ¬ a < b) : vp_updL (cpR nn a b k) (b + k) (cpR nn a b k (a + k)) = cpR nn a b (k + 1) := by
  funext j
  simp only [vp_updL, cpR]
  by_cases e : j = b + k
  · subst e
    rw [if_pos rfl, if_neg (by omega), if_pos (by omega)]; congr 1; omega
  · rw [if_neg e]
    by_cases c : b ≤ j ∧ j < b + k
    · rw [if_pos c, if_pos (by omega)]
    · rw [if_neg c, if_neg (by omega)]
/-- the last k of n moved -/
def cpB (nn : Nat → Int64) (a b n k : Nat) : Nat → Int64 := fun j => if b + n - k ≤ j ∧ j < b + n then nn (a + (j - b)) else nn j
theorem cpB_0 (nn : Nat → Int64) (a b n : Nat) : cpB nn a b n 0 = nn := by funext j; simp only [cpB]; rw [if_neg (by omega)]
theorem cpB_n (nn : Nat → Int64) (a b n : Nat) : cpB nn a b n n = cpR nn a b n := by funext j; simp only [cpB, cpR]; rw [Nat.add_sub_cancel]
theorem cpB_s (nn : Nat → Int64) {a b n k : Nat} (h : a < b) (hk : k < n) : vp_updL (cpB nn a b n k) (b + (n - 1 - k)) (cpB nn a b n k (a + (n - 1 - k))) = cpB nn a b n (k + 1) := by
  funext j
  simp only [vp_updL, cpB]
  by_cases e : j = b + (n - 1 - k)
  · subst e
    rw [if_pos rfl, if_neg (by omega), if_pos (by omega)]; congr 1; omega
  · rw [if_neg e]
    by_cases c : b + n - k ≤ j ∧ j < b + n
    · rw [if_pos c, if_pos (by omega)]
    · rw [if_neg c, if_neg (by omega)]
theorem zeroL (nn : Nat → Int64) (s : Nat) : ∀ i, vp_updL (fun j => if 40 * s ≤ j ∧ j < 40 * s + i then 0 else nn j) (40 * s + i) 0 = fun j => if 40 * s ≤ j ∧ j < 40 * s + (i + 1) then 0 else nn j := by
  intro i
  funext j
  simp only [vp_updL]
  by_cases e : j = 40 * s + i
  · subst e; rw [if_pos rfl, if_pos (by omega)]
  · rw [if_neg e]
    by_cases c : 40 * s ≤ j ∧ j < 40 * s + i
    · rw [if_pos c, if_pos (by omega)]
    · rw [if_neg c, if_neg (by omega)]
def narR (b : Int32) (v : Int64) : Int64 := if b = 8 then v.toInt32.toInt8.toInt32.toInt64 else if b = 16 then v.toInt32.toInt16.toInt32.toInt64 else v
theorem sh_eq (p : Int32) : (if p < 0 then (0 : Int32) else (if 4 ≤ p then 0 else 1)) = wI p 0 3 := by
  unfold wI
  have h : (4 : Int32) ≤ p ↔ 3 < p := by
    rw [fa_le, fa_lt, show (4 : Int32).toInt = 4 from rfl, show (3 : Int32).toInt = 3 from rfl]; omega
  simp only [h]
theorem hdI_no {sz : Nat} {f n : Int32} (h : hdI sz f n = 0) (hz : sz ≤ 40) (h1 : ¬ f < 0) (h2 : ¬ n < 0) : nI sz - f < n := by
  unfold hdI at h
  rw [if_neg h1, if_neg h2] at h
  obtain ⟨a, ha, rfl⟩ := nI_of h1
  obtain ⟨c, hc, rfl⟩ := nI_of h2
  split at h
  next q =>
    have hlt := (nI_ltI (by omega) ha).mp q
    have e : (nI sz - nI a).toInt = (sz : Int) - a := by
      rw [fb_subI] <;> rw [nI_toInt (by omega), nI_toInt (by omega)] <;> omega
    rw [fa_lt, e, nI_toInt hc]; omega
  next q =>
    split at h
    next q2 => exact q2
    · exact absurd h (by decide)
def rdBn (nu : Nat → Int64) (ce : Nat → Int32) (wk s : Nat) : Nat → Bool := fun i => decide (wk ≤ i) || !decide (nu (40 * s + i) = (ce (8 * i + 3)).toInt64)
def rdNn (nu : Nat → Int64) (ce : Nat → Int32) (wk s n : Nat) : Nat := if fa_first (rdBn nu ce wk s) n < n then fa_first (rdBn nu ce wk s) n + 1 else 0
theorem rdNn_hit {nu : Nat → Int64} {ce : Nat → Int32} {wk s n i : Nat} (h : i < n) (h1 : ∀ k, k < i → rdBn nu ce wk s k = false) (h2 : rdBn nu ce wk s i = true) : rdNn nu ce wk s n = i + 1 := by
  unfold rdNn
  rw [fstEq h h1 h2, if_pos h]
theorem rdNn_no {nu : Nat → Int64} {ce : Nat → Int32} {wk s n : Nat} (h1 : ∀ k, k < n → rdBn nu ce wk s k = false) : rdNn nu ce wk s n = 0 := by
  unfold rdNn
  rw [fstNone h1, if_neg (Nat.lt_irrefl n)]
