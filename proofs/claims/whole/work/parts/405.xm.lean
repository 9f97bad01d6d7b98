theorem hv_w (P : Nat → Bool) (x : Nat × Nat) {W : Nat} (h : x.2 - x.1 ≤ W) : ∀ i, (hvI P x i).2 - (hvI P x i).1 ≤ W / 2 ^ i
  | 0 => by rw [Nat.pow_zero, Nat.div_one]; exact h
  | i + 1 => by
    have ih := hv_w P x h i
    have e : W / 2 ^ (i + 1) = W / 2 ^ i / 2 := by rw [Nat.pow_succ, Nat.div_div_eq_div_mul]
    rw [e]
    generalize W / 2 ^ i = w at ih ⊢
    simp only [hvI, hv1]
    generalize hvI P x i = q at ih ⊢
    split
    · split <;> simp only <;> omega
    · omega
theorem hv_go {P : Nat → Bool} {i : Nat} (hi : i ≤ 32) (h : (hvI P (0, 99999999) i).1 < (hvI P (0, 99999999) i).2) : i + 1 ≤ 32 := by
  rcases (by omega : i < 32 ∨ i = 32) with q | rfl
  · omega
  · have := hv_w P (0, 99999999) (W := 99999999) (by decide) 32
    rw [show 99999999 / 2 ^ 32 = 0 from by decide] at this
    omega
theorem hv_end1 {P : Nat → Bool} {x : Nat × Nat} {i : Nat} (h : ¬ (hvI P x i).1 < (hvI P x i).2) (hi : i ≤ 32) : (hvI P x i).1 = (hvI P x 32).1 := by
  have := hvI_fix P x h (32 - i)
  rw [show i + (32 - i) = 32 by omega] at this
  rw [this]
def liP (ru : Nat → Nat) (tot : Nat) (cr : Nat → Nat) (p : Nat) : Nat → Bool := fun m => decide (woR ru (potL ru (nI m).toInt64 (nI tot).toInt64) cr p < nI (ru 0))
def liR (ru : Nat → Nat) (tot : Nat) (cr : Nat → Nat) (p : Nat) : Nat := (hvI (liP ru tot cr p) (0, 99999999) 32).1
theorem li_lo {P : Nat → Bool} {c : Prop} [Decidable c] {x : Nat × Nat} {i : Nat} (hlt : (hvI P x i).1 < (hvI P x i).2) (hc : P (((hvI P x i).1 + (hvI P x i).2) / 2) = decide c) : (if c then ((hvI P x i).1 + (hvI P x i).2) / 2 + 1 else (hvI P x i).1) = (hvI P x (i + 1)).1 := hv_lo hlt hc
def bsR (W : Nat → Int32) : Nat → Nat
  | 0 => 0
  | i + 1 => if W i ≤ W (bsR W i) then bsR W i else i
theorem bsR_lt (W : Nat → Int32) : ∀ {i N : Nat}, 0 < N → i ≤ N → bsR W i < N
  | 0, N, h, _ => h
  | i + 1, N, h, h2 => by
    have ih := bsR_lt W h (show i ≤ N by omega)
    simp only [bsR]; split
    · exact ih
    · omega
theorem bs_most (W : Nat → Int32) (i : Nat) : (if W i ≤ W (bsR W i) then W (bsR W i) else W i) = W (bsR W (i + 1)) := by
  simp only [bsR]; split <;> rfl
/-- the rarest of the untaken: 495: none -/
def raN (nis : Nat → Int32) (tr : Nat → Nat) : Nat → Nat
  | 0 => 495
  | i + 1 => if nis i = 0 ∧ (¬ raN nis tr i < 495 ∨ tr i < tr (raN nis tr i)) then i else raN nis tr i
theorem raN_le (nis : Nat → Int32) (tr : Nat → Nat) : ∀ i, i ≤ 495 → raN nis tr i ≤ 495
  | 0, _ => Nat.le_refl _
  | i + 1, h => by
    simp only [raN]; split
    · omega
    · exact raN_le nis tr i (by omega)
def rbI (b : Nat) : Int32 := if b < 495 then nI b else -1
theorem ra_t1 {nis : Nat → Int32} {tr : Nat → Nat} {i : Nat} (h : nis i = 0) (hb : ¬ raN nis tr i < 495) (hi : i < 495) : nI i = rbI (raN nis tr (i + 1)) := by rw [raN, if_pos ⟨h, Or.inl hb⟩, rbI, if_pos hi]
theorem ra_t2 {nis : Nat → Int32} {tr : Nat → Nat} {i : Nat} (h : nis i = 0) (hb : tr i < tr (raN nis tr i)) (hi : i < 495) : nI i = rbI (raN nis tr (i + 1)) := by rw [raN, if_pos ⟨h, Or.inr hb⟩, rbI, if_pos hi]
theorem ra_k1 {nis : Nat → Int32} {tr : Nat → Nat} {i : Nat} (h : ¬ nis i = 0) : rbI (raN nis tr i) = rbI (raN nis tr (i + 1)) := by rw [raN, if_neg (fun q => h q.1)]
theorem ra_k2 {nis : Nat → Int32} {tr : Nat → Nat} {i : Nat} (hb : raN nis tr i < 495) (hl : ¬ tr i < tr (raN nis tr i)) : nI (raN nis tr i) = rbI (raN nis tr (i + 1)) := by rw [raN, if_neg (fun q => q.2.elim (fun z => z hb) hl), rbI, if_pos hb]
theorem dec_if (C : Prop) [Decidable C] : decide C = decide ((if C then (0 : Int32) else 1) = 0) := by by_cases h : C <;> simp [h]
theorem raN_has (nis : Nat → Int32) (tr : Nat → Nat) : ∀ n, n ≤ 495 → (∃ i, i < n ∧ nis i = 0) → raN nis tr n < 495
  | 0, _, ⟨i, h, _⟩ => absurd h (Nat.not_lt_zero _)
  | n + 1, hn, ⟨i, h, hz⟩ => by
    simp only [raN]
    split
    · omega
    next q =>
      by_cases e : i = n
      · subst e
        rcases Nat.lt_or_ge (raN nis tr i) 495 with r | r
        · exact r
        · exact absurd ⟨hz, Or.inl (by omega)⟩ q
      · exact raN_has nis tr n (by omega) ⟨i, by omega, hz⟩
theorem raN_ls (tr : Nat → Nat) (ht : ∀ p, tr p < 2 ^ 31) : ∀ n, n ≤ 495 → 0 < n → raN (fun _ => 0) tr n = lsT tr n
  | 0, _, h => absurd h (Nat.lt_irrefl _)
  | 1, _, _ => by
    have e : raN (fun _ => 0) tr 1 = 0 := by
      simp only [raN]
      rw [if_pos ⟨trivial, Or.inl (by decide)⟩]
    rw [e]
    simp [lsT]
  | n + 2, hn, _ => by
    have ih := raN_ls tr ht (n + 1) (by omega) (by omega)
    have hl := lsT_lt tr (i := n + 1) (N := 495) (by decide) (by omega)
    rw [raN, ih, show lsT tr (n + 2) = if nI (tr (lsT tr (n + 1))) ≤ nI (tr (n + 1)) then lsT tr (n + 1) else n + 1 from rfl]
    generalize lsT tr (n + 1) = b at hl ⊢
    have h1 : nI (tr b) ≤ nI (tr (n + 1)) ↔ tr b ≤ tr (n + 1) := nI_leI (ht _) (ht _)
    by_cases q : tr b ≤ tr (n + 1)
    · rw [if_pos (h1.mpr q), if_neg]
      intro z
      rcases z.2 with z | z <;> omega
    · rw [if_neg (mt h1.mp q), if_pos ⟨rfl, Or.inr (by omega)⟩]
theorem skT_le (cr : Nat → Nat) {B : Nat} (h : ∀ p, cr p ≤ B) : ∀ i p, skT cr i p ≤ B + i
  | 0, p => h p
  | i + 1, p => by
    have ih := skT_le cr h i
    simp only [skT, updN]
    split
    · have := ih (lsT (skT cr i) 495); omega
    · have := ih p; omega
theorem ra_sk (cr : Nat → Nat) (h : ∀ p, cr p ≤ 2 ^ 30) {i : Nat} (hi : i ≤ 200) : rbI (raN (fun _ => 0) (skT cr i) 495) = nI (lsT (skT cr i) 495) := by
  rw [raN_ls _ (fun p => by have := skT_le cr h i p; omega) 495 (Nat.le_refl _) (by decide), rbI, if_pos (lsT_lt _ (by decide) (Nat.le_refl _))]
