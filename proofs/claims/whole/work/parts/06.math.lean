/-! numbers: rows of bits, places -/
def nIf (f : Nat → Nat) : Nat → Int32 := fun j => nI (f j)
def updN (f : Nat → Nat) (k x : Nat) : Nat → Nat := fun j => if j = k then x else f j
theorem upd_nIf (f : Nat → Nat) (k x : Nat) : upd (nIf f) k (nI x) = nIf (updN f k x) := by
  funext j; simp only [upd, nIf, updN]; split <;> rfl
theorem updN_self (f : Nat → Nat) (k x : Nat) : updN f k x k = x := by simp [updN]
theorem updN_ne (f : Nat → Nat) {k j : Nat} (x : Nat) (h : j ≠ k) : updN f k x j = f j := by simp [updN, h]
theorem fillT_updN (n : Nat) (F G : Nat → Nat) : updN (fillT n F G) n (F n) = fillT (n + 1) F G := by
  funext j
  simp only [updN, fillT]
  by_cases h : j = n
  · subst h; simp
  · simp only [h, if_false]
    by_cases h2 : j < n
    · simp [h2, Nat.lt_succ_of_lt h2]
    · have : ¬ j < n + 1 := by omega
      simp [h2, this]
theorem fillT_in {α : Type} {n j : Nat} (F G : Nat → α) (h : j < n) : fillT n F G j = F j := by simp [fillT, h]
theorem fillT_out {α : Type} {n j : Nat} (F G : Nat → α) (h : ¬ j < n) : fillT n F G j = G j := by simp [fillT, h]
def sumN (f : Nat → Nat) : Nat → Nat
  | 0 => 0
  | n + 1 => sumN f n + f n
theorem sumN_le {f : Nat → Nat} {c : Nat} : ∀ {n : Nat}, (∀ k, k < n → f k ≤ c) → sumN f n ≤ n * c
  | 0, _ => by simp [sumN]
  | n + 1, h => by
    have h1 := sumN_le (f := f) (c := c) (n := n) (fun k hk => h k (by omega))
    have h2 := h n (by omega)
    simp only [sumN, Nat.succ_mul]; omega
theorem sumN_cong {f g : Nat → Nat} : ∀ {n : Nat}, (∀ k, k < n → f k = g k) → sumN f n = sumN g n
  | 0, _ => rfl
  | n + 1, h => by simp only [sumN, sumN_cong (n := n) (fun k hk => h k (by omega)), h n (by omega)]
theorem sumI_cong {f g : Nat → Int32} : ∀ {n : Nat}, (∀ k, k < n → f k = g k) → sumI f n = sumI g n
  | 0, _ => rfl
  | n + 1, h => by simp only [sumI, sumI_cong (n := n) (fun k hk => h k (by omega)), h n (by omega)]
theorem sumL_cong {f g : Nat → Int64} : ∀ {n : Nat}, (∀ k, k < n → f k = g k) → sumL f n = sumL g n
  | 0, _ => rfl
  | n + 1, h => by simp only [sumL, sumL_cong (n := n) (fun k hk => h k (by omega)), h n (by omega)]
theorem sumI_nI (f : Nat → Nat) : ∀ n, sumI (fun k => nI (f k)) n = nI (sumN f n)
  | 0 => rfl
  | n + 1 => by simp only [sumI, sumN, sumI_nI f n, nI_add]
theorem nI_le0 {n : Nat} (h : n < 2 ^ 31) : nI n ≤ 0 ↔ n = 0 := by
  have := nI_leI (a := n) (b := 0) h (by decide)
  constructor
  · intro q; have := this.mp q; omega
  · intro q; exact this.mpr (by omega)
theorem nI_lt0 {n : Nat} (h : n < 2 ^ 31) : ¬ nI n < 0 := nI_pos h
theorem nI_eq0 {n : Nat} (h : n < 2 ^ 31) : nI n = 0 ↔ n = 0 := nI_eq (a := n) (b := 0) h (by decide)
theorem nI_idiv {a b : Nat} (ha : a < 2 ^ 31) (hb : b < 2 ^ 31) : nI a / nI b = nI (a / b) := by
  apply Int32.toInt_inj.mp
  have h1 := nI_toInt ha
  have h2 := nI_toInt hb
  have h3 : a / b < 2 ^ 31 := Nat.lt_of_le_of_lt (Nat.div_le_self a b) ha
  rw [nI_toInt h3, Int32.toInt_div, h1, h2]
  have e : ((a : Int).tdiv (b : Int)) = ((a / b : Nat) : Int) := by
    rw [Int.tdiv_eq_ediv_of_nonneg (by omega)]; rfl
  rw [e]
  generalize a / b = q at h3 ⊢
  exact fb_bmod (z := (q : Int)) (by omega) (by omega)
def popN (n : Nat) : Nat := n % 2 + n / 2 % 2 + n / 4 % 2 + n / 8 % 2 + n / 16 % 2 + n / 32 % 2 + n / 64 % 2 + n / 128 % 2 + n / 256 % 2 + n / 512 % 2 + n / 1024 % 2 + n / 2048 % 2
theorem popN_le (n : Nat) : popN n ≤ 12 := by unfold popN; omega
def bitN (n k : Nat) : Nat := n / 2 ^ k % 2
theorem bitN_lt (n k : Nat) : bitN n k < 2 := Nat.mod_lt _ (by decide)
def rowsL : List Nat := (List.range 4096).filter (fun n => popN n == 4)
def rowB (p : Nat) : Nat := rowsL.getD p 0
theorem rowsL_len : rowsL.length = 495 := by decide +kernel
theorem rowsL_mem {n : Nat} : n ∈ rowsL ↔ n < 4096 ∧ popN n = 4 := by
  simp [rowsL, List.mem_filter]
theorem rowB_mem {p : Nat} (h : p < 495) : rowB p ∈ rowsL := by
  have h2 : p < rowsL.length := by rw [rowsL_len]; exact h
  unfold rowB
  rw [List.getD_eq_getElem?_getD, List.getElem?_eq_getElem h2]
  exact List.getElem_mem h2
theorem rowB_lt (p : Nat) : rowB p < 4096 := by
  by_cases h : p < 495
  · exact (rowsL_mem.mp (rowB_mem h)).1
  · have : rowB p = 0 := by
      unfold rowB
      rw [List.getD_eq_getElem?_getD, List.getElem?_eq_none (by rw [rowsL_len]; omega)]; rfl
    omega
theorem rowB_pop {p : Nat} (h : p < 495) : popN (rowB p) = 4 := (rowsL_mem.mp (rowB_mem h)).2
theorem and_lt {a b n : Nat} (h : b < n) : a &&& b < n := Nat.lt_of_le_of_lt Nat.and_le_right h
theorem and_ltl {a b n : Nat} (h : a < n) : a &&& b < n := Nat.lt_of_le_of_lt Nat.and_le_left h
/-- Integer.bitCount, as it is written -/
def bcI (x : Int32) : Int32 :=
  let a := x - ((x.toUInt32 >>> ((1 : Int32).toUInt32 &&& Int32.toUInt32 31)).toInt32 &&& 1431655765)
  let b := (a &&& 858993459) + ((a.toUInt32 >>> ((2 : Int32).toUInt32 &&& Int32.toUInt32 31)).toInt32 &&& 858993459)
  let c := (b + (b.toUInt32 >>> ((4 : Int32).toUInt32 &&& Int32.toUInt32 31)).toInt32) &&& 252645135
  let d := c + (c.toUInt32 >>> ((8 : Int32).toUInt32 &&& Int32.toUInt32 31)).toInt32
  let e := d + (d.toUInt32 >>> ((16 : Int32).toUInt32 &&& Int32.toUInt32 31)).toInt32
  e &&& 63
theorem bc_popA : (List.range 4096).all (fun n => bcI (nI n) == nI (popN n)) = true := by decide +kernel
theorem bc_pop {n : Nat} (h : n < 4096) : bcI (nI n) = nI (popN n) := by
  have := List.all_eq_true.mp bc_popA n (List.mem_range.mpr h)
  exact eq_of_beq this
theorem hb_nI (m i : Nat) (hi : i < 32) : bt (nI m) i = m.testBit i := by
  show (BitVec.ofNat 32 m).getLsbD i = _
  rw [BitVec.getLsbD_ofNat]; simp [hi]
theorem shr_bit {r n : Nat} (hn : n < 31) : (nI r >>> (nI n &&& 31)) &&& 1 = nI (bitN r n) := by
  apply b_ext
  intro i hi
  rw [b_and, b_sshr n (by omega) _ hi, hb_nI _ i hi]
  rcases Nat.eq_zero_or_pos i with h0 | h0
  · subst h0
    have h1 : bt (1 : Int32) 0 = true := by decide +kernel
    rw [h1, Bool.and_true, if_pos (by omega), hb_nI r (n + 0) (by omega), Nat.add_zero, Nat.testBit_eq_decide_div_mod_eq, Nat.testBit_eq_decide_div_mod_eq]
    simp [bitN]
  · have h1 : bt (1 : Int32) i = false := (by decide +kernel : ∀ i, i < 32 → 0 < i → bt (1 : Int32) i = false) i hi h0
    rw [h1, Bool.and_false]
    symm
    exact Nat.testBit_lt_two_pow (Nat.lt_of_lt_of_le (bitN_lt r n) (Nat.pow_le_pow_right (n := 2) (by decide) h0 : 2 ^ 1 ≤ 2 ^ i))
