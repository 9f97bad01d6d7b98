/-! ===== the lots: four unlike numbers within 196609 lots ===== -/
theorem zT_add (z : Int32) (i : Nat) : ∀ n, zT z (i + n) = zT (zT z i) n
  | 0 => rfl
  | n + 1 => by
    show zT z (i + n) * 1103515245 + 12345 = zT (zT z i) n * 1103515245 + 12345
    rw [zT_add z i n]
def afZ (p : Int32 × Int32) (z : Int32) : Int32 := p.1 * z + p.2
def dbZ (p : Int32 × Int32) : Int32 × Int32 := (p.1 * p.1, p.1 * p.2 + p.2)
theorem zT_dbl (z : Int32) : ∀ (k : Nat) (z : Int32), zT z (2 ^ k) = afZ (itr dbZ k (1103515245, 12345)) z
  | 0, z => by
    show z * 1103515245 + 12345 = 1103515245 * z + 12345
    rw [Int32.mul_comm]
  | k + 1, z => by
    have ih := zT_dbl z k
    rw [show 2 ^ (k + 1) = 2 ^ k + 2 ^ k by rw [Nat.pow_succ]; omega, zT_add, ih, ih]
    show _ = afZ (dbZ (itr dbZ k (1103515245, 12345))) z
    generalize itr dbZ k (1103515245, 12345) = p
    show p.1 * (p.1 * z + p.2) + p.2 = (p.1 * p.1) * z + (p.1 * p.2 + p.2)
    rw [Int32.mul_add, Int32.mul_assoc, Int32.add_assoc]
theorem dbZ_16 : itr dbZ 16 (1103515245, 12345) = ((-542900223), 556990464) := by decide +kernel
theorem zT_64k (z : Int32) (i : Nat) : zT z (i + 65536) = (-542900223) * zT z i + 556990464 := by
  rw [zT_add, show 65536 = 2 ^ 16 from rfl, zT_dbl z 16, dbZ_16]; rfl
def qZ (z : Int32) : Nat := z.toUInt32.toNat % 262144 / 65536
theorem toN_af (z : Int32) : ((-542900223) * z + 556990464).toUInt32.toNat = ((3752067073 * z.toUInt32.toNat) % 4294967296 + 556990464) % 4294967296 := by
  show ((-542900223) * z + 556990464).toBitVec.toNat = _
  rw [Int32.toBitVec_add, Int32.toBitVec_mul, BitVec.toNat_add, BitVec.toNat_mul]
  rfl
theorem qZ_step (z : Int32) : qZ ((-542900223) * z + 556990464) = (qZ z + 3) % 4 := by
  unfold qZ
  rw [toN_af]
  generalize z.toUInt32.toNat = n
  have h : (((3752067073 * n) % 4294967296 + 556990464) % 4294967296) % 262144 = (n + 196608) % 262144 := by
    rw [Nat.mod_mod_of_dvd _ (by decide : 262144 ∣ 4294967296), Nat.add_mod, Nat.mod_mod_of_dvd _ (by decide : 262144 ∣ 4294967296), ← Nat.add_mod]
    omega
  rw [h]
  omega
theorem lot_q (z : Int32) : lotN z % 4 = qZ z := by
  unfold lotN qZ
  generalize z.toUInt32.toNat = n
  omega
theorem dT_bit (z : Int32) : ∀ K i, i < K → (dT z K).testBit (lotN (zT z (i + 1))) = true
  | 0, i, h => absurd h (Nat.not_lt_zero _)
  | K + 1, i, h => by
    show (dT z K ||| 2 ^ lotN (zT z (K + 1))).testBit _ = true
    rw [Nat.testBit_or]
    by_cases e : i = K
    · subst e; rw [Nat.testBit_two_pow_self, Bool.or_true]
    · rw [dT_bit z K i (by omega), Bool.true_or]
theorem bit_of {n k : Nat} (h : n.testBit k = true) : n / 2 ^ k % 2 = 1 := by
  rw [Nat.testBit_eq_decide_div_mod_eq] at h
  exact of_decide_eq_true h
theorem pop_sum (n : Nat) : popN n = sumN (bitN n) 12 := (szB_12 n).symm
theorem sum4 {f : Nat → Nat} (hf : ∀ k, f k ≤ 1) {a b c d n : Nat} (ha : a < n) (hb : b < n) (hc : c < n) (hd : d < n) (h1 : a ≠ b) (h2 : a ≠ c) (h3 : a ≠ d) (h4 : b ≠ c) (h5 : b ≠ d) (h6 : c ≠ d) (fa : f a = 1) (fb : f b = 1) (fc : f c = 1) (fd : f d = 1) : 4 ≤ sumN f n := by
  have key : ∀ n, (if a < n then 1 else 0) + (if b < n then 1 else 0) + (if c < n then 1 else 0) + (if d < n then 1 else 0) ≤ sumN f n := by
    intro n
    induction n with
    | zero => simp [sumN]
    | succ n ih =>
      simp only [sumN]
      by_cases ea : a = n
      · subst ea
        rw [fa]
        have e1 : (if a < a then 1 else 0) = 0 := if_neg (Nat.lt_irrefl a)
        split <;> split <;> split <;> split <;> (simp only [e1] at ih) <;> (repeat' split at ih) <;> omega
      · by_cases eb : b = n
        · subst eb; rw [fb]
          repeat' split
          all_goals (repeat' split at ih)
          all_goals omega
        · by_cases ec : c = n
          · subst ec; rw [fc]
            repeat' split
            all_goals (repeat' split at ih)
            all_goals omega
          · by_cases ed : d = n
            · subst ed; rw [fd]
              repeat' split
              all_goals (repeat' split at ih)
              all_goals omega
            · repeat' split
              all_goals (repeat' split at ih)
              all_goals omega
  have := key n
  rw [if_pos ha, if_pos hb, if_pos hc, if_pos hd] at this
  exact this
theorem lots4 (z : Int32) : 4 ≤ popN (dT z 196609) := by
  have e1 : zT z 65537 = (-542900223) * zT z 1 + 556990464 := zT_64k z 1
  have e2 : zT z 131073 = (-542900223) * zT z 65537 + 556990464 := zT_64k z 65537
  have e3 : zT z 196609 = (-542900223) * zT z 131073 + 556990464 := zT_64k z 131073
  have q1 := qZ_step (zT z 1)
  have q2 := qZ_step (zT z 65537)
  have q3 := qZ_step (zT z 131073)
  rw [← e1] at q1; rw [← e2] at q2; rw [← e3] at q3
  have l0 := lot_q (zT z 1)
  have l1 := lot_q (zT z 65537)
  have l2 := lot_q (zT z 131073)
  have l3 := lot_q (zT z 196609)
  rw [pop_sum]
  refine sum4 (a := lotN (zT z 1)) (b := lotN (zT z 65537)) (c := lotN (zT z 131073)) (d := lotN (zT z 196609)) (fun k => by have := bitN_lt (dT z 196609) k; omega) (lotN_lt _) (lotN_lt _) (lotN_lt _) (lotN_lt _) ?_ ?_ ?_ ?_ ?_ ?_ (bit_of (dT_bit z 196609 0 (by omega))) (bit_of (dT_bit z 196609 65536 (by omega))) (bit_of (dT_bit z 196609 131072 (by omega))) (bit_of (dT_bit z 196609 196608 (by omega)))
  all_goals (intro e; have e4 := congrArg (fun n => n % 4) e; omega)
theorem lots_K (z : Int32) : ∃ K, K ≤ 300000 ∧ (∀ j, j < K → popN (dT z j) < 4) ∧ 4 ≤ popN (dT z K) := by
  obtain ⟨K, h1, h2, h3⟩ := fb_first (p := fun K => 4 ≤ popN (dT z K)) (n := 196610) ⟨196609, by omega, lots4 z⟩
  exact ⟨K, by omega, fun j hj => by have := h3 j hj; omega, h2⟩
