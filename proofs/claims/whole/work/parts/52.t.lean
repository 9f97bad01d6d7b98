/-! ===== what both sides answer is one: drums, felt, alone ===== -/
theorem drm_eq (dr : Nat → Nat) (wk : Nat) (n : Nat) : drmL dr wk n = drmR dr wk n := by
  unfold drmL drmR
  apply sumL_cong
  intro k _
  rw [Int64.mul_comm _ 12, Int64.mul_comm (nI wk).toInt64 4]
theorem rtw_eq1 (ce : Nat → Int32) (dr : Nat → Nat) (n wk : Nat) : rtwI ce dr n wk 1 = rtwN ce dr n wk 1 := by
  unfold rtwI rtwN
  apply sumI_cong
  intro k _
  rw [Nat.mul_comm k 8]
  simp only [bitI1]
theorem rtw_eq0 (ce : Nat → Int32) (dr : Nat → Nat) (n wk : Nat) : rtwI ce dr n wk 0 = rtwN ce dr n wk 0 := by
  unfold rtwI rtwN
  apply sumI_cong
  intro k _
  rw [Nat.mul_comm k 8]
  simp only [bitI0]
theorem alC_sum (cr : Nat → Nat) : ∀ i, i ≤ 495 → alC cr i + ahC cr (495 - i) = ahC cr 495
  | 0, _ => by simp [alC]
  | i + 1, h => by
    have ih := alC_sum cr i (by omega)
    have e : ahC cr (495 - i) = ahC cr (495 - (i + 1)) + (if nI (cr (494 - i)) = 0 then 1 else 0) := by
      rw [show 495 - i = (494 - i) + 1 by omega, show 495 - (i + 1) = 494 - i by omega]; rfl
    rw [e] at ih
    simp only [alC]
    split at ih
    next q => rw [if_pos q]; omega
    next q => rw [if_neg q]; omega
theorem al_cnt (cr : Nat → Nat) : alC cr 495 = ahC cr 495 := by
  have := alC_sum cr 495 (Nat.le_refl _)
  rw [Nat.sub_self, show ahC cr 0 = 0 from rfl, Nat.add_zero] at this
  exact this
theorem alA_first (cr : Nat → Nat) : ∀ i, i ≤ 495 → ahB cr 495 = if 0 ≤ ahB cr (495 - i) then ahB cr (495 - i) else alA cr i
  | 0, _ => by
    rcases ahB_m1 cr 495 with h | ⟨p, hp, h⟩
    · rw [Nat.sub_zero, h, if_neg (by decide)]; rfl
    · rw [Nat.sub_zero, h]
      have h0 : (0 : Int32) ≤ nI p := (nI_leI (a := 0) (by decide) (by omega)).mpr (Nat.zero_le _)
      rw [if_pos h0]
  | i + 1, h => by
    have ih := alA_first cr i (by omega)
    rw [ih, show 495 - i = (494 - i) + 1 by omega, show 495 - (i + 1) = 494 - i by omega]
    simp only [ahB, alA]
    have hn : (0 : Int32) ≤ nI (494 - i) := (nI_leI (a := 0) (by decide) (by omega)).mpr (Nat.zero_le _)
    by_cases q : nI (cr (494 - i)) = 0
    · by_cases q2 : 0 ≤ ahB cr (494 - i)
      · simp [q, q2]
      · simp [q, q2, hn]
    · by_cases q2 : 0 ≤ ahB cr (494 - i)
      · simp [q, q2]
      · simp [q, q2]
theorem al_fst (cr : Nat → Nat) : alA cr 495 = ahB cr 495 := by
  have := alA_first cr 495 (Nat.le_refl _)
  rw [Nat.sub_self, show ahB cr 0 = -1 from rfl, if_neg (by decide)] at this
  exact this.symm
