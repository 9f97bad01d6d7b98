/-! ===== weeks one behind the other ===== -/
abbrev WS : Type := Nat × (Nat → Nat) × (Nat → Int32)
def lasN (X : WS) : Nat := (latI X.2.2 X.1).toInt.toNat
def wS (C : Nat → Nat → Nat → Nat) (X : WS) (d : Nat) : WS := (X.1 + 1, updN X.2.1 7 (potE (wkLeft X.2.1 (sumN (C X.1 (lasN X)) 495) (C X.1 (lasN X)) d)), wkCells X.2.2 X.1 X.2.1 (sumN (C X.1 (lasN X)) 495) (C X.1 (lasN X)) d)
def rwN (v : Int64) : Nat := v.toInt.toNat
def wsI (C : Nat → Nat → Nat → Nat) (nu : Nat → Int64) (X : WS) : Nat → WS
  | 0 => X
  | i + 1 => if (wsI C nu X i).1 < 40 ∧ isRowI (nu i) = 1 then wS C (wsI C nu X i) (rwN (nu i)) else wsI C nu X i
theorem wsI_no {C : Nat → Nat → Nat → Nat} {nu : Nat → Int64} {X Y : WS} {i : Nat} (h : wsI C nu X i = Y) (hn : isRowI (nu i) = 0 ∨ 40 ≤ Y.1) : wsI C nu X (i + 1) = Y := by
  simp only [wsI, h]
  rw [if_neg]
  rintro ⟨h1, h2⟩
  rcases hn with q | q
  · rw [q] at h2; exact absurd h2 (by decide)
  · omega
theorem wsI_yes {C : Nat → Nat → Nat → Nat} {nu : Nat → Int64} {X : WS} {i wq Lq : Nat} {rq : Nat → Nat} {cq : Nat → Int32} (h : wsI C nu X i = (wq, rq, cq)) (hl : latI cq wq = nI Lq) (hL : Lq < 4096) (hw : wq < 40) (hr : isRowI (nu i) = 1) : wsI C nu X (i + 1) = (wq + 1, updN rq 7 (potE (wkLeft rq (sumN (C wq Lq) 495) (C wq Lq) (rwN (nu i)))), wkCells cq wq rq (sumN (C wq Lq) 495) (C wq Lq) (rwN (nu i))) := by
  have e : lasN (wq, rq, cq) = Lq := by
    show (latI cq wq).toInt.toNat = Lq
    rw [hl, nI_toInt (by omega)]; rfl
  simp only [wsI, h]
  rw [if_pos ⟨hw, hr⟩]
  simp only [wS, e]
theorem wsI_full {C : Nat → Nat → Nat → Nat} {nu : Nat → Int64} {X Y : WS} {i : Nat} (h : wsI C nu X i = Y) (hw : 40 ≤ Y.1) : ∀ m, wsI C nu X (i + m) = Y
  | 0 => h
  | m + 1 => wsI_no (wsI_full h hw m) (Or.inr hw)
theorem wsI_fullN {C : Nat → Nat → Nat → Nat} {nu : Nat → Int64} {X Y : WS} {i n : Nat} (h : wsI C nu X i = Y) (hw : 40 ≤ Y.1) (hi : i ≤ n) : wsI C nu X n = Y := by
  have := wsI_full h hw (n - i)
  rwa [show i + (n - i) = n by omega] at this
theorem wsI_cong {C : Nat → Nat → Nat → Nat} {nu nu2 : Nat → Int64} {X : WS} : ∀ {n : Nat}, (∀ i, i < n → nu i = nu2 i) → wsI C nu X n = wsI C nu2 X n
  | 0, _ => rfl
  | n + 1, h => by simp only [wsI, wsI_cong (n := n) (fun i hi => h i (by omega)), h n (by omega)]
theorem lat_wk (ce : Nat → Int32) (wk : Nat) (ru : Nat → Nat) (tot : Nat) (cr : Nat → Nat) (d : Nat) : latI (wkCells ce wk ru tot cr d) (wk + 1) = nI d := by
  unfold latI wkCells
  rw [if_neg (by omega)]
  simp only [upd]
  rw [if_neg (by omega), if_pos (by omega)]
theorem lgL_lt (x y : Int64) : lg_cmp x y < 0 ↔ x < y := by
  unfold lg_cmp
  by_cases a : x > y
  · rw [if_pos a]; exact ⟨fun q => absurd q (by decide), fun q => by rw [gt_iff_lt, fa_lt64] at a; rw [fa_lt64] at q; omega⟩
  · rw [if_neg a]
    by_cases b : x = y
    · rw [if_pos b]; exact ⟨fun q => absurd q (by decide), fun q => by rw [b, fa_lt64] at q; omega⟩
    · rw [if_neg b]; refine ⟨fun _ => ?_, fun _ => by decide⟩
      rw [gt_iff_lt, fa_lt64] at a; rw [fa_eq64] at b; rw [fa_lt64]; omega
theorem lgL_gt (x y : Int64) : 0 < lg_cmp x y ↔ y < x := by
  unfold lg_cmp
  by_cases a : x > y
  · rw [if_pos a]; exact ⟨fun _ => a, fun _ => by decide⟩
  · rw [if_neg a]
    by_cases b : x = y
    · rw [if_pos b]; exact ⟨fun q => absurd q (by decide), fun q => absurd q a⟩
    · rw [if_neg b]; exact ⟨fun q => absurd q (by decide), fun q => absurd q a⟩
theorem lgL_le (x y : Int64) : lg_cmp x y ≤ 0 ↔ x ≤ y := by
  have h : lg_cmp x y ≤ 0 ↔ ¬ 0 < lg_cmp x y := ⟨fun a b => by rw [fa_le] at a; rw [fa_lt] at b; omega, fun a => fa_of_nlt a⟩
  rw [h, lgL_gt, fa_lt64, fa_le64]; omega
theorem row_rng {x : Int64} (h1 : ¬ x < 0) (h2 : ¬ 4095 < x) : x = (nI (rwN x)).toInt64 ∧ rwN x < 4096 := by
  rw [fa_lt64] at h1 h2
  have e0 : (0 : Int64).toInt = 0 := rfl
  have e1 : (4095 : Int64).toInt = 4095 := rfl
  rw [e0] at h1; rw [e1] at h2
  have h3 : rwN x < 4096 := by unfold rwN; omega
  refine ⟨?_, h3⟩
  rw [fa_eq64, Int32.toInt_toInt64, nI_toInt (by omega)]
  unfold rwN; omega
theorem row_nat {x : Int64} (h : isRowI x = 1) : x.toInt32 = nI (rwN x) ∧ rwN x < 4096 ∧ popN (rwN x) = 4 ∧ x = (nI (rwN x)).toInt64 := by
  unfold isRowI at h
  split at h
  · exact absurd h (by decide)
  next c1 =>
    split at h
    · exact absurd h (by decide)
    next c2 =>
      obtain ⟨e, hlt⟩ := row_rng (x := x) (fun q => c1 ((lgL_lt x 0).mpr q)) (fun q => c2 ((lgL_gt x 4095).mpr q))
      have e2 : x.toInt32 = nI (rwN x) := by rw [e, Int32.toInt32_toInt64, ← e]
      refine ⟨e2, hlt, ?_, e⟩
      rw [e2, bc_pop hlt] at h
      split at h
      next c3 => exact (nI_eq (b := 4) (by have := popN_le (rwN x); omega) (by decide)).mp c3
      · exact absurd h (by decide)
theorem in_row0 {v : Int64} (h : inL v 0 4095 = 0) : isRowI v = 0 := by
  unfold inL at h
  unfold isRowI
  split at h
  next c => rw [if_pos c]
  next c =>
    rw [if_neg c]
    split at h
    next c2 => rw [if_pos c2]
    · exact absurd h (by decide)
theorem in_rowN {v : Int64} (h : ¬ inL v 0 4095 = 0) : v.toInt32 = nI (rwN v) ∧ rwN v < 4096 ∧ isRowI v = (if popN (rwN v) = 4 then 1 else 0) := by
  unfold inL at h
  split at h
  · exact absurd rfl h
  next c1 =>
    split at h
    · exact absurd rfl h
    next c2 =>
      obtain ⟨e, hlt⟩ := row_rng (x := v) (fun q => c1 ((lgL_lt v 0).mpr q)) (fun q => c2 ((lgL_gt v 4095).mpr q))
      have e2 : v.toInt32 = nI (rwN v) := by rw [e, Int32.toInt32_toInt64, ← e]
      refine ⟨e2, hlt, ?_⟩
      unfold isRowI
      rw [if_neg c1, if_neg c2, e2, bc_pop hlt]
      have h4 : nI (popN (rwN v)) = 4 ↔ popN (rwN v) = 4 := nI_eq (b := 4) (by have := popN_le (rwN v); omega) (by decide)
      by_cases q : popN (rwN v) = 4
      · rw [if_pos q, if_pos (h4.mpr q)]
      · rw [if_neg q, if_neg (mt h4.mp q)]
theorem pl_row0 {v : Int64} (h : isRowI v = (if popN (rwN v) = 4 then 1 else 0)) (hlt : rwN v < 4096) (c : plI (rwN v) < 0) : isRowI v = 0 := by
  rw [h, if_neg]
  intro q
  unfold plI at c
  rw [if_pos q] at c
  exact nI_lt0 (by have := (plB_row hlt q).1; omega) c
theorem pl_row1 {v : Int64} (h : isRowI v = (if popN (rwN v) = 4 then 1 else 0)) (c : ¬ plI (rwN v) < 0) : isRowI v = 1 := by
  rw [h]
  by_cases q : popN (rwN v) = 4
  · rw [if_pos q]
  · unfold plI at c
    rw [if_neg q] at c
    exact absurd (by decide) c
theorem bfI_0 {wk : Nat} (h : bfI wk = 0) : wk < 40 := by
  unfold bfI at h
  split at h
  · assumption
  · exact absurd h (by decide)
theorem bfI_1 {wk : Nat} (h : ¬ bfI wk = 0) : 40 ≤ wk := by
  unfold bfI at h
  split at h
  · exact absurd rfl h
  · omega
