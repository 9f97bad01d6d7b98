def chnR (r : Nat) : Nat → Nat
  | 0 => 0
  | i + 1 => if nI (bitN r i) = 1 then chnR r i + 1 else 0
def lngR (r : Nat) : Nat → Nat
  | 0 => 0
  | i + 1 => if nI (lngR r i) < nI (chnR r (i + 1)) then chnR r (i + 1) else lngR r i
def fSr (r : Nat) : Nat := nAr r + nBr r + nCr r + nDr r
/-- the names of the liking: s l g e c d w -/
def nmN (wk lat r n : Nat) : Nat := if n = 0 then fSr r else if n = 1 then nAr r else if n = 2 then nDr r else if n = 3 then popN (r &&& 1365) else if n = 4 then lngR r 12 else if n = 5 then popN (r &&& lat) else wk
def nmI (wk lat p : Nat) : Nat → Int32 := fun n => nI (nmN wk lat (rowB p) n)
/-- the liking's code on a stack, top first -/
def opS (c : Int32) : List Int32 → Option (List Int32)
  | b :: a :: r =>
    if c = -1 then some ((a + b) :: r)
    else if c = -2 then some ((a - b) :: r)
    else if c = -3 then some ((a * b) :: r)
    else if c = -4 then (match r with
      | v :: r' => some ((if v ≤ 0 then b else a) :: r')
      | [] => none)
    else none
  | _ => none
theorem opS_bin (c b a : Int32) (r : List Int32) : opS c (b :: a :: r) = if c = -1 then some ((a + b) :: r) else if c = -2 then some ((a - b) :: r) else if c = -3 then some ((a * b) :: r) else if c = -4 then (match r with | v :: r' => some ((if v ≤ 0 then b else a) :: r') | [] => none) else none := by cases r <;> rfl
def evR (nm : Nat → Int32) : List Int32 → List Int32 → Option (List Int32)
  | [], st => some st
  | c :: cs, st => if 0 ≤ c then evR nm cs (c :: st) else if c ≤ -10 then evR nm cs (nm ((-10) - c).toNatClampNeg :: st) else (opS c st).bind (fun s => evR nm cs s)
def cdF (co : Nat → Int32) : Nat → Nat → List Int32
  | _, 0 => []
  | i, n + 1 => co i :: cdF co (i + 1) n
theorem cdF_cons (co : Nat → Int32) {i cs : Nat} (h : i < cs) : cdF co i (cs - i) = co i :: cdF co (i + 1) (cs - (i + 1)) := by
  rw [show cs - i = (cs - (i + 1)) + 1 by omega]; rfl
theorem ev_num {nm : Nat → Int32} {co : Nat → Int32} {i cs : Nat} {st : List Int32} {v : Int32} (h : evR nm (cdF co i (cs - i)) st = some [v]) (hi : i < cs) (hc : 0 ≤ co i) : evR nm (cdF co (i + 1) (cs - (i + 1))) (co i :: st) = some [v] := by
  rw [cdF_cons co hi, evR, if_pos hc] at h; exact h
theorem ev_name {nm : Nat → Int32} {co : Nat → Int32} {i cs : Nat} {st : List Int32} {v : Int32} (h : evR nm (cdF co i (cs - i)) st = some [v]) (hi : i < cs) (hc : ¬ 0 ≤ co i) (hd : co i ≤ -10) : evR nm (cdF co (i + 1) (cs - (i + 1))) (nm ((-10) - co i).toNatClampNeg :: st) = some [v] := by
  rw [cdF_cons co hi, evR, if_neg hc, if_pos hd] at h; exact h
theorem ev_op {nm : Nat → Int32} {co : Nat → Int32} {i cs : Nat} {st : List Int32} {v : Int32} (h : evR nm (cdF co i (cs - i)) st = some [v]) (hi : i < cs) (hc : ¬ 0 ≤ co i) (hd : ¬ co i ≤ -10) :
    (co i = -1 ∧ ∃ a b r, st = b :: a :: r ∧ evR nm (cdF co (i + 1) (cs - (i + 1))) ((a + b) :: r) = some [v]) ∨
    (co i = -2 ∧ ∃ a b r, st = b :: a :: r ∧ evR nm (cdF co (i + 1) (cs - (i + 1))) ((a - b) :: r) = some [v]) ∨
    (co i = -3 ∧ ∃ a b r, st = b :: a :: r ∧ evR nm (cdF co (i + 1) (cs - (i + 1))) ((a * b) :: r) = some [v]) ∨
    (co i = -4 ∧ ∃ w a b r, st = b :: a :: w :: r ∧ evR nm (cdF co (i + 1) (cs - (i + 1))) ((if w ≤ 0 then b else a) :: r) = some [v]) := by
  rw [cdF_cons co hi, evR, if_neg hc, if_neg hd] at h
  match st, h with
  | b :: a :: r, h =>
    by_cases h1 : co i = -1
    · rw [opS_bin, if_pos h1] at h; exact Or.inl ⟨h1, a, b, r, rfl, h⟩
    by_cases h2 : co i = -2
    · rw [opS_bin, if_neg h1, if_pos h2] at h; exact Or.inr (Or.inl ⟨h2, a, b, r, rfl, h⟩)
    by_cases h3 : co i = -3
    · rw [opS_bin, if_neg h1, if_neg h2, if_pos h3] at h; exact Or.inr (Or.inr (Or.inl ⟨h3, a, b, r, rfl, h⟩))
    by_cases h4 : co i = -4
    · rw [opS_bin, if_neg h1, if_neg h2, if_neg h3, if_pos h4] at h
      match r, h with
      | w :: r', h => exact Or.inr (Or.inr (Or.inr ⟨h4, w, a, b, r', rfl, h⟩))
      | [], h => cases h
    · rw [opS_bin, if_neg h1, if_neg h2, if_neg h3, if_neg h4] at h; cases h
  | [], h => cases h
  | [_], h => cases h
def skOk (sq : Nat → Int32) (st : List Int32) : Prop := ∀ (k : Nat) (x : Int32), st[k]? = some x → sq (st.length - 1 - k) = x
theorem skOk_push {sq : Nat → Int32} {st : List Int32} (h : skOk sq st) (x : Int32) : skOk (upd sq st.length x) (x :: st) := by
  intro k y hk
  cases k with
  | zero => simp at hk; simp [upd, hk]
  | succ k =>
    simp only [List.getElem?_cons_succ] at hk
    have hl := (List.getElem?_eq_some_iff.mp hk).1
    rw [upd_ne _ _ (by simp; omega)]
    rw [← h k y hk]; congr 1; simp; omega
theorem skOk_bin {sq : Nat → Int32} {a b : Int32} {r : List Int32} (h : skOk sq (b :: a :: r)) : sq r.length = a ∧ sq (r.length + 1) = b ∧ ∀ x, skOk (upd sq r.length x) (x :: r) := by
  refine ⟨?_, ?_, fun x => ?_⟩
  · have := h 1 a rfl; simpa using this
  · have := h 0 b rfl; simpa using this
  · apply skOk_push (st := r)
    intro k y hk
    have hl := (List.getElem?_eq_some_iff.mp hk).1
    rw [← h (k + 2) y (by simpa using hk)]; congr 1; simp; omega
theorem skOk_tri {sq : Nat → Int32} {w a b : Int32} {r : List Int32} (h : skOk sq (b :: a :: w :: r)) : sq r.length = w ∧ sq (r.length + 1) = a ∧ sq (r.length + 2) = b ∧ ∀ x, skOk (upd sq r.length x) (x :: r) := by
  refine ⟨?_, ?_, ?_, fun x => ?_⟩
  · have := h 2 w rfl; simpa using this
  · have := h 1 a rfl; simpa using this
  · have := h 0 b rfl; simpa using this
  · apply skOk_push (st := r)
    intro k y hk
    have hl := (List.getElem?_eq_some_iff.mp hk).1
    rw [← h (k + 3) y (by simpa using hk)]; congr 1; simp; omega
def clI (v : Int32) : Int32 := if 0 < (if 99 < v then 99 else v) then (if 99 < v then 99 else v) else 0
def clN (v : Int32) : Nat := (clI v).toInt.toNat
theorem clI_rng (v : Int32) : 0 ≤ (clI v).toInt ∧ (clI v).toInt ≤ 99 := by
  have h0 : (0 : Int32).toInt = 0 := rfl
  have h9 : (99 : Int32).toInt = 99 := rfl
  unfold clI
  by_cases c : (99 : Int32) < v
  · simp only [if_pos c]; rw [if_pos (by decide), h9]; omega
  · simp only [if_neg c]
    rw [fa_lt, h9] at c
    split
    next q => rw [fa_lt, h0] at q; omega
    · rw [h0]; omega
theorem clN_le (v : Int32) : clN v ≤ 99 := by have := clI_rng v; unfold clN; omega
theorem clN_eq (v : Int32) : clI v = nI (clN v) := by
  have h := clI_rng v
  apply Int32.toInt_inj.mp
  unfold clN
  rw [nI_toInt (by omega)]; omega
theorem nm_idx {c : Int32} (h : c ≤ -10) : (-10) - c = nI ((-10) - c).toNatClampNeg ∧ ((-10) - c).toNatClampNeg < 2 ^ 31 := by
  have hr := fb_rng c
  rw [fa_le, show (-10 : Int32).toInt = -10 from rfl] at h
  have e : ((-10) - c).toInt = -10 - c.toInt := by
    rw [fb_subI] <;> rw [show (-10 : Int32).toInt = -10 from rfl] <;> omega
  have h2 : ¬ ((-10) - c) < 0 := by rw [fa_lt, e, show (0 : Int32).toInt = 0 from rfl]; omega
  obtain ⟨j, hj, hx⟩ := nI_of h2
  rw [hx, nI_clamp hj]; exact ⟨rfl, hj⟩
def sayN (cs : Nat) (v : Int32) : Nat := if cs = 0 then 1 else clN v

-- == X2_longestChain ==
theorem dX2_longestChain_0 : xd cX2_longestChain 0 (.iconst 0) 1 1 := ⟨by decide +kernel, rfl⟩
theorem dX2_longestChain_1 : xd cX2_longestChain 1 (.istore_n 1) 1 2 := ⟨by decide +kernel, rfl⟩
theorem dX2_longestChain_2 : xd cX2_longestChain 2 (.iconst 0) 1 3 := ⟨by decide +kernel, rfl⟩
theorem dX2_longestChain_3 : xd cX2_longestChain 3 (.istore_n 2) 1 4 := ⟨by decide +kernel, rfl⟩
theorem dX2_longestChain_4 : xd cX2_longestChain 4 (.iconst 0) 1 5 := ⟨by decide +kernel, rfl⟩
theorem dX2_longestChain_5 : xd cX2_longestChain 5 (.istore_n 3) 1 6 := ⟨by decide +kernel, rfl⟩
theorem dX2_longestChain_6 : xd cX2_longestChain 6 (.iload_n 3) 1 7 := ⟨by decide +kernel, rfl⟩
theorem dX2_longestChain_7 : xd cX2_longestChain 7 (.bipush 12) 2 9 := ⟨by decide +kernel, rfl⟩
theorem dX2_longestChain_9 : xj cX2_longestChain 9 (.if_icmp .ge) 12 41 := ⟨32, by decide +kernel, rfl, by decide⟩
theorem dX2_longestChain_12 : xd cX2_longestChain 12 (.iload_n 0) 1 13 := ⟨by decide +kernel, rfl⟩
theorem dX2_longestChain_13 : xd cX2_longestChain 13 (.iload_n 3) 1 14 := ⟨by decide +kernel, rfl⟩
theorem dX2_longestChain_14 : xd cX2_longestChain 14 .ishr 1 15 := ⟨by decide +kernel, rfl⟩
theorem dX2_longestChain_15 : xd cX2_longestChain 15 (.iconst 1) 1 16 := ⟨by decide +kernel, rfl⟩
theorem dX2_longestChain_16 : xd cX2_longestChain 16 .iand 1 17 := ⟨by decide +kernel, rfl⟩
theorem dX2_longestChain_17 : xd cX2_longestChain 17 (.iconst 1) 1 18 := ⟨by decide +kernel, rfl⟩
theorem dX2_longestChain_18 : xj cX2_longestChain 18 (.if_icmp .ne) 21 27 := ⟨9, by decide +kernel, rfl, by decide⟩
theorem dX2_longestChain_21 : xd cX2_longestChain 21 (.iload_n 2) 1 22 := ⟨by decide +kernel, rfl⟩
theorem dX2_longestChain_22 : xd cX2_longestChain 22 (.iconst 1) 1 23 := ⟨by decide +kernel, rfl⟩
theorem dX2_longestChain_23 : xd cX2_longestChain 23 .iadd 1 24 := ⟨by decide +kernel, rfl⟩
theorem dX2_longestChain_24 : xj cX2_longestChain 24 .goto 27 28 := ⟨4, by decide +kernel, rfl, by decide⟩
theorem dX2_longestChain_27 : xd cX2_longestChain 27 (.iconst 0) 1 28 := ⟨by decide +kernel, rfl⟩
theorem dX2_longestChain_28 : xd cX2_longestChain 28 (.istore_n 2) 1 29 := ⟨by decide +kernel, rfl⟩
theorem dX2_longestChain_29 : xd cX2_longestChain 29 (.iload_n 1) 1 30 := ⟨by decide +kernel, rfl⟩
theorem dX2_longestChain_30 : xd cX2_longestChain 30 (.iload_n 2) 1 31 := ⟨by decide +kernel, rfl⟩
theorem dX2_longestChain_31 : xd cX2_longestChain 31 (.invokestatic 47) 3 34 := ⟨by decide +kernel, rfl⟩
theorem dX2_longestChain_34 : xd cX2_longestChain 34 (.istore_n 1) 1 35 := ⟨by decide +kernel, rfl⟩
theorem dX2_longestChain_35 : xd cX2_longestChain 35 (.iinc 3 1) 3 38 := ⟨by decide +kernel, rfl⟩
theorem dX2_longestChain_38 : xj cX2_longestChain 38 .goto 41 6 := ⟨(-32), by decide +kernel, rfl, by decide⟩
theorem dX2_longestChain_41 : xd cX2_longestChain 41 (.iload_n 1) 1 42 := ⟨by decide +kernel, rfl⟩
theorem dX2_longestChain_42 : xd cX2_longestChain 42 .ireturn 1 43 := ⟨by decide +kernel, rfl⟩

set_option maxRecDepth 100000 in
set_option maxHeartbeats 4000000 in
theorem ct_X2_longestChain (l : Launch) (g : XG) (r : Nat) (hr : r < 4096) : Ct l g 1 0 0 yX2_longestChain cX2_longestChain 4 (some .int) [.int (nI r)] [] (xpi (nI (lngR r 12)) []) := by
  refine Ct.ofX (lv := [some (.int (nI r)), none, none, none]) (by decide) rfl (Nat.le_of_ble_eq_true rfl) (fun κ => ?_)
  generalize hQ : xQ κ g 0 0 _ = Q
  refine x_iconst 0 dX2_longestChain_0 (by decide) ?_
  refine x_istore_n (lv' := [some (.int (nI r)), some (.int 0), none, none]) dX2_longestChain_1 (xlt rfl) rfl ?_
  refine x_iconst 0 dX2_longestChain_2 (by decide) ?_
  refine x_istore_n (lv' := [some (.int (nI r)), some (.int 0), some (.int 0), none]) dX2_longestChain_3 (xlt rfl) rfl ?_
  refine x_iconst 0 dX2_longestChain_4 (by decide) ?_
  refine x_istore_n (lv' := [some (.int (nI r)), some (.int 0), some (.int 0), some (.int 0)]) dX2_longestChain_5 (xlt rfl) rfl ?_
  have L6_1 : ∀ (i : Nat), i ≤ 12 → ∀ (lg : Nat), lg = lngR r i → ∀ (ch : Nat), ch = chnR r i → Xs κ g 1 0 0 cX2_longestChain yX2_longestChain (some .int) Q 0 0 6 [some (.int (nI r)), some (.int (nI lg)), some (.int (nI ch)), some (.int (nI i))] [] [] := by
    refine upTo 12 (fun i hi6 ih6 => ?_)
    intro lg elg
    subst elg
    intro ch ech
    subst ech
    refine x_iload_n dX2_longestChain_6 rfl ?_
    refine x_bipush 12 dX2_longestChain_7 (by decide) ?_
    refine x_icmp_ge dX2_longestChain_9 (fun c9 => ?_) (fun c9 => ?_)
    · have c9 : 12 ≤ (nI i) := c9
      have c9n := (nI_leI (a := 12) (b := i) (by omega) (by omega)).mp c9
      have hxc9 : i = 12 := by omega
      try rw [hxc9]
      refine x_iload_n dX2_longestChain_41 rfl ?_
      rw [← hQ]
      refine x_iret dX2_longestChain_42 rfl (Nat.le_of_ble_eq_true rfl) (Nat.le_of_ble_eq_true rfl) ?_
      exact ⟨rfl, rfl⟩
    · have c9 : ¬ (12 ≤ (nI i)) := c9
      have c9n := mt (nI_leI (a := 12) (b := i) (by omega) (by omega)).mpr c9
      refine x_iload_n dX2_longestChain_12 rfl ?_
      refine x_iload_n dX2_longestChain_13 rfl ?_
      refine x_ishr dX2_longestChain_14 ?_
      refine x_iconst 1 dX2_longestChain_15 (by decide) ?_
      refine x_iand dX2_longestChain_16 ?_
      refine x_rei (nI (bitN r i)) (shr_bit (by omega)) ?_
      refine x_iconst 1 dX2_longestChain_17 (by decide) ?_
      have J18_3 : ∀ (v2 : Nat), v2 = (if (nI (bitN r i)) = 1 then (chnR r i) + 1 else 0) → Xs κ g 1 0 0 cX2_longestChain yX2_longestChain (some .int) Q 0 0 28 [some (.int (nI r)), some (.int (nI ((lngR r i)))), some (.int (nI ((chnR r i)))), some (.int (nI i))] [.int (nI v2)] [] := by
        intro v2 ev2
        refine x_istore_n (lv' := [some (.int (nI r)), some (.int (nI ((lngR r i)))), some (.int (nI v2)), some (.int (nI i))]) dX2_longestChain_28 (xlt rfl) rfl ?_
        refine x_iload_n dX2_longestChain_29 rfl ?_
        refine x_iload_n dX2_longestChain_30 rfl ?_
        refine x_mmax dX2_longestChain_31 ml_X2_47 (Nat.le_of_ble_eq_true rfl) (by decide) (Nat.le_refl _) (Nat.le_refl _) ?_
        refine x_rei (nI (if nI (lngR r i) < nI v2 then v2 else (lngR r i))) (by split <;> rfl) ?_
        refine x_istore_n (lv' := [some (.int (nI r)), some (.int (nI (if nI (lngR r i) < nI v2 then v2 else (lngR r i)))), some (.int (nI v2)), some (.int (nI i))]) dX2_longestChain_34 (xlt rfl) rfl ?_
        refine x_iinc (lv' := [some (.int (nI r)), some (.int (nI (if nI (lngR r i) < nI v2 then v2 else (lngR r i)))), some (.int (nI v2)), some (.int (nI (i + 1)))]) (nI (i + 1)) dX2_longestChain_35 rfl (nI_addc i 1 rfl) rfl ?_
        refine x_goto dX2_longestChain_38 ?_
        exact ih6 (by omega) (if nI (lngR r i) < nI v2 then v2 else (lngR r i)) (by simp only [ev2]; rfl) v2 (by simp only [ev2]; rfl)
      refine x_icmp_ne dX2_longestChain_18 (fun c18 => ?_) (fun c18 => ?_)
      · have c18 : ¬ ((nI (bitN r i)) = 1) := c18
        refine x_iconst 0 dX2_longestChain_27 (by decide) ?_
        exact J18_3 0 (if_neg c18).symm
      · have c18 : (nI (bitN r i)) = 1 := c18
        refine x_iload_n dX2_longestChain_21 rfl ?_
        refine x_iconst 1 dX2_longestChain_22 (by decide) ?_
        refine x_iadd dX2_longestChain_23 ?_
        refine x_rei (nI ((chnR r i) + 1)) (nI_addc (chnR r i) 1 rfl) ?_
        refine x_goto dX2_longestChain_24 ?_
        exact J18_3 ((chnR r i) + 1) (if_pos c18).symm
  exact L6_1 0 (Nat.zero_le _) 0 (by rfl) 0 (by rfl)

-- == X2_named ==
theorem dX2_named_0 : xd cX2_named 0 (.iload_n 1) 1 1 := ⟨by decide +kernel, rfl⟩
theorem dX2_named_1 : decode cX2_named 1 = .ok (.tableswitch 102 0 5 #[39, 67, 72, 80, 89, 94], 39) := by decide +kernel
theorem dX2_named_40 : xd cX2_named 40 (.iload_n 3) 1 41 := ⟨by decide +kernel, rfl⟩
theorem dX2_named_41 : xd cX2_named 41 (.bipush 15) 2 43 := ⟨by decide +kernel, rfl⟩
theorem dX2_named_43 : xd cX2_named 43 .iand 1 44 := ⟨by decide +kernel, rfl⟩
theorem dX2_named_44 : xd cX2_named 44 (.iload_n 3) 1 45 := ⟨by decide +kernel, rfl⟩
theorem dX2_named_45 : xd cX2_named 45 (.iconst 4) 1 46 := ⟨by decide +kernel, rfl⟩
theorem dX2_named_46 : xd cX2_named 46 .ishr 1 47 := ⟨by decide +kernel, rfl⟩
theorem dX2_named_47 : xd cX2_named 47 (.bipush 15) 2 49 := ⟨by decide +kernel, rfl⟩
theorem dX2_named_49 : xd cX2_named 49 .iand 1 50 := ⟨by decide +kernel, rfl⟩
theorem dX2_named_50 : xd cX2_named 50 .iadd 1 51 := ⟨by decide +kernel, rfl⟩
theorem dX2_named_51 : xd cX2_named 51 (.iload_n 3) 1 52 := ⟨by decide +kernel, rfl⟩
theorem dX2_named_52 : xd cX2_named 52 (.bipush 8) 2 54 := ⟨by decide +kernel, rfl⟩
theorem dX2_named_54 : xd cX2_named 54 .ishr 1 55 := ⟨by decide +kernel, rfl⟩
theorem dX2_named_55 : xd cX2_named 55 (.bipush 15) 2 57 := ⟨by decide +kernel, rfl⟩
theorem dX2_named_57 : xd cX2_named 57 .iand 1 58 := ⟨by decide +kernel, rfl⟩
theorem dX2_named_58 : xd cX2_named 58 .iadd 1 59 := ⟨by decide +kernel, rfl⟩
theorem dX2_named_59 : xd cX2_named 59 (.iload_n 3) 1 60 := ⟨by decide +kernel, rfl⟩
theorem dX2_named_60 : xd cX2_named 60 (.bipush 12) 2 62 := ⟨by decide +kernel, rfl⟩
theorem dX2_named_62 : xd cX2_named 62 .ishr 1 63 := ⟨by decide +kernel, rfl⟩
theorem dX2_named_63 : xd cX2_named 63 (.bipush 15) 2 65 := ⟨by decide +kernel, rfl⟩
theorem dX2_named_65 : xd cX2_named 65 .iand 1 66 := ⟨by decide +kernel, rfl⟩
theorem dX2_named_66 : xd cX2_named 66 .iadd 1 67 := ⟨by decide +kernel, rfl⟩
theorem dX2_named_67 : xd cX2_named 67 .ireturn 1 68 := ⟨by decide +kernel, rfl⟩
theorem dX2_named_68 : xd cX2_named 68 (.iload_n 3) 1 69 := ⟨by decide +kernel, rfl⟩
theorem dX2_named_69 : xd cX2_named 69 (.bipush 15) 2 71 := ⟨by decide +kernel, rfl⟩
theorem dX2_named_71 : xd cX2_named 71 .iand 1 72 := ⟨by decide +kernel, rfl⟩
theorem dX2_named_72 : xd cX2_named 72 .ireturn 1 73 := ⟨by decide +kernel, rfl⟩
theorem dX2_named_73 : xd cX2_named 73 (.iload_n 3) 1 74 := ⟨by decide +kernel, rfl⟩
theorem dX2_named_74 : xd cX2_named 74 (.bipush 12) 2 76 := ⟨by decide +kernel, rfl⟩
theorem dX2_named_76 : xd cX2_named 76 .ishr 1 77 := ⟨by decide +kernel, rfl⟩
theorem dX2_named_77 : xd cX2_named 77 (.bipush 15) 2 79 := ⟨by decide +kernel, rfl⟩
theorem dX2_named_79 : xd cX2_named 79 .iand 1 80 := ⟨by decide +kernel, rfl⟩
theorem dX2_named_80 : xd cX2_named 80 .ireturn 1 81 := ⟨by decide +kernel, rfl⟩
theorem dX2_named_81 : xd cX2_named 81 (.iload_n 2) 1 82 := ⟨by decide +kernel, rfl⟩
theorem dX2_named_82 : xd cX2_named 82 (.sipush 1365) 3 85 := ⟨by decide +kernel, rfl⟩
theorem dX2_named_85 : xd cX2_named 85 .iand 1 86 := ⟨by decide +kernel, rfl⟩
theorem dX2_named_86 : xd cX2_named 86 (.invokestatic 50) 3 89 := ⟨by decide +kernel, rfl⟩
theorem dX2_named_89 : xd cX2_named 89 .ireturn 1 90 := ⟨by decide +kernel, rfl⟩
theorem dX2_named_90 : xd cX2_named 90 (.iload_n 2) 1 91 := ⟨by decide +kernel, rfl⟩
theorem dX2_named_91 : xd cX2_named 91 (.invokestatic 56) 3 94 := ⟨by decide +kernel, rfl⟩
theorem dX2_named_94 : xd cX2_named 94 .ireturn 1 95 := ⟨by decide +kernel, rfl⟩
theorem dX2_named_95 : xd cX2_named 95 (.iload_n 2) 1 96 := ⟨by decide +kernel, rfl⟩
theorem dX2_named_96 : xd cX2_named 96 (.iload 4) 2 98 := ⟨by decide +kernel, rfl⟩
theorem dX2_named_98 : xd cX2_named 98 .iand 1 99 := ⟨by decide +kernel, rfl⟩
theorem dX2_named_99 : xd cX2_named 99 (.invokestatic 50) 3 102 := ⟨by decide +kernel, rfl⟩
theorem dX2_named_102 : xd cX2_named 102 .ireturn 1 103 := ⟨by decide +kernel, rfl⟩
theorem dX2_named_103 : xd cX2_named 103 (.aload_n 0) 1 104 := ⟨by decide +kernel, rfl⟩
theorem dX2_named_104 : xd cX2_named 104 (.getfield 15) 3 107 := ⟨by decide +kernel, rfl⟩
theorem dX2_named_107 : xd cX2_named 107 (.getfield 59) 3 110 := ⟨by decide +kernel, rfl⟩
theorem dX2_named_110 : xd cX2_named 110 .ireturn 1 111 := ⟨by decide +kernel, rfl⟩

set_option maxRecDepth 100000 in
set_option maxHeartbeats 4000000 in
theorem ct_X2_named (l : Launch) (g : XG) (aV aS aVs : Nat) (aSk aSm aSp aSt aSc aSr aSe gr br cs wk : Nat) (z : Int32) (n p lat : Nat) (hn : n < 2 ^ 31) (hp : p < 495) : Ct l g 2 0 0 yX2_named cX2_named 5 (some .int) [.ref aV, .int (nI n), .int (nI (rowB p)), .int (nI (packB p)), .int (nI lat)] [(aV, .inr (2, [.ref aS, .ref aVs])), (aS, .inr (6, [.ref aSk, .ref aSm, .ref aSp, .ref aSt, .ref aSc, .ref aSr, .ref aSe, .int (nI gr), .int (nI br), .int (nI cs), .int (nI wk), .int z]))] (xpi (nI (nmN wk lat (rowB p) n)) [(aV, .inr (2, [.ref aS, .ref aVs])), (aS, .inr (6, [.ref aSk, .ref aSm, .ref aSp, .ref aSt, .ref aSc, .ref aSr, .ref aSe, .int (nI gr), .int (nI br), .int (nI cs), .int (nI wk), .int z]))]) := by
  refine Ct.ofX (lv := [some (.ref aV), some (.int (nI n)), some (.int (nI (rowB p))), some (.int (nI (packB p))), some (.int (nI lat))]) (by decide) rfl (Nat.le_of_ble_eq_true rfl) (fun κ => ?_)
  generalize hQ : xQ κ g 0 0 _ = Q
  obtain ⟨q1, q2, q3, q4, -⟩ := pk_all hp
  refine x_iload_n dX2_named_0 rfl ?_
  by_cases c1_0 : nI n = 0
  · refine x_reS c1_0 ?_
    have c1_0n := (nI_eq (a := n) (b := 0) (by omega) (by decide)).mp c1_0
    refine x_tabIn (off := 39) 40 dX2_named_1 (by decide) (by decide) rfl (by decide) ?_
    refine x_iload_n dX2_named_40 rfl ?_
    refine x_bipush 15 dX2_named_41 (by decide) ?_
    refine x_iand dX2_named_43 ?_
    refine x_rei (nI ((packB p) &&& 15)) (nI_iand (packB p) 15) ?_
    refine x_rei (nI (nAr (rowB p))) (q1) ?_
    refine x_iload_n dX2_named_44 rfl ?_
    refine x_iconst 4 dX2_named_45 (by decide) ?_
    refine x_ishr dX2_named_46 ?_
    refine x_bipush 15 dX2_named_47 (by decide) ?_
    refine x_iand dX2_named_49 ?_
    refine x_rei (nI (nBr (rowB p))) (q2) ?_
    refine x_iadd dX2_named_50 ?_
    refine x_rei (nI ((nAr (rowB p)) + (nBr (rowB p)))) (nI_iadd (nAr (rowB p)) (nBr (rowB p))) ?_
    refine x_iload_n dX2_named_51 rfl ?_
    refine x_bipush 8 dX2_named_52 (by decide) ?_
    refine x_ishr dX2_named_54 ?_
    refine x_bipush 15 dX2_named_55 (by decide) ?_
    refine x_iand dX2_named_57 ?_
    refine x_rei (nI (nCr (rowB p))) (q3) ?_
    refine x_iadd dX2_named_58 ?_
    refine x_rei (nI (((nAr (rowB p)) + (nBr (rowB p))) + (nCr (rowB p)))) (nI_iadd ((nAr (rowB p)) + (nBr (rowB p))) (nCr (rowB p))) ?_
    refine x_iload_n dX2_named_59 rfl ?_
    refine x_bipush 12 dX2_named_60 (by decide) ?_
    refine x_ishr dX2_named_62 ?_
    refine x_bipush 15 dX2_named_63 (by decide) ?_
    refine x_iand dX2_named_65 ?_
    refine x_rei (nI (nDr (rowB p))) (q4) ?_
    refine x_iadd dX2_named_66 ?_
    refine x_rei (nI ((((nAr (rowB p)) + (nBr (rowB p))) + (nCr (rowB p))) + (nDr (rowB p)))) (nI_iadd (((nAr (rowB p)) + (nBr (rowB p))) + (nCr (rowB p))) (nDr (rowB p))) ?_
    rw [← hQ]
    refine x_iret dX2_named_67 rfl (Nat.le_of_ble_eq_true rfl) (Nat.le_of_ble_eq_true rfl) ?_
    exact ⟨by simp [nmN, fSr, c1_0n], rfl⟩
  have c1_0n := mt (nI_eq (a := n) (b := 0) (by omega) (by decide)).mpr c1_0
  by_cases c1_1 : nI n = 1
  · refine x_reS c1_1 ?_
    have c1_1n := (nI_eq (a := n) (b := 1) (by omega) (by decide)).mp c1_1
    refine x_tabIn (off := 67) 68 dX2_named_1 (by decide) (by decide) rfl (by decide) ?_
    refine x_iload_n dX2_named_68 rfl ?_
    refine x_bipush 15 dX2_named_69 (by decide) ?_
    refine x_iand dX2_named_71 ?_
    refine x_rei (nI ((packB p) &&& 15)) (nI_iand (packB p) 15) ?_
    refine x_rei (nI (nAr (rowB p))) (q1) ?_
    rw [← hQ]
    refine x_iret dX2_named_72 rfl (Nat.le_of_ble_eq_true rfl) (Nat.le_of_ble_eq_true rfl) ?_
    exact ⟨by simp [nmN, fSr, c1_1n], rfl⟩
  have c1_1n := mt (nI_eq (a := n) (b := 1) (by omega) (by decide)).mpr c1_1
  by_cases c1_2 : nI n = 2
  · refine x_reS c1_2 ?_
    have c1_2n := (nI_eq (a := n) (b := 2) (by omega) (by decide)).mp c1_2
    refine x_tabIn (off := 72) 73 dX2_named_1 (by decide) (by decide) rfl (by decide) ?_
    refine x_iload_n dX2_named_73 rfl ?_
    refine x_bipush 12 dX2_named_74 (by decide) ?_
    refine x_ishr dX2_named_76 ?_
    refine x_bipush 15 dX2_named_77 (by decide) ?_
    refine x_iand dX2_named_79 ?_
    refine x_rei (nI (nDr (rowB p))) (q4) ?_
    rw [← hQ]
    refine x_iret dX2_named_80 rfl (Nat.le_of_ble_eq_true rfl) (Nat.le_of_ble_eq_true rfl) ?_
    exact ⟨by simp [nmN, fSr, c1_2n], rfl⟩
  have c1_2n := mt (nI_eq (a := n) (b := 2) (by omega) (by decide)).mpr c1_2
  by_cases c1_3 : nI n = 3
  · refine x_reS c1_3 ?_
    have c1_3n := (nI_eq (a := n) (b := 3) (by omega) (by decide)).mp c1_3
    refine x_tabIn (off := 80) 81 dX2_named_1 (by decide) (by decide) rfl (by decide) ?_
    refine x_iload_n dX2_named_81 rfl ?_
    refine x_sipush 1365 dX2_named_82 (by decide) ?_
    refine x_iand dX2_named_85 ?_
    refine x_rei (nI ((rowB p) &&& 1365)) (nI_iand (rowB p) 1365) ?_
    refine x_cSi dX2_named_86 ml_X2_50 mJ6_bitCount_0f7a4 (ct_bitCount_n κ.2.1 g ((rowB p) &&& 1365) (by first | exact and_lt (by decide) | exact and_ltl (rowB_lt _) | exact rowB_lt _ | omega)) rfl (Nat.le_of_ble_eq_true rfl) (by decide) (Nat.le_refl _) (Nat.le_refl _) ?_
    rw [← hQ]
    refine x_iret dX2_named_89 rfl (Nat.le_of_ble_eq_true rfl) (Nat.le_of_ble_eq_true rfl) ?_
    exact ⟨by simp [nmN, fSr, c1_3n], rfl⟩
  have c1_3n := mt (nI_eq (a := n) (b := 3) (by omega) (by decide)).mpr c1_3
  by_cases c1_4 : nI n = 4
  · refine x_reS c1_4 ?_
    have c1_4n := (nI_eq (a := n) (b := 4) (by omega) (by decide)).mp c1_4
    refine x_tabIn (off := 89) 90 dX2_named_1 (by decide) (by decide) rfl (by decide) ?_
    refine x_iload_n dX2_named_90 rfl ?_
    refine x_cSi dX2_named_91 ml_X2_56 mX2_longestChain (ct_X2_longestChain κ.2.1 g (rowB p) (by first | exact rowB_lt _ | omega)) rfl (Nat.le_of_ble_eq_true rfl) (by decide) (Nat.le_refl _) (Nat.le_refl _) ?_
    rw [← hQ]
    refine x_iret dX2_named_94 rfl (Nat.le_of_ble_eq_true rfl) (Nat.le_of_ble_eq_true rfl) ?_
    exact ⟨by simp [nmN, fSr, c1_4n], rfl⟩
  have c1_4n := mt (nI_eq (a := n) (b := 4) (by omega) (by decide)).mpr c1_4
  by_cases c1_5 : nI n = 5
  · refine x_reS c1_5 ?_
    have c1_5n := (nI_eq (a := n) (b := 5) (by omega) (by decide)).mp c1_5
    refine x_tabIn (off := 94) 95 dX2_named_1 (by decide) (by decide) rfl (by decide) ?_
    refine x_iload_n dX2_named_95 rfl ?_
    refine x_iload dX2_named_96 rfl ?_
    refine x_iand dX2_named_98 ?_
    refine x_rei (nI ((rowB p) &&& lat)) (nI_iand (rowB p) lat) ?_
    refine x_cSi dX2_named_99 ml_X2_50 mJ6_bitCount_0f7a4 (ct_bitCount_n κ.2.1 g ((rowB p) &&& lat) (by first | exact and_lt (by decide) | exact and_ltl (rowB_lt _) | exact rowB_lt _ | omega)) rfl (Nat.le_of_ble_eq_true rfl) (by decide) (Nat.le_refl _) (Nat.le_refl _) ?_
    rw [← hQ]
    refine x_iret dX2_named_102 rfl (Nat.le_of_ble_eq_true rfl) (Nat.le_of_ble_eq_true rfl) ?_
    exact ⟨by simp [nmN, fSr, c1_5n], rfl⟩
  have c1_5n := mt (nI_eq (a := n) (b := 5) (by omega) (by decide)).mpr c1_5
  refine x_tabD 103 dX2_named_1 (by decide) (fun t ht => match t, ht with | 0, _ => Or.inr (xtne c1_0 (by decide)) | 1, _ => Or.inr (xtne c1_1 (by decide)) | 2, _ => Or.inr (xtne c1_2 (by decide)) | 3, _ => Or.inr (xtne c1_3 (by decide)) | 4, _ => Or.inr (xtne c1_4 (by decide)) | 5, _ => Or.inr (xtne c1_5 (by decide)) | t + 6, ht => absurd ht (by simp)) (by decide) ?_
  refine x_aload_n dX2_named_103 rfl ?_
  refine x_get dX2_named_104 0 0 inX2 fl_X2_15 rfl rfl (by decide) rfl ?_
  refine x_get dX2_named_107 1 10 inX6 fl_X2_59 rfl rfl (by decide) rfl ?_
  rw [← hQ]
  refine x_iret dX2_named_110 rfl (Nat.le_of_ble_eq_true rfl) (Nat.le_of_ble_eq_true rfl) ?_
  exact ⟨by simp [nmN, c1_0n, c1_1n, c1_2n, c1_3n, c1_4n, c1_5n], rfl⟩

-- == act_m1 ==
theorem dX2_act_0 : xd cX2_act 0 (.iload_n 1) 1 1 := ⟨by decide +kernel, rfl⟩
theorem dX2_act_1 : xd cX2_act 1 (.bipush (-4)) 2 3 := ⟨by decide +kernel, rfl⟩
theorem dX2_act_3 : xj cX2_act 3 (.if_icmp .ne) 6 10 := ⟨7, by decide +kernel, rfl, by decide⟩
theorem dX2_act_6 : xd cX2_act 6 (.iconst 3) 1 7 := ⟨by decide +kernel, rfl⟩
theorem dX2_act_7 : xj cX2_act 7 .goto 10 11 := ⟨4, by decide +kernel, rfl, by decide⟩
theorem dX2_act_10 : xd cX2_act 10 (.iconst 2) 1 11 := ⟨by decide +kernel, rfl⟩
theorem dX2_act_11 : xd cX2_act 11 (.istore_n 3) 1 12 := ⟨by decide +kernel, rfl⟩
theorem dX2_act_12 : xd cX2_act 12 (.iload_n 2) 1 13 := ⟨by decide +kernel, rfl⟩
theorem dX2_act_13 : xd cX2_act 13 (.iload_n 3) 1 14 := ⟨by decide +kernel, rfl⟩
theorem dX2_act_14 : xd cX2_act 14 .isub 1 15 := ⟨by decide +kernel, rfl⟩
theorem dX2_act_15 : xd cX2_act 15 (.istore 4) 2 17 := ⟨by decide +kernel, rfl⟩
theorem dX2_act_17 : xd cX2_act 17 (.iload 4) 2 19 := ⟨by decide +kernel, rfl⟩
theorem dX2_act_19 : xj cX2_act 19 (.ifCond .lt) 22 28 := ⟨9, by decide +kernel, rfl, by decide⟩
theorem dX2_act_22 : xd cX2_act 22 (.iload_n 2) 1 23 := ⟨by decide +kernel, rfl⟩
theorem dX2_act_23 : xd cX2_act 23 (.bipush 60) 2 25 := ⟨by decide +kernel, rfl⟩
theorem dX2_act_25 : xj cX2_act 25 (.if_icmp .le) 28 30 := ⟨5, by decide +kernel, rfl, by decide⟩
theorem dX2_act_28 : xd cX2_act 28 (.iload_n 2) 1 29 := ⟨by decide +kernel, rfl⟩
theorem dX2_act_29 : xd cX2_act 29 .ireturn 1 30 := ⟨by decide +kernel, rfl⟩
theorem dX2_act_30 : xd cX2_act 30 (.iload_n 1) 1 31 := ⟨by decide +kernel, rfl⟩
theorem dX2_act_31 : decode cX2_act 31 = .ok (.tableswitch 91 (-3) (-1) #[69, 47, 25], 25) := by decide +kernel
theorem dX2_act_56 : xd cX2_act 56 (.aload_n 0) 1 57 := ⟨by decide +kernel, rfl⟩
theorem dX2_act_57 : xd cX2_act 57 (.getfield 9) 3 60 := ⟨by decide +kernel, rfl⟩
theorem dX2_act_60 : xd cX2_act 60 (.iload 4) 2 62 := ⟨by decide +kernel, rfl⟩
theorem dX2_act_62 : xd cX2_act 62 .dup2 1 63 := ⟨by decide +kernel, rfl⟩
theorem dX2_act_63 : xd cX2_act 63 .iaload 1 64 := ⟨by decide +kernel, rfl⟩
theorem dX2_act_64 : xd cX2_act 64 (.aload_n 0) 1 65 := ⟨by decide +kernel, rfl⟩
theorem dX2_act_65 : xd cX2_act 65 (.getfield 9) 3 68 := ⟨by decide +kernel, rfl⟩
theorem dX2_act_68 : xd cX2_act 68 (.iload 4) 2 70 := ⟨by decide +kernel, rfl⟩
theorem dX2_act_70 : xd cX2_act 70 (.iconst 1) 1 71 := ⟨by decide +kernel, rfl⟩
theorem dX2_act_71 : xd cX2_act 71 .iadd 1 72 := ⟨by decide +kernel, rfl⟩
theorem dX2_act_72 : xd cX2_act 72 .iaload 1 73 := ⟨by decide +kernel, rfl⟩
theorem dX2_act_73 : xd cX2_act 73 .iadd 1 74 := ⟨by decide +kernel, rfl⟩
theorem dX2_act_74 : xd cX2_act 74 .iastore 1 75 := ⟨by decide +kernel, rfl⟩
theorem dX2_act_75 : xj cX2_act 75 .goto 78 159 := ⟨84, by decide +kernel, rfl, by decide⟩
theorem dX2_act_78 : xd cX2_act 78 (.aload_n 0) 1 79 := ⟨by decide +kernel, rfl⟩
theorem dX2_act_79 : xd cX2_act 79 (.getfield 9) 3 82 := ⟨by decide +kernel, rfl⟩
theorem dX2_act_82 : xd cX2_act 82 (.iload 4) 2 84 := ⟨by decide +kernel, rfl⟩
theorem dX2_act_84 : xd cX2_act 84 .dup2 1 85 := ⟨by decide +kernel, rfl⟩
theorem dX2_act_85 : xd cX2_act 85 .iaload 1 86 := ⟨by decide +kernel, rfl⟩
theorem dX2_act_86 : xd cX2_act 86 (.aload_n 0) 1 87 := ⟨by decide +kernel, rfl⟩
theorem dX2_act_87 : xd cX2_act 87 (.getfield 9) 3 90 := ⟨by decide +kernel, rfl⟩
theorem dX2_act_90 : xd cX2_act 90 (.iload 4) 2 92 := ⟨by decide +kernel, rfl⟩
theorem dX2_act_92 : xd cX2_act 92 (.iconst 1) 1 93 := ⟨by decide +kernel, rfl⟩
theorem dX2_act_93 : xd cX2_act 93 .iadd 1 94 := ⟨by decide +kernel, rfl⟩
theorem dX2_act_94 : xd cX2_act 94 .iaload 1 95 := ⟨by decide +kernel, rfl⟩
theorem dX2_act_95 : xd cX2_act 95 .isub 1 96 := ⟨by decide +kernel, rfl⟩
theorem dX2_act_96 : xd cX2_act 96 .iastore 1 97 := ⟨by decide +kernel, rfl⟩
theorem dX2_act_97 : xj cX2_act 97 .goto 100 159 := ⟨62, by decide +kernel, rfl, by decide⟩
theorem dX2_act_100 : xd cX2_act 100 (.aload_n 0) 1 101 := ⟨by decide +kernel, rfl⟩
theorem dX2_act_101 : xd cX2_act 101 (.getfield 9) 3 104 := ⟨by decide +kernel, rfl⟩
theorem dX2_act_104 : xd cX2_act 104 (.iload 4) 2 106 := ⟨by decide +kernel, rfl⟩
theorem dX2_act_106 : xd cX2_act 106 .dup2 1 107 := ⟨by decide +kernel, rfl⟩
theorem dX2_act_107 : xd cX2_act 107 .iaload 1 108 := ⟨by decide +kernel, rfl⟩
theorem dX2_act_108 : xd cX2_act 108 (.aload_n 0) 1 109 := ⟨by decide +kernel, rfl⟩
theorem dX2_act_109 : xd cX2_act 109 (.getfield 9) 3 112 := ⟨by decide +kernel, rfl⟩
theorem dX2_act_112 : xd cX2_act 112 (.iload 4) 2 114 := ⟨by decide +kernel, rfl⟩
theorem dX2_act_114 : xd cX2_act 114 (.iconst 1) 1 115 := ⟨by decide +kernel, rfl⟩
theorem dX2_act_115 : xd cX2_act 115 .iadd 1 116 := ⟨by decide +kernel, rfl⟩
theorem dX2_act_116 : xd cX2_act 116 .iaload 1 117 := ⟨by decide +kernel, rfl⟩
theorem dX2_act_117 : xd cX2_act 117 .imul 1 118 := ⟨by decide +kernel, rfl⟩
theorem dX2_act_118 : xd cX2_act 118 .iastore 1 119 := ⟨by decide +kernel, rfl⟩
theorem dX2_act_119 : xj cX2_act 119 .goto 122 159 := ⟨40, by decide +kernel, rfl, by decide⟩
theorem dX2_act_122 : xd cX2_act 122 (.aload_n 0) 1 123 := ⟨by decide +kernel, rfl⟩
theorem dX2_act_123 : xd cX2_act 123 (.getfield 9) 3 126 := ⟨by decide +kernel, rfl⟩
theorem dX2_act_126 : xd cX2_act 126 (.iload 4) 2 128 := ⟨by decide +kernel, rfl⟩
theorem dX2_act_128 : xd cX2_act 128 (.aload_n 0) 1 129 := ⟨by decide +kernel, rfl⟩
theorem dX2_act_129 : xd cX2_act 129 (.getfield 9) 3 132 := ⟨by decide +kernel, rfl⟩
theorem dX2_act_132 : xd cX2_act 132 (.iload 4) 2 134 := ⟨by decide +kernel, rfl⟩
theorem dX2_act_134 : xd cX2_act 134 .iaload 1 135 := ⟨by decide +kernel, rfl⟩
theorem dX2_act_135 : xj cX2_act 135 (.ifCond .le) 138 150 := ⟨15, by decide +kernel, rfl, by decide⟩
theorem dX2_act_138 : xd cX2_act 138 (.aload_n 0) 1 139 := ⟨by decide +kernel, rfl⟩
theorem dX2_act_139 : xd cX2_act 139 (.getfield 9) 3 142 := ⟨by decide +kernel, rfl⟩
theorem dX2_act_142 : xd cX2_act 142 (.iload 4) 2 144 := ⟨by decide +kernel, rfl⟩
theorem dX2_act_144 : xd cX2_act 144 (.iconst 1) 1 145 := ⟨by decide +kernel, rfl⟩
theorem dX2_act_145 : xd cX2_act 145 .iadd 1 146 := ⟨by decide +kernel, rfl⟩
theorem dX2_act_146 : xd cX2_act 146 .iaload 1 147 := ⟨by decide +kernel, rfl⟩
theorem dX2_act_147 : xj cX2_act 147 .goto 150 158 := ⟨11, by decide +kernel, rfl, by decide⟩
theorem dX2_act_150 : xd cX2_act 150 (.aload_n 0) 1 151 := ⟨by decide +kernel, rfl⟩
theorem dX2_act_151 : xd cX2_act 151 (.getfield 9) 3 154 := ⟨by decide +kernel, rfl⟩
theorem dX2_act_154 : xd cX2_act 154 (.iload_n 2) 1 155 := ⟨by decide +kernel, rfl⟩
theorem dX2_act_155 : xd cX2_act 155 (.iconst 1) 1 156 := ⟨by decide +kernel, rfl⟩
theorem dX2_act_156 : xd cX2_act 156 .isub 1 157 := ⟨by decide +kernel, rfl⟩
theorem dX2_act_157 : xd cX2_act 157 .iaload 1 158 := ⟨by decide +kernel, rfl⟩
theorem dX2_act_158 : xd cX2_act 158 .iastore 1 159 := ⟨by decide +kernel, rfl⟩
theorem dX2_act_159 : xd cX2_act 159 (.iload 4) 2 161 := ⟨by decide +kernel, rfl⟩
theorem dX2_act_161 : xd cX2_act 161 (.iconst 1) 1 162 := ⟨by decide +kernel, rfl⟩
theorem dX2_act_162 : xd cX2_act 162 .iadd 1 163 := ⟨by decide +kernel, rfl⟩
theorem dX2_act_163 : xd cX2_act 163 .ireturn 1 164 := ⟨by decide +kernel, rfl⟩

set_option maxRecDepth 100000 in
set_option maxHeartbeats 4000000 in
theorem ct_act_m1 (l : Launch) (g : XG) (aV aS aVs : Nat) (sk : Nat → Int32) (t : Nat) (ht : 2 ≤ t ∧ t ≤ 60) : Ct l g 1 0 0 yX2_act cX2_act 5 (some .int) [.ref aV, .int ((-1)), .int (nI t)] [(aV, .inr (2, [.ref aS, .ref aVs])), (aVs, .inl (g.2.1 0, 60, .inl sk))] (xpi (nI (t - 2 + 1)) [(aV, .inr (2, [.ref aS, .ref aVs])), (aVs, .inl (g.2.1 0, 60, .inl (upd sk (t - 2) (sk (t - 2) + sk (t - 2 + 1)))))]) := by
  refine Ct.ofX (lv := [some (.ref aV), some (.int ((-1))), some (.int (nI t)), none, none]) (by decide) rfl (Nat.le_of_ble_eq_true rfl) (fun κ => ?_)
  generalize hQ : xQ κ g 0 0 _ = Q
  refine x_iload_n dX2_act_0 rfl ?_
  refine x_bipush (-4) dX2_act_1 (by decide) ?_
  refine x_icmp_ne dX2_act_3 (fun c3 => ?_) (fun c3 => ?_)
  rotate_left
  · exact absurd c3 (by decide)
  refine x_iconst 2 dX2_act_10 (by decide) ?_
  refine x_istore_n (lv' := [some (.ref aV), some (.int ((-1))), some (.int (nI t)), some (.int 2), none]) dX2_act_11 (xlt rfl) rfl ?_
  refine x_iload_n dX2_act_12 rfl ?_
  refine x_iload_n dX2_act_13 rfl ?_
  refine x_isub dX2_act_14 ?_
  refine x_rei (nI (t - 2)) (nI_isub t 2 (by omega)) ?_
  refine x_istore (lv' := [some (.ref aV), some (.int ((-1))), some (.int (nI t)), some (.int 2), some (.int (nI (t - 2)))]) dX2_act_15 (xlt rfl) rfl ?_
  refine x_iload dX2_act_17 rfl ?_
  refine x_if_lt dX2_act_19 (fun c19 => ?_) (fun c19 => ?_)
  · have c19 : (nI (t - 2)) < 0 := c19
    have c19n := (nI_ltI (a := (t - 2)) (b := 0) (by omega) (by omega)).mp c19
    exact absurd c19n (by omega)
  · have c19 : ¬ ((nI (t - 2)) < 0) := c19
    have c19n := mt (nI_ltI (a := (t - 2)) (b := 0) (by omega) (by omega)).mpr c19
    refine x_iload_n dX2_act_22 rfl ?_
    refine x_bipush 60 dX2_act_23 (by decide) ?_
    refine x_icmp_le dX2_act_25 (fun c25 => ?_) (fun c25 => ?_)
    · have c25 : (nI t) ≤ 60 := c25
      have c25n := (nI_leI (a := t) (b := 60) (by omega) (by omega)).mp c25
      refine x_iload_n dX2_act_30 rfl ?_
      refine x_tabIn (off := 25) 56 dX2_act_31 (by decide) (by decide) rfl (by decide) ?_
      refine x_aload_n dX2_act_56 rfl ?_
      refine x_get dX2_act_57 0 1 inX2 fl_X2_9 rfl rfl (by decide) rfl ?_
      refine x_iload dX2_act_60 rfl ?_
      refine x_dup2 dX2_act_62 rfl rfl ?_
      refine x_iald dX2_act_63 1 (t - 2) rfl (rfl) (by omega) (by decide) ?_
      refine x_aload_n dX2_act_64 rfl ?_
      refine x_get dX2_act_65 0 1 inX2 fl_X2_9 rfl rfl (by decide) rfl ?_
      refine x_iload dX2_act_68 rfl ?_
      refine x_iconst 1 dX2_act_70 (by decide) ?_
      refine x_iadd dX2_act_71 ?_
      refine x_rei (nI ((t - 2) + 1)) (nI_addc (t - 2) 1 rfl) ?_
      refine x_iald dX2_act_72 1 ((t - 2) + 1) rfl (rfl) (by omega) (by decide) ?_
      refine x_iadd dX2_act_73 ?_
      refine x_iast (ws' := [(aV, .inr (2, [.ref aS, .ref aVs])), (aVs, .inl (g.2.1 0, 60, .inl (upd sk (t - 2) ((sk (t - 2)) + (sk ((t - 2) + 1))))))]) dX2_act_74 1 (t - 2) rfl (rfl) (by omega) (by decide) rfl ?_
      refine x_goto dX2_act_75 ?_
      refine x_iload dX2_act_159 rfl ?_
      refine x_iconst 1 dX2_act_161 (by decide) ?_
      refine x_iadd dX2_act_162 ?_
      refine x_rei (nI ((t - 2) + 1)) (nI_addc (t - 2) 1 rfl) ?_
      rw [← hQ]
      refine x_iret dX2_act_163 rfl (Nat.le_of_ble_eq_true rfl) (Nat.le_of_ble_eq_true rfl) ?_
      exact ⟨rfl, rfl⟩
    · have c25 : ¬ ((nI t) ≤ 60) := c25
      have c25n := mt (nI_leI (a := t) (b := 60) (by omega) (by omega)).mpr c25
      exact absurd c25n (by omega)

-- == act_m2 ==
set_option maxRecDepth 100000 in
set_option maxHeartbeats 4000000 in
theorem ct_act_m2 (l : Launch) (g : XG) (aV aS aVs : Nat) (sk : Nat → Int32) (t : Nat) (ht : 2 ≤ t ∧ t ≤ 60) : Ct l g 1 0 0 yX2_act cX2_act 5 (some .int) [.ref aV, .int ((-2)), .int (nI t)] [(aV, .inr (2, [.ref aS, .ref aVs])), (aVs, .inl (g.2.1 0, 60, .inl sk))] (xpi (nI (t - 2 + 1)) [(aV, .inr (2, [.ref aS, .ref aVs])), (aVs, .inl (g.2.1 0, 60, .inl (upd sk (t - 2) (sk (t - 2) - sk (t - 2 + 1)))))]) := by
  refine Ct.ofX (lv := [some (.ref aV), some (.int ((-2))), some (.int (nI t)), none, none]) (by decide) rfl (Nat.le_of_ble_eq_true rfl) (fun κ => ?_)
  generalize hQ : xQ κ g 0 0 _ = Q
  refine x_iload_n dX2_act_0 rfl ?_
  refine x_bipush (-4) dX2_act_1 (by decide) ?_
  refine x_icmp_ne dX2_act_3 (fun c3 => ?_) (fun c3 => ?_)
  rotate_left
  · exact absurd c3 (by decide)
  refine x_iconst 2 dX2_act_10 (by decide) ?_
  refine x_istore_n (lv' := [some (.ref aV), some (.int ((-2))), some (.int (nI t)), some (.int 2), none]) dX2_act_11 (xlt rfl) rfl ?_
  refine x_iload_n dX2_act_12 rfl ?_
  refine x_iload_n dX2_act_13 rfl ?_
  refine x_isub dX2_act_14 ?_
  refine x_rei (nI (t - 2)) (nI_isub t 2 (by omega)) ?_
  refine x_istore (lv' := [some (.ref aV), some (.int ((-2))), some (.int (nI t)), some (.int 2), some (.int (nI (t - 2)))]) dX2_act_15 (xlt rfl) rfl ?_
  refine x_iload dX2_act_17 rfl ?_
  refine x_if_lt dX2_act_19 (fun c19 => ?_) (fun c19 => ?_)
  · have c19 : (nI (t - 2)) < 0 := c19
    have c19n := (nI_ltI (a := (t - 2)) (b := 0) (by omega) (by omega)).mp c19
    exact absurd c19n (by omega)
  · have c19 : ¬ ((nI (t - 2)) < 0) := c19
    have c19n := mt (nI_ltI (a := (t - 2)) (b := 0) (by omega) (by omega)).mpr c19
    refine x_iload_n dX2_act_22 rfl ?_
    refine x_bipush 60 dX2_act_23 (by decide) ?_
    refine x_icmp_le dX2_act_25 (fun c25 => ?_) (fun c25 => ?_)
    · have c25 : (nI t) ≤ 60 := c25
      have c25n := (nI_leI (a := t) (b := 60) (by omega) (by omega)).mp c25
      refine x_iload_n dX2_act_30 rfl ?_
      refine x_tabIn (off := 47) 78 dX2_act_31 (by decide) (by decide) rfl (by decide) ?_
      refine x_aload_n dX2_act_78 rfl ?_
      refine x_get dX2_act_79 0 1 inX2 fl_X2_9 rfl rfl (by decide) rfl ?_
      refine x_iload dX2_act_82 rfl ?_
      refine x_dup2 dX2_act_84 rfl rfl ?_
      refine x_iald dX2_act_85 1 (t - 2) rfl (rfl) (by omega) (by decide) ?_
      refine x_aload_n dX2_act_86 rfl ?_
      refine x_get dX2_act_87 0 1 inX2 fl_X2_9 rfl rfl (by decide) rfl ?_
      refine x_iload dX2_act_90 rfl ?_
      refine x_iconst 1 dX2_act_92 (by decide) ?_
      refine x_iadd dX2_act_93 ?_
      refine x_rei (nI ((t - 2) + 1)) (nI_addc (t - 2) 1 rfl) ?_
      refine x_iald dX2_act_94 1 ((t - 2) + 1) rfl (rfl) (by omega) (by decide) ?_
      refine x_isub dX2_act_95 ?_
      refine x_iast (ws' := [(aV, .inr (2, [.ref aS, .ref aVs])), (aVs, .inl (g.2.1 0, 60, .inl (upd sk (t - 2) ((sk (t - 2)) - (sk ((t - 2) + 1))))))]) dX2_act_96 1 (t - 2) rfl (rfl) (by omega) (by decide) rfl ?_
      refine x_goto dX2_act_97 ?_
      refine x_iload dX2_act_159 rfl ?_
      refine x_iconst 1 dX2_act_161 (by decide) ?_
      refine x_iadd dX2_act_162 ?_
      refine x_rei (nI ((t - 2) + 1)) (nI_addc (t - 2) 1 rfl) ?_
      rw [← hQ]
      refine x_iret dX2_act_163 rfl (Nat.le_of_ble_eq_true rfl) (Nat.le_of_ble_eq_true rfl) ?_
      exact ⟨rfl, rfl⟩
    · have c25 : ¬ ((nI t) ≤ 60) := c25
      have c25n := mt (nI_leI (a := t) (b := 60) (by omega) (by omega)).mpr c25
      exact absurd c25n (by omega)

-- == act_m3 ==
set_option maxRecDepth 100000 in
set_option maxHeartbeats 4000000 in
theorem ct_act_m3 (l : Launch) (g : XG) (aV aS aVs : Nat) (sk : Nat → Int32) (t : Nat) (ht : 2 ≤ t ∧ t ≤ 60) : Ct l g 1 0 0 yX2_act cX2_act 5 (some .int) [.ref aV, .int ((-3)), .int (nI t)] [(aV, .inr (2, [.ref aS, .ref aVs])), (aVs, .inl (g.2.1 0, 60, .inl sk))] (xpi (nI (t - 2 + 1)) [(aV, .inr (2, [.ref aS, .ref aVs])), (aVs, .inl (g.2.1 0, 60, .inl (upd sk (t - 2) (sk (t - 2) * sk (t - 2 + 1)))))]) := by
  refine Ct.ofX (lv := [some (.ref aV), some (.int ((-3))), some (.int (nI t)), none, none]) (by decide) rfl (Nat.le_of_ble_eq_true rfl) (fun κ => ?_)
  generalize hQ : xQ κ g 0 0 _ = Q
  refine x_iload_n dX2_act_0 rfl ?_
  refine x_bipush (-4) dX2_act_1 (by decide) ?_
  refine x_icmp_ne dX2_act_3 (fun c3 => ?_) (fun c3 => ?_)
  rotate_left
  · exact absurd c3 (by decide)
  refine x_iconst 2 dX2_act_10 (by decide) ?_
  refine x_istore_n (lv' := [some (.ref aV), some (.int ((-3))), some (.int (nI t)), some (.int 2), none]) dX2_act_11 (xlt rfl) rfl ?_
  refine x_iload_n dX2_act_12 rfl ?_
  refine x_iload_n dX2_act_13 rfl ?_
  refine x_isub dX2_act_14 ?_
  refine x_rei (nI (t - 2)) (nI_isub t 2 (by omega)) ?_
  refine x_istore (lv' := [some (.ref aV), some (.int ((-3))), some (.int (nI t)), some (.int 2), some (.int (nI (t - 2)))]) dX2_act_15 (xlt rfl) rfl ?_
  refine x_iload dX2_act_17 rfl ?_
  refine x_if_lt dX2_act_19 (fun c19 => ?_) (fun c19 => ?_)
  · have c19 : (nI (t - 2)) < 0 := c19
    have c19n := (nI_ltI (a := (t - 2)) (b := 0) (by omega) (by omega)).mp c19
    exact absurd c19n (by omega)
  · have c19 : ¬ ((nI (t - 2)) < 0) := c19
    have c19n := mt (nI_ltI (a := (t - 2)) (b := 0) (by omega) (by omega)).mpr c19
    refine x_iload_n dX2_act_22 rfl ?_
    refine x_bipush 60 dX2_act_23 (by decide) ?_
    refine x_icmp_le dX2_act_25 (fun c25 => ?_) (fun c25 => ?_)
    · have c25 : (nI t) ≤ 60 := c25
      have c25n := (nI_leI (a := t) (b := 60) (by omega) (by omega)).mp c25
      refine x_iload_n dX2_act_30 rfl ?_
      refine x_tabIn (off := 69) 100 dX2_act_31 (by decide) (by decide) rfl (by decide) ?_
      refine x_aload_n dX2_act_100 rfl ?_
      refine x_get dX2_act_101 0 1 inX2 fl_X2_9 rfl rfl (by decide) rfl ?_
      refine x_iload dX2_act_104 rfl ?_
      refine x_dup2 dX2_act_106 rfl rfl ?_
      refine x_iald dX2_act_107 1 (t - 2) rfl (rfl) (by omega) (by decide) ?_
      refine x_aload_n dX2_act_108 rfl ?_
      refine x_get dX2_act_109 0 1 inX2 fl_X2_9 rfl rfl (by decide) rfl ?_
      refine x_iload dX2_act_112 rfl ?_
      refine x_iconst 1 dX2_act_114 (by decide) ?_
      refine x_iadd dX2_act_115 ?_
      refine x_rei (nI ((t - 2) + 1)) (nI_addc (t - 2) 1 rfl) ?_
      refine x_iald dX2_act_116 1 ((t - 2) + 1) rfl (rfl) (by omega) (by decide) ?_
      refine x_imul dX2_act_117 ?_
      refine x_iast (ws' := [(aV, .inr (2, [.ref aS, .ref aVs])), (aVs, .inl (g.2.1 0, 60, .inl (upd sk (t - 2) ((sk (t - 2)) * (sk ((t - 2) + 1))))))]) dX2_act_118 1 (t - 2) rfl (rfl) (by omega) (by decide) rfl ?_
      refine x_goto dX2_act_119 ?_
      refine x_iload dX2_act_159 rfl ?_
      refine x_iconst 1 dX2_act_161 (by decide) ?_
      refine x_iadd dX2_act_162 ?_
      refine x_rei (nI ((t - 2) + 1)) (nI_addc (t - 2) 1 rfl) ?_
      rw [← hQ]
      refine x_iret dX2_act_163 rfl (Nat.le_of_ble_eq_true rfl) (Nat.le_of_ble_eq_true rfl) ?_
      exact ⟨rfl, rfl⟩
    · have c25 : ¬ ((nI t) ≤ 60) := c25
      have c25n := mt (nI_leI (a := t) (b := 60) (by omega) (by omega)).mpr c25
      exact absurd c25n (by omega)

-- == act_m4 ==
set_option maxRecDepth 100000 in
set_option maxHeartbeats 4000000 in
theorem ct_act_m4 (l : Launch) (g : XG) (aV aS aVs : Nat) (sk : Nat → Int32) (t : Nat) (ht : 3 ≤ t ∧ t ≤ 60) : Ct l g 1 0 0 yX2_act cX2_act 5 (some .int) [.ref aV, .int ((-4)), .int (nI t)] [(aV, .inr (2, [.ref aS, .ref aVs])), (aVs, .inl (g.2.1 0, 60, .inl sk))] (xpi (nI (t - 3 + 1)) [(aV, .inr (2, [.ref aS, .ref aVs])), (aVs, .inl (g.2.1 0, 60, .inl (upd sk (t - 3) (if sk (t - 3) ≤ 0 then sk (t - 1) else sk (t - 3 + 1)))))]) := by
  refine Ct.ofX (lv := [some (.ref aV), some (.int ((-4))), some (.int (nI t)), none, none]) (by decide) rfl (Nat.le_of_ble_eq_true rfl) (fun κ => ?_)
  generalize hQ : xQ κ g 0 0 _ = Q
  refine x_iload_n dX2_act_0 rfl ?_
  refine x_bipush (-4) dX2_act_1 (by decide) ?_
  refine x_icmp_ne dX2_act_3 (fun c3 => ?_) (fun c3 => ?_)
  · exact absurd c3 (by decide)
  refine x_iconst 3 dX2_act_6 (by decide) ?_
  refine x_goto dX2_act_7 ?_
  refine x_istore_n (lv' := [some (.ref aV), some (.int ((-4))), some (.int (nI t)), some (.int 3), none]) dX2_act_11 (xlt rfl) rfl ?_
  refine x_iload_n dX2_act_12 rfl ?_
  refine x_iload_n dX2_act_13 rfl ?_
  refine x_isub dX2_act_14 ?_
  refine x_rei (nI (t - 3)) (nI_isub t 3 (by omega)) ?_
  refine x_istore (lv' := [some (.ref aV), some (.int ((-4))), some (.int (nI t)), some (.int 3), some (.int (nI (t - 3)))]) dX2_act_15 (xlt rfl) rfl ?_
  refine x_iload dX2_act_17 rfl ?_
  refine x_if_lt dX2_act_19 (fun c19 => ?_) (fun c19 => ?_)
  · have c19 : (nI (t - 3)) < 0 := c19
    have c19n := (nI_ltI (a := (t - 3)) (b := 0) (by omega) (by omega)).mp c19
    exact absurd c19n (by omega)
  · have c19 : ¬ ((nI (t - 3)) < 0) := c19
    have c19n := mt (nI_ltI (a := (t - 3)) (b := 0) (by omega) (by omega)).mpr c19
    refine x_iload_n dX2_act_22 rfl ?_
    refine x_bipush 60 dX2_act_23 (by decide) ?_
    refine x_icmp_le dX2_act_25 (fun c25 => ?_) (fun c25 => ?_)
    · have c25 : (nI t) ≤ 60 := c25
      have c25n := (nI_leI (a := t) (b := 60) (by omega) (by omega)).mp c25
      refine x_iload_n dX2_act_30 rfl ?_
      refine x_tabOut 122 dX2_act_31 (by decide) (by decide) ?_
      refine x_aload_n dX2_act_122 rfl ?_
      refine x_get dX2_act_123 0 1 inX2 fl_X2_9 rfl rfl (by decide) rfl ?_
      refine x_iload dX2_act_126 rfl ?_
      refine x_aload_n dX2_act_128 rfl ?_
      refine x_get dX2_act_129 0 1 inX2 fl_X2_9 rfl rfl (by decide) rfl ?_
      refine x_iload dX2_act_132 rfl ?_
      refine x_iald dX2_act_134 1 (t - 3) rfl (rfl) (by omega) (by decide) ?_
      have J135_2 : ∀ (v1 : Int32), v1 = (if (sk (t - 3)) ≤ 0 then sk (t - 1) else sk ((t - 3) + 1)) → Xs κ g 1 0 0 cX2_act yX2_act (some .int) Q 0 0 158 [some (.ref aV), some (.int ((-4))), some (.int (nI t)), some (.int 3), some (.int (nI (t - 3)))] [.int v1, .int (nI (t - 3)), .ref aVs] [(aV, .inr (2, [.ref aS, .ref aVs])), (aVs, .inl (g.2.1 0, 60, .inl sk))] := by
        intro v1 ev1
        refine x_iast (ws' := [(aV, .inr (2, [.ref aS, .ref aVs])), (aVs, .inl (g.2.1 0, 60, .inl (upd sk (t - 3) v1)))]) dX2_act_158 1 (t - 3) rfl (rfl) (by omega) (by decide) rfl ?_
        refine x_iload dX2_act_159 rfl ?_
        refine x_iconst 1 dX2_act_161 (by decide) ?_
        refine x_iadd dX2_act_162 ?_
        refine x_rei (nI ((t - 3) + 1)) (nI_addc (t - 3) 1 rfl) ?_
        rw [← hQ]
        refine x_iret dX2_act_163 rfl (Nat.le_of_ble_eq_true rfl) (Nat.le_of_ble_eq_true rfl) ?_
        simp only [ev1]
        exact ⟨rfl, rfl⟩
      refine x_if_le dX2_act_135 (fun c135 => ?_) (fun c135 => ?_)
      · have c135 : (sk (t - 3)) ≤ 0 := c135
        refine x_aload_n dX2_act_150 rfl ?_
        refine x_get dX2_act_151 0 1 inX2 fl_X2_9 rfl rfl (by decide) rfl ?_
        refine x_iload_n dX2_act_154 rfl ?_
        refine x_iconst 1 dX2_act_155 (by decide) ?_
        refine x_isub dX2_act_156 ?_
        refine x_rei (nI (t - 1)) (nI_isub t 1 (by omega)) ?_
        refine x_iald dX2_act_157 1 (t - 1) rfl (rfl) (by omega) (by decide) ?_
        exact J135_2 _ (if_pos c135).symm
      · have c135 : ¬ ((sk (t - 3)) ≤ 0) := c135
        refine x_aload_n dX2_act_138 rfl ?_
        refine x_get dX2_act_139 0 1 inX2 fl_X2_9 rfl rfl (by decide) rfl ?_
        refine x_iload dX2_act_142 rfl ?_
        refine x_iconst 1 dX2_act_144 (by decide) ?_
        refine x_iadd dX2_act_145 ?_
        refine x_rei (nI ((t - 3) + 1)) (nI_addc (t - 3) 1 rfl) ?_
        refine x_iald dX2_act_146 1 ((t - 3) + 1) rfl (rfl) (by omega) (by decide) ?_
        refine x_goto dX2_act_147 ?_
        exact J135_2 _ (if_neg c135).symm
    · have c25 : ¬ ((nI t) ≤ 60) := c25
      have c25n := mt (nI_leI (a := t) (b := 60) (by omega) (by omega)).mpr c25
      exact absurd c25n (by omega)

-- == say_1 ==
theorem dX2_say_0 : xd cX2_say 0 (.aload_n 0) 1 1 := ⟨by decide +kernel, rfl⟩
theorem dX2_say_1 : xd cX2_say 1 (.getfield 15) 3 4 := ⟨by decide +kernel, rfl⟩
theorem dX2_say_4 : xd cX2_say 4 (.invokevirtual 19) 3 7 := ⟨by decide +kernel, rfl⟩
theorem dX2_say_7 : xj cX2_say 7 (.ifCond .ne) 10 12 := ⟨5, by decide +kernel, rfl, by decide⟩
theorem dX2_say_10 : xd cX2_say 10 (.iconst 1) 1 11 := ⟨by decide +kernel, rfl⟩
theorem dX2_say_11 : xd cX2_say 11 .ireturn 1 12 := ⟨by decide +kernel, rfl⟩
theorem dX2_say_12 : xd cX2_say 12 (.iconst 0) 1 13 := ⟨by decide +kernel, rfl⟩
theorem dX2_say_13 : xd cX2_say 13 (.istore 4) 2 15 := ⟨by decide +kernel, rfl⟩
theorem dX2_say_15 : xd cX2_say 15 (.iconst 0) 1 16 := ⟨by decide +kernel, rfl⟩
theorem dX2_say_16 : xd cX2_say 16 (.istore 5) 2 18 := ⟨by decide +kernel, rfl⟩
theorem dX2_say_18 : xd cX2_say 18 (.iload 5) 2 20 := ⟨by decide +kernel, rfl⟩
theorem dX2_say_20 : xd cX2_say 20 (.aload_n 0) 1 21 := ⟨by decide +kernel, rfl⟩
theorem dX2_say_21 : xd cX2_say 21 (.getfield 15) 3 24 := ⟨by decide +kernel, rfl⟩
theorem dX2_say_24 : xd cX2_say 24 (.getfield 25) 3 27 := ⟨by decide +kernel, rfl⟩
theorem dX2_say_27 : xj cX2_say 27 (.if_icmp .ge) 30 119 := ⟨92, by decide +kernel, rfl, by decide⟩
theorem dX2_say_30 : xd cX2_say 30 (.iload 5) 2 32 := ⟨by decide +kernel, rfl⟩
theorem dX2_say_32 : xd cX2_say 32 (.bipush 60) 2 34 := ⟨by decide +kernel, rfl⟩
theorem dX2_say_34 : xj cX2_say 34 (.if_icmp .ge) 37 119 := ⟨85, by decide +kernel, rfl, by decide⟩
theorem dX2_say_37 : xd cX2_say 37 (.aload_n 0) 1 38 := ⟨by decide +kernel, rfl⟩
theorem dX2_say_38 : xd cX2_say 38 (.getfield 15) 3 41 := ⟨by decide +kernel, rfl⟩
theorem dX2_say_41 : xd cX2_say 41 (.getfield 29) 3 44 := ⟨by decide +kernel, rfl⟩
theorem dX2_say_44 : xd cX2_say 44 (.iload 5) 2 46 := ⟨by decide +kernel, rfl⟩
theorem dX2_say_46 : xd cX2_say 46 .iaload 1 47 := ⟨by decide +kernel, rfl⟩
theorem dX2_say_47 : xd cX2_say 47 (.istore 6) 2 49 := ⟨by decide +kernel, rfl⟩
theorem dX2_say_49 : xd cX2_say 49 (.iload 6) 2 51 := ⟨by decide +kernel, rfl⟩
theorem dX2_say_51 : xj cX2_say 51 (.ifCond .ge) 54 61 := ⟨10, by decide +kernel, rfl, by decide⟩
theorem dX2_say_54 : xd cX2_say 54 (.iload 6) 2 56 := ⟨by decide +kernel, rfl⟩
theorem dX2_say_56 : xd cX2_say 56 (.bipush (-10)) 2 58 := ⟨by decide +kernel, rfl⟩
theorem dX2_say_58 : xj cX2_say 58 (.if_icmp .gt) 61 103 := ⟨45, by decide +kernel, rfl, by decide⟩
theorem dX2_say_61 : xd cX2_say 61 (.iload 4) 2 63 := ⟨by decide +kernel, rfl⟩
theorem dX2_say_63 : xd cX2_say 63 (.bipush 60) 2 65 := ⟨by decide +kernel, rfl⟩
theorem dX2_say_65 : xj cX2_say 65 (.if_icmp .ge) 68 113 := ⟨48, by decide +kernel, rfl, by decide⟩
theorem dX2_say_68 : xd cX2_say 68 (.aload_n 0) 1 69 := ⟨by decide +kernel, rfl⟩
theorem dX2_say_69 : xd cX2_say 69 (.getfield 9) 3 72 := ⟨by decide +kernel, rfl⟩
theorem dX2_say_72 : xd cX2_say 72 (.iload 4) 2 74 := ⟨by decide +kernel, rfl⟩
theorem dX2_say_74 : xd cX2_say 74 (.iload 6) 2 76 := ⟨by decide +kernel, rfl⟩
theorem dX2_say_76 : xj cX2_say 76 (.ifCond .lt) 79 84 := ⟨8, by decide +kernel, rfl, by decide⟩
theorem dX2_say_79 : xd cX2_say 79 (.iload 6) 2 81 := ⟨by decide +kernel, rfl⟩
theorem dX2_say_81 : xj cX2_say 81 .goto 84 96 := ⟨15, by decide +kernel, rfl, by decide⟩
theorem dX2_say_84 : xd cX2_say 84 (.aload_n 0) 1 85 := ⟨by decide +kernel, rfl⟩
theorem dX2_say_85 : xd cX2_say 85 (.bipush (-10)) 2 87 := ⟨by decide +kernel, rfl⟩
theorem dX2_say_87 : xd cX2_say 87 (.iload 6) 2 89 := ⟨by decide +kernel, rfl⟩
theorem dX2_say_89 : xd cX2_say 89 .isub 1 90 := ⟨by decide +kernel, rfl⟩
theorem dX2_say_90 : xd cX2_say 90 (.iload_n 1) 1 91 := ⟨by decide +kernel, rfl⟩
theorem dX2_say_91 : xd cX2_say 91 (.iload_n 2) 1 92 := ⟨by decide +kernel, rfl⟩
theorem dX2_say_92 : xd cX2_say 92 (.iload_n 3) 1 93 := ⟨by decide +kernel, rfl⟩
theorem dX2_say_93 : xd cX2_say 93 (.invokevirtual 34) 3 96 := ⟨by decide +kernel, rfl⟩
theorem dX2_say_96 : xd cX2_say 96 .iastore 1 97 := ⟨by decide +kernel, rfl⟩
theorem dX2_say_97 : xd cX2_say 97 (.iinc 4 1) 3 100 := ⟨by decide +kernel, rfl⟩
theorem dX2_say_100 : xj cX2_say 100 .goto 103 113 := ⟨13, by decide +kernel, rfl, by decide⟩
theorem dX2_say_103 : xd cX2_say 103 (.aload_n 0) 1 104 := ⟨by decide +kernel, rfl⟩
theorem dX2_say_104 : xd cX2_say 104 (.iload 6) 2 106 := ⟨by decide +kernel, rfl⟩
theorem dX2_say_106 : xd cX2_say 106 (.iload 4) 2 108 := ⟨by decide +kernel, rfl⟩
theorem dX2_say_108 : xd cX2_say 108 (.invokevirtual 38) 3 111 := ⟨by decide +kernel, rfl⟩
theorem dX2_say_111 : xd cX2_say 111 (.istore 4) 2 113 := ⟨by decide +kernel, rfl⟩
theorem dX2_say_113 : xd cX2_say 113 (.iinc 5 1) 3 116 := ⟨by decide +kernel, rfl⟩
theorem dX2_say_116 : xj cX2_say 116 .goto 119 18 := ⟨(-98), by decide +kernel, rfl, by decide⟩
theorem dX2_say_119 : xd cX2_say 119 (.iconst 0) 1 120 := ⟨by decide +kernel, rfl⟩
theorem dX2_say_120 : xd cX2_say 120 (.iload 4) 2 122 := ⟨by decide +kernel, rfl⟩
theorem dX2_say_122 : xj cX2_say 122 (.ifCond .le) 125 134 := ⟨12, by decide +kernel, rfl, by decide⟩
theorem dX2_say_125 : xd cX2_say 125 (.aload_n 0) 1 126 := ⟨by decide +kernel, rfl⟩
theorem dX2_say_126 : xd cX2_say 126 (.getfield 9) 3 129 := ⟨by decide +kernel, rfl⟩
theorem dX2_say_129 : xd cX2_say 129 (.iconst 0) 1 130 := ⟨by decide +kernel, rfl⟩
theorem dX2_say_130 : xd cX2_say 130 .iaload 1 131 := ⟨by decide +kernel, rfl⟩
theorem dX2_say_131 : xj cX2_say 131 .goto 134 135 := ⟨4, by decide +kernel, rfl, by decide⟩
theorem dX2_say_134 : xd cX2_say 134 (.iconst 0) 1 135 := ⟨by decide +kernel, rfl⟩
theorem dX2_say_135 : xd cX2_say 135 (.bipush 99) 2 137 := ⟨by decide +kernel, rfl⟩
theorem dX2_say_137 : xd cX2_say 137 (.invokestatic 42) 3 140 := ⟨by decide +kernel, rfl⟩
theorem dX2_say_140 : xd cX2_say 140 (.invokestatic 47) 3 143 := ⟨by decide +kernel, rfl⟩
theorem dX2_say_143 : xd cX2_say 143 .ireturn 1 144 := ⟨by decide +kernel, rfl⟩

set_option maxRecDepth 100000 in
set_option maxHeartbeats 4000000 in
theorem ct_say_1 (l : Launch) (g : XG) (aV aS aVs : Nat) (aSk aSm aSp aSt aSc aSr aSe gr br cs wk : Nat) (z : Int32) (co sk : Nat → Int32) (p lat : Nat) (v : Int32) (hcs : 0 < cs ∧ cs ≤ 60) (hp : p < 495) (hev0 : evR (nmI wk lat p) (cdF co 0 cs) [] = some [v]) : Ct l g 3 0 0 yX2_say cX2_say 7 (some .int) [.ref aV, .int (nI (rowB p)), .int (nI (packB p)), .int (nI lat)] [(aV, .inr (2, [.ref aS, .ref aVs])), (aVs, .inl (g.2.1 0, 60, .inl sk)), (aS, .inr (6, [.ref aSk, .ref aSm, .ref aSp, .ref aSt, .ref aSc, .ref aSr, .ref aSe, .int (nI gr), .int (nI br), .int (nI cs), .int (nI wk), .int z])), (aSc, .inl (g.2.1 0, 60, .inl co))] (fun vv_ ww_ => ∃ (sk2 : Nat → Int32), vv_ = some (.int (nI (clN v))) ∧ ww_ = [(aV, .inr (2, [.ref aS, .ref aVs])), (aVs, .inl (g.2.1 0, 60, .inl sk2)), (aS, .inr (6, [.ref aSk, .ref aSm, .ref aSp, .ref aSt, .ref aSc, .ref aSr, .ref aSe, .int (nI gr), .int (nI br), .int (nI cs), .int (nI wk), .int z])), (aSc, .inl (g.2.1 0, 60, .inl co))]) := by
  refine Ct.ofX (lv := [some (.ref aV), some (.int (nI (rowB p))), some (.int (nI (packB p))), some (.int (nI lat)), none, none, none]) (by decide) rfl (Nat.le_of_ble_eq_true rfl) (fun κ => ?_)
  generalize hQ : xQ κ g 0 0 _ = Q
  refine x_aload_n dX2_say_0 rfl ?_
  refine x_get dX2_say_1 0 0 inX2 fl_X2_15 rfl rfl (by decide) rfl ?_
  refine x_cVi0 dX2_say_4 ml_X2_19 mX6_hasLiking (ct_X6_hasLiking κ.2.1 g aS aSk aSm aSp aSt aSc aSr aSe gr br cs wk z (hcs.2)) [2] rfl rfl 2 rfl rfl rfl (Nat.le_of_ble_eq_true rfl) (by decide) (Nat.le_refl _) (Nat.le_refl _) ?_
  refine x_if_ne dX2_say_7 (fun c7 => ?_) (fun c7 => ?_)
  rotate_left
  · exact absurd c7 (by rw [hasL, if_neg (by omega)]; decide)
  refine x_iconst 0 dX2_say_12 (by decide) ?_
  refine x_istore (lv' := [some (.ref aV), some (.int (nI (rowB p))), some (.int (nI (packB p))), some (.int (nI lat)), some (.int 0), none, none]) dX2_say_13 (xlt rfl) rfl ?_
  refine x_iconst 0 dX2_say_15 (by decide) ?_
  refine x_istore (lv' := [some (.ref aV), some (.int (nI (rowB p))), some (.int (nI (packB p))), some (.int (nI lat)), some (.int 0), some (.int 0), none]) dX2_say_16 (xlt rfl) rfl ?_
  have L18_1 : ∀ (i : Nat), i ≤ cs → ∀ (stk : List Int32), ∀ (sq : Nat → Int32), evR (nmI wk lat p) (cdF co i (cs - i)) stk = some [v] → skOk sq stk → stk.length ≤ i → Xs κ g 3 0 0 cX2_say yX2_say (some .int) Q 0 0 18 [some (.ref aV), some (.int (nI (rowB p))), some (.int (nI (packB p))), some (.int (nI lat)), some (.int (nI stk.length)), some (.int (nI i)), none] [] [(aV, .inr (2, [.ref aS, .ref aVs])), (aVs, .inl (g.2.1 0, 60, .inl sq)), (aS, .inr (6, [.ref aSk, .ref aSm, .ref aSp, .ref aSt, .ref aSc, .ref aSr, .ref aSe, .int (nI gr), .int (nI br), .int (nI cs), .int (nI wk), .int z])), (aSc, .inl (g.2.1 0, 60, .inl co))] := by
    refine upTo cs (fun i hi18 ih18 => ?_)
    intro stk
    intro sq
    intro hev hsk hln
    refine x_iload dX2_say_18 rfl ?_
    refine x_aload_n dX2_say_20 rfl ?_
    refine x_get dX2_say_21 0 0 inX2 fl_X2_15 rfl rfl (by decide) rfl ?_
    refine x_get dX2_say_24 2 9 inX6 fl_X2_25 rfl rfl (by decide) rfl ?_
    refine x_icmp_ge dX2_say_27 (fun c27 => ?_) (fun c27 => ?_)
    · have c27 : (nI cs) ≤ (nI i) := c27
      have c27n := (nI_leI (a := cs) (b := i) (by omega) (by omega)).mp c27
      have hxc27 : i = cs := by omega
      try rw [hxc27]
      try rw [hxc27] at hev hsk hln
      obtain rfl : stk = [v] := by rw [hxc27, Nat.sub_self] at hev; exact Option.some.inj hev
      refine x_eq (lv' := [some (.ref aV), some (.int (nI (rowB p))), some (.int (nI (packB p))), some (.int (nI lat)), some (.int 1), some (.int (nI cs)), none]) (st' := []) (ws' := [(aV, .inr (2, [.ref aS, .ref aVs])), (aVs, .inl (g.2.1 0, 60, .inl sq)), (aS, .inr (6, [.ref aSk, .ref aSm, .ref aSp, .ref aSt, .ref aSc, .ref aSr, .ref aSe, .int (nI gr), .int (nI br), .int (nI cs), .int (nI wk), .int z])), (aSc, .inl (g.2.1 0, 60, .inl co))]) ?_ rfl rfl rfl
      refine x_iconst 0 dX2_say_119 (by decide) ?_
      refine x_iload dX2_say_120 rfl ?_
      refine x_if_le dX2_say_122 (fun c122 => ?_) (fun c122 => ?_)
      · exact absurd c122 (by decide)
      refine x_aload_n dX2_say_125 rfl ?_
      refine x_get dX2_say_126 0 1 inX2 fl_X2_9 rfl rfl (by decide) rfl ?_
      refine x_iconst 0 dX2_say_129 (by decide) ?_
      refine x_iald dX2_say_130 1 0 rfl (rfl) (by decide) (by decide) ?_
      refine x_rei (v) (hsk 0 v rfl) ?_
      refine x_goto dX2_say_131 ?_
      refine x_bipush 99 dX2_say_135 (by decide) ?_
      refine x_mmin dX2_say_137 ml_X2_42 (Nat.le_of_ble_eq_true rfl) (by decide) (Nat.le_refl _) (Nat.le_refl _) ?_
      refine x_mmax dX2_say_140 ml_X2_47 (Nat.le_of_ble_eq_true rfl) (by decide) (Nat.le_refl _) (Nat.le_refl _) ?_
      refine x_rei (nI (clN v)) (clN_eq v) ?_
      rw [← hQ]
      refine x_iret dX2_say_143 rfl (Nat.le_of_ble_eq_true rfl) (Nat.le_of_ble_eq_true rfl) ?_
      exact ⟨_, rfl, rfl⟩
    · have c27 : ¬ ((nI cs) ≤ (nI i)) := c27
      have c27n := mt (nI_leI (a := cs) (b := i) (by omega) (by omega)).mpr c27
      refine x_iload dX2_say_30 rfl ?_
      refine x_bipush 60 dX2_say_32 (by decide) ?_
      refine x_icmp_ge dX2_say_34 (fun c34 => ?_) (fun c34 => ?_)
      · have c34 : 60 ≤ (nI i) := c34
        have c34n := (nI_leI (a := 60) (b := i) (by omega) (by omega)).mp c34
        exact absurd c34n (by omega)
      · have c34 : ¬ (60 ≤ (nI i)) := c34
        have c34n := mt (nI_leI (a := 60) (b := i) (by omega) (by omega)).mpr c34
        refine x_aload_n dX2_say_37 rfl ?_
        refine x_get dX2_say_38 0 0 inX2 fl_X2_15 rfl rfl (by decide) rfl ?_
        refine x_get dX2_say_41 2 4 inX6 fl_X2_29 rfl rfl (by decide) rfl ?_
        refine x_iload dX2_say_44 rfl ?_
        refine x_iald dX2_say_46 3 i rfl (rfl) (by omega) (by decide) ?_
        refine x_istore (lv' := [some (.ref aV), some (.int (nI (rowB p))), some (.int (nI (packB p))), some (.int (nI lat)), some (.int (nI stk.length)), some (.int (nI i)), some (.int (co i))]) dX2_say_47 (xlt rfl) rfl ?_
        refine x_iload dX2_say_49 rfl ?_
        refine x_if_ge dX2_say_51 (fun c51 => ?_) (fun c51 => ?_)
        · have c51 : 0 ≤ (co i) := c51
          refine x_iload dX2_say_61 rfl ?_
          refine x_bipush 60 dX2_say_63 (by decide) ?_
          refine x_icmp_ge dX2_say_65 (fun c65 => ?_) (fun c65 => ?_)
          · have c65 : 60 ≤ (nI stk.length) := c65
            have c65n := (nI_leI (a := 60) (b := stk.length) (by omega) (by omega)).mp c65
            exact absurd c65n (by omega)
          · have c65 : ¬ (60 ≤ (nI stk.length)) := c65
            have c65n := mt (nI_leI (a := 60) (b := stk.length) (by omega) (by omega)).mpr c65
            refine x_aload_n dX2_say_68 rfl ?_
            refine x_get dX2_say_69 0 1 inX2 fl_X2_9 rfl rfl (by decide) rfl ?_
            refine x_iload dX2_say_72 rfl ?_
            refine x_iload dX2_say_74 rfl ?_
            refine x_if_lt dX2_say_76 (fun c76 => ?_) (fun c76 => ?_)
            · have c76 : (co i) < 0 := c76
              exact absurd c51 (fun q => (fa_of_lt c76).2.1 q)
            · have c76 : ¬ ((co i) < 0) := c76
              refine x_iload dX2_say_79 rfl ?_
              refine x_goto dX2_say_81 ?_
              refine x_iast (ws' := [(aV, .inr (2, [.ref aS, .ref aVs])), (aVs, .inl (g.2.1 0, 60, .inl (upd sq stk.length (co i)))), (aS, .inr (6, [.ref aSk, .ref aSm, .ref aSp, .ref aSt, .ref aSc, .ref aSr, .ref aSe, .int (nI gr), .int (nI br), .int (nI cs), .int (nI wk), .int z])), (aSc, .inl (g.2.1 0, 60, .inl co))]) dX2_say_96 1 stk.length rfl (rfl) (by omega) (by decide) rfl ?_
              refine x_iinc (lv' := [some (.ref aV), some (.int (nI (rowB p))), some (.int (nI (packB p))), some (.int (nI lat)), some (.int (nI (stk.length + 1))), some (.int (nI i)), some (.int (co i))]) (nI (stk.length + 1)) dX2_say_97 rfl (nI_addc stk.length 1 rfl) rfl ?_
              refine x_goto dX2_say_100 ?_
              refine x_iinc (lv' := [some (.ref aV), some (.int (nI (rowB p))), some (.int (nI (packB p))), some (.int (nI lat)), some (.int (nI (stk.length + 1))), some (.int (nI (i + 1))), some (.int (co i))]) (nI (i + 1)) dX2_say_113 rfl (nI_addc i 1 rfl) rfl ?_
              refine x_goto dX2_say_116 ?_
              refine x_fgt (lv' := [some (.ref aV), some (.int (nI (rowB p))), some (.int (nI (packB p))), some (.int (nI lat)), some (.int (nI (stk.length + 1))), some (.int (nI (i + 1))), none]) ⟨Or.inr rfl, Or.inr rfl, Or.inr rfl, Or.inr rfl, Or.inr rfl, Or.inr rfl, Or.inl rfl, trivial⟩ ?_
              exact ih18 (by omega) (co i :: stk) _ (ev_num hev (by omega) c51) (skOk_push hsk _) (by simp; omega)
        · have c51 : ¬ (0 ≤ (co i)) := c51
          refine x_iload dX2_say_54 rfl ?_
          refine x_bipush (-10) dX2_say_56 (by decide) ?_
          refine x_icmp_gt dX2_say_58 (fun c58 => ?_) (fun c58 => ?_)
          · have c58 : (-10) < (co i) := c58
            refine x_aload_n dX2_say_103 rfl ?_
            rcases ev_op hev (by omega) c51 (fun q => absurd c58 (fun q2 => (fa_of_lt q2).2.1 q)) with ⟨hc, a, b, r, rfl, hev2⟩ | ⟨hc, a, b, r, rfl, hev2⟩ | ⟨hc, a, b, r, rfl, hev2⟩ | ⟨hc, w, a, b, r, rfl, hev2⟩
            · rw [hc]
              refine x_iload dX2_say_104 rfl ?_
              refine x_iload dX2_say_106 rfl ?_
              refine x_cVi (ws' := [(aV, .inr (2, [.ref aS, .ref aVs])), (aVs, .inl (g.2.1 0, 60, .inl (upd sq (((b :: a :: r).length) - 2) (sq (((b :: a :: r).length) - 2) + sq (((b :: a :: r).length) - 2 + 1))))), (aS, .inr (6, [.ref aSk, .ref aSm, .ref aSp, .ref aSt, .ref aSc, .ref aSr, .ref aSe, .int (nI gr), .int (nI br), .int (nI cs), .int (nI wk), .int z])), (aSc, .inl (g.2.1 0, 60, .inl co))]) dX2_say_108 ml_X2_38 mX2_act (ct_act_m1 κ.2.1 g aV aS aVs sq ((b :: a :: r).length) (⟨by simp, by simp at hln ⊢; omega⟩)) [0, 1] rfl rfl 0 rfl rfl rfl (Nat.le_of_ble_eq_true rfl) (by decide) (Nat.le_refl _) (Nat.le_refl _) (rfl : [aV, aVs] = [aV, aVs]) rfl ?_
              refine x_istore (lv' := [some (.ref aV), some (.int (nI (rowB p))), some (.int (nI (packB p))), some (.int (nI lat)), some (.int (nI (((b :: a :: r).length) - 2 + 1))), some (.int (nI i)), some (.int ((-1)))]) dX2_say_111 (xlt rfl) rfl ?_
              refine x_iinc (lv' := [some (.ref aV), some (.int (nI (rowB p))), some (.int (nI (packB p))), some (.int (nI lat)), some (.int (nI (((b :: a :: r).length) - 2 + 1))), some (.int (nI (i + 1))), some (.int ((-1)))]) (nI (i + 1)) dX2_say_113 rfl (nI_addc i 1 rfl) rfl ?_
              refine x_goto dX2_say_116 ?_
              refine x_fgt (lv' := [some (.ref aV), some (.int (nI (rowB p))), some (.int (nI (packB p))), some (.int (nI lat)), some (.int (nI (((b :: a :: r).length) - 2 + 1))), some (.int (nI (i + 1))), none]) ⟨Or.inr rfl, Or.inr rfl, Or.inr rfl, Or.inr rfl, Or.inr rfl, Or.inr rfl, Or.inl rfl, trivial⟩ ?_
              exact ih18 (by omega) ((a + b) :: r) _ (hev2) (by obtain ⟨x1, x2, x3⟩ := skOk_bin hsk; have := x3 (a + b); rw [← x1, ← x2] at this ⊢; exact this) (by simp at hln ⊢; omega)
            · rw [hc]
              refine x_iload dX2_say_104 rfl ?_
              refine x_iload dX2_say_106 rfl ?_
              refine x_cVi (ws' := [(aV, .inr (2, [.ref aS, .ref aVs])), (aVs, .inl (g.2.1 0, 60, .inl (upd sq (((b :: a :: r).length) - 2) (sq (((b :: a :: r).length) - 2) - sq (((b :: a :: r).length) - 2 + 1))))), (aS, .inr (6, [.ref aSk, .ref aSm, .ref aSp, .ref aSt, .ref aSc, .ref aSr, .ref aSe, .int (nI gr), .int (nI br), .int (nI cs), .int (nI wk), .int z])), (aSc, .inl (g.2.1 0, 60, .inl co))]) dX2_say_108 ml_X2_38 mX2_act (ct_act_m2 κ.2.1 g aV aS aVs sq ((b :: a :: r).length) (⟨by simp, by simp at hln ⊢; omega⟩)) [0, 1] rfl rfl 0 rfl rfl rfl (Nat.le_of_ble_eq_true rfl) (by decide) (Nat.le_refl _) (Nat.le_refl _) (rfl : [aV, aVs] = [aV, aVs]) rfl ?_
              refine x_istore (lv' := [some (.ref aV), some (.int (nI (rowB p))), some (.int (nI (packB p))), some (.int (nI lat)), some (.int (nI (((b :: a :: r).length) - 2 + 1))), some (.int (nI i)), some (.int ((-2)))]) dX2_say_111 (xlt rfl) rfl ?_
              refine x_iinc (lv' := [some (.ref aV), some (.int (nI (rowB p))), some (.int (nI (packB p))), some (.int (nI lat)), some (.int (nI (((b :: a :: r).length) - 2 + 1))), some (.int (nI (i + 1))), some (.int ((-2)))]) (nI (i + 1)) dX2_say_113 rfl (nI_addc i 1 rfl) rfl ?_
              refine x_goto dX2_say_116 ?_
              refine x_fgt (lv' := [some (.ref aV), some (.int (nI (rowB p))), some (.int (nI (packB p))), some (.int (nI lat)), some (.int (nI (((b :: a :: r).length) - 2 + 1))), some (.int (nI (i + 1))), none]) ⟨Or.inr rfl, Or.inr rfl, Or.inr rfl, Or.inr rfl, Or.inr rfl, Or.inr rfl, Or.inl rfl, trivial⟩ ?_
              exact ih18 (by omega) ((a - b) :: r) _ (hev2) (by obtain ⟨x1, x2, x3⟩ := skOk_bin hsk; have := x3 (a - b); rw [← x1, ← x2] at this ⊢; exact this) (by simp at hln ⊢; omega)
            · rw [hc]
              refine x_iload dX2_say_104 rfl ?_
              refine x_iload dX2_say_106 rfl ?_
              refine x_cVi (ws' := [(aV, .inr (2, [.ref aS, .ref aVs])), (aVs, .inl (g.2.1 0, 60, .inl (upd sq (((b :: a :: r).length) - 2) (sq (((b :: a :: r).length) - 2) * sq (((b :: a :: r).length) - 2 + 1))))), (aS, .inr (6, [.ref aSk, .ref aSm, .ref aSp, .ref aSt, .ref aSc, .ref aSr, .ref aSe, .int (nI gr), .int (nI br), .int (nI cs), .int (nI wk), .int z])), (aSc, .inl (g.2.1 0, 60, .inl co))]) dX2_say_108 ml_X2_38 mX2_act (ct_act_m3 κ.2.1 g aV aS aVs sq ((b :: a :: r).length) (⟨by simp, by simp at hln ⊢; omega⟩)) [0, 1] rfl rfl 0 rfl rfl rfl (Nat.le_of_ble_eq_true rfl) (by decide) (Nat.le_refl _) (Nat.le_refl _) (rfl : [aV, aVs] = [aV, aVs]) rfl ?_
              refine x_istore (lv' := [some (.ref aV), some (.int (nI (rowB p))), some (.int (nI (packB p))), some (.int (nI lat)), some (.int (nI (((b :: a :: r).length) - 2 + 1))), some (.int (nI i)), some (.int ((-3)))]) dX2_say_111 (xlt rfl) rfl ?_
              refine x_iinc (lv' := [some (.ref aV), some (.int (nI (rowB p))), some (.int (nI (packB p))), some (.int (nI lat)), some (.int (nI (((b :: a :: r).length) - 2 + 1))), some (.int (nI (i + 1))), some (.int ((-3)))]) (nI (i + 1)) dX2_say_113 rfl (nI_addc i 1 rfl) rfl ?_
              refine x_goto dX2_say_116 ?_
              refine x_fgt (lv' := [some (.ref aV), some (.int (nI (rowB p))), some (.int (nI (packB p))), some (.int (nI lat)), some (.int (nI (((b :: a :: r).length) - 2 + 1))), some (.int (nI (i + 1))), none]) ⟨Or.inr rfl, Or.inr rfl, Or.inr rfl, Or.inr rfl, Or.inr rfl, Or.inr rfl, Or.inl rfl, trivial⟩ ?_
              exact ih18 (by omega) ((a * b) :: r) _ (hev2) (by obtain ⟨x1, x2, x3⟩ := skOk_bin hsk; have := x3 (a * b); rw [← x1, ← x2] at this ⊢; exact this) (by simp at hln ⊢; omega)
            · rw [hc]
              refine x_iload dX2_say_104 rfl ?_
              refine x_iload dX2_say_106 rfl ?_
              refine x_cVi (ws' := [(aV, .inr (2, [.ref aS, .ref aVs])), (aVs, .inl (g.2.1 0, 60, .inl (upd sq (((b :: a :: w :: r).length) - 3) (if sq (((b :: a :: w :: r).length) - 3) ≤ 0 then sq (((b :: a :: w :: r).length) - 1) else sq (((b :: a :: w :: r).length) - 3 + 1))))), (aS, .inr (6, [.ref aSk, .ref aSm, .ref aSp, .ref aSt, .ref aSc, .ref aSr, .ref aSe, .int (nI gr), .int (nI br), .int (nI cs), .int (nI wk), .int z])), (aSc, .inl (g.2.1 0, 60, .inl co))]) dX2_say_108 ml_X2_38 mX2_act (ct_act_m4 κ.2.1 g aV aS aVs sq ((b :: a :: w :: r).length) (⟨by simp, by simp at hln ⊢; omega⟩)) [0, 1] rfl rfl 0 rfl rfl rfl (Nat.le_of_ble_eq_true rfl) (by decide) (Nat.le_refl _) (Nat.le_refl _) (rfl : [aV, aVs] = [aV, aVs]) rfl ?_
              refine x_istore (lv' := [some (.ref aV), some (.int (nI (rowB p))), some (.int (nI (packB p))), some (.int (nI lat)), some (.int (nI (((b :: a :: w :: r).length) - 3 + 1))), some (.int (nI i)), some (.int ((-4)))]) dX2_say_111 (xlt rfl) rfl ?_
              refine x_iinc (lv' := [some (.ref aV), some (.int (nI (rowB p))), some (.int (nI (packB p))), some (.int (nI lat)), some (.int (nI (((b :: a :: w :: r).length) - 3 + 1))), some (.int (nI (i + 1))), some (.int ((-4)))]) (nI (i + 1)) dX2_say_113 rfl (nI_addc i 1 rfl) rfl ?_
              refine x_goto dX2_say_116 ?_
              refine x_fgt (lv' := [some (.ref aV), some (.int (nI (rowB p))), some (.int (nI (packB p))), some (.int (nI lat)), some (.int (nI (((b :: a :: w :: r).length) - 3 + 1))), some (.int (nI (i + 1))), none]) ⟨Or.inr rfl, Or.inr rfl, Or.inr rfl, Or.inr rfl, Or.inr rfl, Or.inr rfl, Or.inl rfl, trivial⟩ ?_
              exact ih18 (by omega) ((if w ≤ 0 then b else a) :: r) _ (hev2) (by obtain ⟨x1, x2, x3, x4⟩ := skOk_tri hsk; have := x4 (if w ≤ 0 then b else a); rw [← x1, ← x2, ← x3] at this ⊢; exact this) (by simp at hln ⊢; omega)
          · have c58 : ¬ ((-10) < (co i)) := c58
            refine x_iload dX2_say_61 rfl ?_
            refine x_bipush 60 dX2_say_63 (by decide) ?_
            refine x_icmp_ge dX2_say_65 (fun c65 => ?_) (fun c65 => ?_)
            · have c65 : 60 ≤ (nI stk.length) := c65
              have c65n := (nI_leI (a := 60) (b := stk.length) (by omega) (by omega)).mp c65
              exact absurd c65n (by omega)
            · have c65 : ¬ (60 ≤ (nI stk.length)) := c65
              have c65n := mt (nI_leI (a := 60) (b := stk.length) (by omega) (by omega)).mpr c65
              refine x_aload_n dX2_say_68 rfl ?_
              refine x_get dX2_say_69 0 1 inX2 fl_X2_9 rfl rfl (by decide) rfl ?_
              refine x_iload dX2_say_72 rfl ?_
              refine x_iload dX2_say_74 rfl ?_
              refine x_if_lt dX2_say_76 (fun c76 => ?_) (fun c76 => ?_)
              · have c76 : (co i) < 0 := c76
                refine x_aload_n dX2_say_84 rfl ?_
                refine x_bipush (-10) dX2_say_85 (by decide) ?_
                refine x_iload dX2_say_87 rfl ?_
                refine x_isub dX2_say_89 ?_
                refine x_rei (nI (((-10) - co i).toNatClampNeg)) ((nm_idx (fa_of_nlt c58)).1) ?_
                refine x_iload_n dX2_say_90 rfl ?_
                refine x_iload_n dX2_say_91 rfl ?_
                refine x_iload_n dX2_say_92 rfl ?_
                refine x_cVi0 dX2_say_93 ml_X2_34 mX2_named (ct_X2_named κ.2.1 g aV aS aVs aSk aSm aSp aSt aSc aSr aSe gr br cs wk z (((-10) - co i).toNatClampNeg) p lat ((nm_idx (fa_of_nlt c58)).2) (hp)) [0, 2] rfl rfl 0 rfl rfl rfl (Nat.le_of_ble_eq_true rfl) (by decide) (Nat.le_refl _) (Nat.le_refl _) ?_
                refine x_iast (ws' := [(aV, .inr (2, [.ref aS, .ref aVs])), (aVs, .inl (g.2.1 0, 60, .inl (upd sq stk.length (nI (nmN wk lat (rowB p) (((-10) - co i).toNatClampNeg)))))), (aS, .inr (6, [.ref aSk, .ref aSm, .ref aSp, .ref aSt, .ref aSc, .ref aSr, .ref aSe, .int (nI gr), .int (nI br), .int (nI cs), .int (nI wk), .int z])), (aSc, .inl (g.2.1 0, 60, .inl co))]) dX2_say_96 1 stk.length rfl (rfl) (by omega) (by decide) rfl ?_
                refine x_iinc (lv' := [some (.ref aV), some (.int (nI (rowB p))), some (.int (nI (packB p))), some (.int (nI lat)), some (.int (nI (stk.length + 1))), some (.int (nI i)), some (.int (co i))]) (nI (stk.length + 1)) dX2_say_97 rfl (nI_addc stk.length 1 rfl) rfl ?_
                refine x_goto dX2_say_100 ?_
                refine x_iinc (lv' := [some (.ref aV), some (.int (nI (rowB p))), some (.int (nI (packB p))), some (.int (nI lat)), some (.int (nI (stk.length + 1))), some (.int (nI (i + 1))), some (.int (co i))]) (nI (i + 1)) dX2_say_113 rfl (nI_addc i 1 rfl) rfl ?_
                refine x_goto dX2_say_116 ?_
                refine x_fgt (lv' := [some (.ref aV), some (.int (nI (rowB p))), some (.int (nI (packB p))), some (.int (nI lat)), some (.int (nI (stk.length + 1))), some (.int (nI (i + 1))), none]) ⟨Or.inr rfl, Or.inr rfl, Or.inr rfl, Or.inr rfl, Or.inr rfl, Or.inr rfl, Or.inl rfl, trivial⟩ ?_
                exact ih18 (by omega) (nmI wk lat p ((-10) - co i).toNatClampNeg :: stk) _ (ev_name hev (by omega) c51 (fa_of_nlt c58)) (skOk_push hsk _) (by simp; omega)
              · have c76 : ¬ ((co i) < 0) := c76
                exact absurd (fa_of_nlt c76) c51
  exact L18_1 0 (Nat.zero_le _) ([]) _ (hev0) (fun k x h => by simp at h) (Nat.zero_le _)

-- == say_0 ==
set_option maxRecDepth 100000 in
set_option maxHeartbeats 4000000 in
theorem ct_say_0 (l : Launch) (g : XG) (aV aS aVs : Nat) (aSk aSm aSp aSt aSc aSr aSe gr br wk : Nat) (z : Int32) (co sk : Nat → Int32) (a1 a2 a3 : Int32) : Ct l g 3 0 0 yX2_say cX2_say 7 (some .int) [.ref aV, .int a1, .int a2, .int a3] [(aV, .inr (2, [.ref aS, .ref aVs])), (aVs, .inl (g.2.1 0, 60, .inl sk)), (aS, .inr (6, [.ref aSk, .ref aSm, .ref aSp, .ref aSt, .ref aSc, .ref aSr, .ref aSe, .int (nI gr), .int (nI br), .int 0, .int (nI wk), .int z])), (aSc, .inl (g.2.1 0, 60, .inl co))] (xpi (1) [(aV, .inr (2, [.ref aS, .ref aVs])), (aVs, .inl (g.2.1 0, 60, .inl sk)), (aS, .inr (6, [.ref aSk, .ref aSm, .ref aSp, .ref aSt, .ref aSc, .ref aSr, .ref aSe, .int (nI gr), .int (nI br), .int 0, .int (nI wk), .int z])), (aSc, .inl (g.2.1 0, 60, .inl co))]) := by
  refine Ct.ofX (lv := [some (.ref aV), some (.int a1), some (.int a2), some (.int a3), none, none, none]) (by decide) rfl (Nat.le_of_ble_eq_true rfl) (fun κ => ?_)
  generalize hQ : xQ κ g 0 0 _ = Q
  refine x_aload_n dX2_say_0 rfl ?_
  refine x_get dX2_say_1 0 0 inX2 fl_X2_15 rfl rfl (by decide) rfl ?_
  refine x_cVi0 dX2_say_4 ml_X2_19 mX6_hasLiking (ct_X6_hasLiking κ.2.1 g aS aSk aSm aSp aSt aSc aSr aSe gr br 0 wk z (by decide)) [2] rfl rfl 2 rfl rfl rfl (Nat.le_of_ble_eq_true rfl) (by decide) (Nat.le_refl _) (Nat.le_refl _) ?_
  refine x_if_ne dX2_say_7 (fun c7 => ?_) (fun c7 => ?_)
  · exact absurd rfl c7
  refine x_iconst 1 dX2_say_10 (by decide) ?_
  rw [← hQ]
  refine x_iret dX2_say_11 rfl (Nat.le_of_ble_eq_true rfl) (Nat.le_of_ble_eq_true rfl) ?_
  exact ⟨rfl, rfl⟩

-- == X2_say ==
theorem ct_X2_say (l : Launch) (g : XG) (aV aS aVs : Nat) (aSk aSm aSp aSt aSc aSr aSe gr br cs wk : Nat) (z : Int32) (co sk : Nat → Int32) (p lat : Nat) (v : Int32) (hcs : cs ≤ 60) (hp : p < 495) (hev0 : cs ≠ 0 → evR (nmI wk lat p) (cdF co 0 cs) [] = some [v]) : Ct l g 3 0 0 yX2_say cX2_say 7 (some .int) [.ref aV, .int (nI (rowB p)), .int (nI (packB p)), .int (nI lat)] [(aV, .inr (2, [.ref aS, .ref aVs])), (aVs, .inl (g.2.1 0, 60, .inl sk)), (aS, .inr (6, [.ref aSk, .ref aSm, .ref aSp, .ref aSt, .ref aSc, .ref aSr, .ref aSe, .int (nI gr), .int (nI br), .int (nI cs), .int (nI wk), .int z])), (aSc, .inl (g.2.1 0, 60, .inl co))] (fun vv_ ww_ => ∃ (sk2 : Nat → Int32), vv_ = some (.int (nI (sayN cs v))) ∧ ww_ = [(aV, .inr (2, [.ref aS, .ref aVs])), (aVs, .inl (g.2.1 0, 60, .inl sk2)), (aS, .inr (6, [.ref aSk, .ref aSm, .ref aSp, .ref aSt, .ref aSc, .ref aSr, .ref aSe, .int (nI gr), .int (nI br), .int (nI cs), .int (nI wk), .int z])), (aSc, .inl (g.2.1 0, 60, .inl co))]) := by
  cases cs with
  | zero => exact (ct_say_0 l g aV aS aVs aSk aSm aSp aSt aSc aSr aSe gr br wk z co sk _ _ _).mono (fun v w h => ⟨sk, h⟩)
  | succ n =>
    rw [sayN, if_neg (Nat.succ_ne_zero n)]
    exact ct_say_1 l g aV aS aVs aSk aSm aSp aSt aSc aSr aSe gr br (n + 1) wk z co sk p lat v ⟨Nat.succ_pos n, hcs⟩ hp (hev0 (Nat.succ_ne_zero n))

