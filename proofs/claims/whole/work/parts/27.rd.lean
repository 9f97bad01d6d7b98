/-- the reference's reader: place, fault, value -/
abbrev RS : Type := Nat × Bool × Int32
def bI (b : Bool) : Int32 := if b = true then 1 else 0
def hI (h : Nat → Nat) (a : Nat) : Int32 := if h a < 256 then nI (h a) else -1
def facR (h : Nat → Nat) (nv : Nat → Int32) (br : Nat → RS) (a : Nat) : RS := if dgT (h a) = true then ((numI h a).1, false, nI (numI h a).2) else if h a = 40 then br a else if nmIx (h a) < 7 then (a + 1, false, nv (nmIx (h a))) else (a, true, -1)
def tmS (h : Nat → Nat) (fac : Nat → RS) (Q : RS) : RS := if Q.2.1 = true then Q else if h Q.1 = 42 then ((fac (Q.1 + 1)).1, (fac (Q.1 + 1)).2.1, Q.2.2 * (fac (Q.1 + 1)).2.2) else Q
def termR (h : Nat → Nat) (fac : Nat → RS) (a : Nat) : RS := itr (tmS h fac) 60 (fac a)
def snS (h : Nat → Nat) (term : Nat → RS) (Q : RS) : RS := if Q.2.1 = true then Q else if h Q.1 = 43 then ((term (Q.1 + 1)).1, (term (Q.1 + 1)).2.1, Q.2.2 + (term (Q.1 + 1)).2.2) else if h Q.1 = 45 then ((term (Q.1 + 1)).1, (term (Q.1 + 1)).2.1, Q.2.2 - (term (Q.1 + 1)).2.2) else Q
def sumR (h : Nat → Nat) (term : Nat → RS) (a : Nat) : RS := itr (snS h term) 60 (term a)
def endR (h : Nat → Nat) (M : RS) : RS := ((pasA h 41 M.2.1 M.1).1, (pasA h 41 M.2.1 M.1).2, M.2.2)
def choR (h : Nat → Nat) (sum : Nat → RS) (a : Nat) : RS :=
  endR h (if (sum a).2.1 = true then sum a else if h (sum a).1 = 63 then
    (if (pasA h 58 (sum ((sum a).1 + 1)).2.1 (sum ((sum a).1 + 1)).1).2 = true then ((pasA h 58 (sum ((sum a).1 + 1)).2.1 (sum ((sum a).1 + 1)).1).1, true, if (sum a).2.2 ≤ 0 then 0 else (sum ((sum a).1 + 1)).2.2)
    else ((sum (pasA h 58 (sum ((sum a).1 + 1)).2.1 (sum ((sum a).1 + 1)).1).1).1, (sum (pasA h 58 (sum ((sum a).1 + 1)).2.1 (sum ((sum a).1 + 1)).1).1).2.1, if (sum a).2.2 ≤ 0 then (sum (pasA h 58 (sum ((sum a).1 + 1)).2.1 (sum ((sum a).1 + 1)).1).1).2.2 else (sum ((sum a).1 + 1)).2.2))
   else sum a)
def srL (h : Nat → Nat) (nv : Nat → Int32) : Nat → Nat → RS
  | 0 => sumR h (termR h (facR h nv (fun a => (a, true, 0))))
  | d + 1 => sumR h (termR h (facR h nv (fun a => choR h (srL h nv d) (a + 1))))
def hrL (h : Nat → Nat) (nv : Nat → Int32) : Nat → Nat → RS
  | 0 => fun a => (a, true, 0)
  | d + 1 => fun a => choR h (srL h nv d) (a + 1)
def frL (h : Nat → Nat) (nv : Nat → Int32) (d : Nat) : Nat → RS := facR h nv (hrL h nv d)
def trL (h : Nat → Nat) (nv : Nat → Int32) (d : Nat) : Nat → RS := termR h (frL h nv d)
theorem srL_eq (h : Nat → Nat) (nv : Nat → Int32) (d : Nat) : srL h nv d = sumR h (trL h nv d) := by cases d <;> rfl
def okN (n : Nat) (f : Nat → RS) : Prop := ∀ a, a ≤ n → a ≤ (f a).1 ∧ (f a).1 ≤ n
section OKN
variable {n : Nat} {h : Nat → Nat} {nv : Nat → Int32}
theorem nmS_ge (q : Nat × Nat) : q.1 ≤ (nmS h q).1 := by unfold nmS; split <;> simp
theorem numI_ge (a : Nat) : a ≤ (numI h a).1 := Nat.le_trans (nmS_ge (a, 0)) (Nat.le_trans (nmS_ge _) (nmS_ge _))
theorem pasA_ge (c : Nat) (bd : Bool) (a : Nat) : a ≤ (pasA h c bd a).1 := by unfold pasA; repeat' split
                                                                              all_goals simp
theorem facR_ok (H : okH n h) {br : Nat → RS} (hb : ∀ a, a ≤ n → h a = 40 → a ≤ (br a).1 ∧ (br a).1 ≤ n) : okN n (facR h nv br) := by
  intro a ha
  unfold facR
  split
  · exact ⟨numI_ge a, numI_le H ha⟩
  · split
    next q => exact hb a ha q
    · split
      next q => exact ⟨Nat.le_succ a, nm_lt H q⟩
      · exact ⟨Nat.le_refl a, ha⟩
def okR (n : Nat) (f : RS → RS) : Prop := ∀ Q : RS, Q.1 ≤ n → Q.1 ≤ (f Q).1 ∧ (f Q).1 ≤ n
theorem okR_itr {f : RS → RS} (hf : okR n f) : ∀ i, okR n (itr f i)
  | 0 => fun _ hP => ⟨Nat.le_refl _, hP⟩
  | i + 1 => fun P hP => by
    have h1 := okR_itr hf i P hP
    have h2 := hf _ h1.2
    exact ⟨Nat.le_trans h1.1 h2.1, h2.2⟩
theorem termR_ok (H : okH n h) {f : Nat → RS} (hf : okN n f) : okN n (termR h f) := by
  intro a ha
  have h1 := hf a ha
  have h2 := okR_itr (f := tmS h f) (fun Q hQ => by
    unfold tmS
    split
    · exact ⟨Nat.le_refl _, hQ⟩
    · split
      next q =>
        have z := hf (Q.1 + 1) (adv_le H q (by decide))
        exact ⟨by have := z.1; show Q.1 ≤ (f (Q.1 + 1)).1; omega, z.2⟩
      · exact ⟨Nat.le_refl _, hQ⟩) 60 _ h1.2
  exact ⟨Nat.le_trans h1.1 h2.1, h2.2⟩
theorem sumR_ok (H : okH n h) {f : Nat → RS} (hf : okN n f) : okN n (sumR h f) := by
  intro a ha
  have h1 := hf a ha
  have h2 := okR_itr (f := snS h f) (fun Q hQ => by
    unfold snS
    split
    · exact ⟨Nat.le_refl _, hQ⟩
    · split
      next q =>
        have z := hf (Q.1 + 1) (adv_le H q (by decide))
        exact ⟨by have := z.1; show Q.1 ≤ (f (Q.1 + 1)).1; omega, z.2⟩
      · split
        next q =>
          have z := hf (Q.1 + 1) (adv_le H q (by decide))
          exact ⟨by have := z.1; show Q.1 ≤ (f (Q.1 + 1)).1; omega, z.2⟩
        · exact ⟨Nat.le_refl _, hQ⟩) 60 _ h1.2
  exact ⟨Nat.le_trans h1.1 h2.1, h2.2⟩
theorem choR_ok (H : okH n h) {f : Nat → RS} (hf : okN n f) : okN n (choR h f) := by
  intro a ha
  have h1 := hf a ha
  have key : ∀ M : RS, a ≤ M.1 → M.1 ≤ n → a ≤ (endR h M).1 ∧ (endR h M).1 ≤ n := fun M p q => ⟨Nat.le_trans p (pasA_ge 41 M.2.1 M.1), pasA_le H (by decide) q⟩
  unfold choR
  split
  · exact key _ h1.1 h1.2
  · split
    next q =>
      have h2 := hf _ (adv_le H q (by decide))
      have h3 := pasA_le H (c := 58) (by decide) (bd := (f ((f a).1 + 1)).2.1) h2.2
      have h4 := pasA_ge (h := h) 58 (f ((f a).1 + 1)).2.1 (f ((f a).1 + 1)).1
      split
      · exact key _ (by show a ≤ (pasA h 58 (f ((f a).1 + 1)).2.1 (f ((f a).1 + 1)).1).1; have := h1.1; have := h2.1; omega) h3
      · have h5 := hf _ h3
        exact key _ (by show a ≤ (f (pasA h 58 (f ((f a).1 + 1)).2.1 (f ((f a).1 + 1)).1).1).1; have := h1.1; have := h2.1; have := h5.1; omega) h5.2
    · exact key _ h1.1 h1.2
theorem srL_ok (H : okH n h) : ∀ d, okN n (srL h nv d)
  | 0 => sumR_ok H (termR_ok H (facR_ok H (fun a ha _ => ⟨Nat.le_refl a, ha⟩)))
  | d + 1 => sumR_ok H (termR_ok H (facR_ok H (fun a ha q => by have z := choR_ok H (srL_ok H d) (a + 1) (adv_le H q (by decide)); exact ⟨by have := z.1; omega, z.2⟩)))
theorem hrL_ok (H : okH n h) : ∀ d a, a ≤ n → h a = 40 → a ≤ (hrL h nv d a).1 ∧ (hrL h nv d a).1 ≤ n
  | 0, a, ha, _ => ⟨Nat.le_refl a, ha⟩
  | d + 1, a, ha, q => by have z := choR_ok H (srL_ok (nv := nv) H d) (a + 1) (adv_le H q (by decide)); exact ⟨by have := z.1; show a ≤ (choR h (srL h nv d) (a + 1)).1; omega, z.2⟩
theorem frL_ok (H : okH n h) (d : Nat) : okN n (frL h nv d) := facR_ok H (hrL_ok H d)
theorem trL_ok (H : okH n h) (d : Nat) : okN n (trL h nv d) := termR_ok H (frL_ok H d)
end OKN
theorem tk_cases (qb : Bool) (h : Nat → Nat) (a c : Nat) : (qb = false ∧ h a = c) ∨ (qb = false ∧ ¬ h a = c) ∨ qb = true := by
  cases qb
  · by_cases q : h a = c
    · exact Or.inl ⟨rfl, q⟩
    · exact Or.inr (Or.inl ⟨rfl, q⟩)
  · exact Or.inr (Or.inr rfl)
theorem sm_cases (qb : Bool) (h : Nat → Nat) (a : Nat) : (qb = false ∧ h a = 43) ∨ (qb = false ∧ ¬ h a = 43 ∧ h a = 45) ∨ (qb = false ∧ ¬ h a = 43 ∧ ¬ h a = 45) ∨ qb = true := by
  cases qb
  · by_cases q : h a = 43
    · exact Or.inl ⟨rfl, q⟩
    · by_cases q2 : h a = 45
      · exact Or.inr (Or.inl ⟨rfl, q, q2⟩)
      · exact Or.inr (Or.inr (Or.inl ⟨rfl, q, q2⟩))
  · exact Or.inr (Or.inr (Or.inr rfl))
theorem hI_cases (h : Nat → Nat) (a : Nat) : (h a < 256 ∧ hI h a = nI (h a)) ∨ (¬ h a < 256 ∧ hI h a = -1) := by
  by_cases q : h a < 256
  · exact Or.inl ⟨q, if_pos q⟩
  · exact Or.inr ⟨q, if_neg q⟩
theorem dgW {c : Nat} (h : c < 256) : wI (nI c) 48 57 = if dgT c = true then 1 else 0 := by
  unfold wI
  have h1 : nI c < 48 ↔ c < 48 := nI_ltI (b := 48) (by omega) (by decide)
  have h2 : (57 : Int32) < nI c ↔ 57 < c := nI_ltI (a := 57) (by decide) (by omega)
  simp only [h1, h2, dgT, decide_eq_true_eq]
  by_cases q : c < 48
  · rw [if_pos q, if_neg (by omega)]
  · rw [if_neg q]
    by_cases q2 : 57 < c
    · rw [if_pos q2, if_neg (by omega)]
    · rw [if_neg q2, if_pos (by omega)]
theorem dgW1 {c : Nat} (h : c < 256) (q : ¬ wI (nI c) 48 57 = 0) : dgT c = true := by
  rw [dgW h] at q
  split at q
  next z => exact z
  · exact absurd rfl q
theorem dgW0 {c : Nat} (h : c < 256) (q : wI (nI c) 48 57 = 0) : ¬ dgT c = true := by
  intro z
  rw [dgW h, if_pos z] at q
  exact absurd q (by decide)
theorem dg_rng {c : Nat} (h : dgT c = true) : 48 ≤ c ∧ c ≤ 57 := of_decide_eq_true h
theorem hI_eq {b : Nat → Nat} {n a : Nat} (hb : ∀ j, b j < 256) : hI (hB b n) a = if n ≤ a then -1 else nI (b a) := by
  unfold hI
  by_cases q : n ≤ a
  · rw [hB_out (by omega), if_neg (by omega), if_pos q]
  · rw [hB_in (by omega), if_pos (hb a), if_neg q]
theorem dg_no {c : Nat} (h : ¬ c < 256) : ¬ dgT c = true := fun q => by have := dg_rng q; omega
theorem nmIx_no {c : Nat} (h : ¬ c < 256) : ¬ nmIx c < 7 := by
  unfold nmIx
  repeat' split
  all_goals omega
def fcR (r k : Nat) : Nat := if k = 0 then fSr r else if k = 1 then nAr r else if k = 2 then nDr r else if k = 3 then popN (r &&& 1365) else lngR r 12
def fcN (j : Nat) : Nat := fcR (rowB (j / 5)) (j % 5)
theorem fcN_at (p : Nat) {k : Nat} (hk : k < 5) : fcN (5 * p + k) = fcR (rowB p) k := by
  unfold fcN
  rw [show (5 * p + k) / 5 = p by omega, show (5 * p + k) % 5 = k by omega]
theorem fcN_0 (p : Nat) : fcN (5 * p) = fSr (rowB p) := fcN_at p (k := 0) (by decide)
theorem chnR_le (r : Nat) : ∀ i, chnR r i ≤ i
  | 0 => Nat.le_refl _
  | i + 1 => by simp only [chnR]; split; have := chnR_le r i; omega; omega
theorem lngR_le (r : Nat) : ∀ i, lngR r i ≤ i
  | 0 => Nat.le_refl _
  | i + 1 => by
    simp only [lngR]
    have h1 := chnR_le r (i + 1)
    have h2 := lngR_le r i
    simp only [chnR] at h1
    split
    · exact h1
    · omega
theorem nmN_le {wk L p : Nat} (hwk : wk ≤ 40) (hp : p < 495) (k : Nat) : nmN wk L (rowB p) k ≤ 50 := by
  obtain ⟨-, -, -, -, q5, q6, q7, q8⟩ := pk_all hp
  have h1 := popN_le (rowB p &&& 1365)
  have h2 := popN_le (rowB p &&& L)
  have h3 := lngR_le (rowB p) 12
  unfold nmN fSr
  repeat' split
  all_goals omega
theorem nI_m1 {c : Nat} (h : c < 2 ^ 31) : ¬ (-1 : Int32) = nI c := fun e => nI_nem1 h e.symm
section CHO
variable {h : Nat → Nat} {sum : Nat → RS} {a a1 a3 : Nat} {v1 : Int32}
theorem choA (e : sum a = (a1, true, v1)) : choR h sum a = endR h (a1, true, v1) := by simp [choR, e]
theorem choB (e : sum a = (a1, false, v1)) (q : ¬ h a1 = 63) : choR h sum a = endR h (a1, false, v1) := by simp [choR, e, q]
theorem choC (e : sum a = (a1, false, v1)) (q : h a1 = 63) (e3 : pasA h 58 (sum (a1 + 1)).2.1 (sum (a1 + 1)).1 = (a3, true)) : choR h sum a = endR h (a3, true, if v1 ≤ 0 then 0 else (sum (a1 + 1)).2.2) := by simp [choR, e, q, e3]
theorem choD (e : sum a = (a1, false, v1)) (q : h a1 = 63) (e3 : pasA h 58 (sum (a1 + 1)).2.1 (sum (a1 + 1)).1 = (a3, false)) : choR h sum a = endR h ((sum a3).1, (sum a3).2.1, if v1 ≤ 0 then (sum a3).2.2 else (sum (a1 + 1)).2.2) := by simp [choR, e, q, e3]
end CHO
