/-! ===== the house: the threshold and the picks take the same rows ===== -/
theorem sumN_mono {f g : Nat → Nat} : ∀ {n : Nat}, (∀ k, k < n → f k ≤ g k) → sumN f n ≤ sumN g n
  | 0, _ => Nat.le_refl _
  | n + 1, h => by
    have h1 := sumN_mono (n := n) (fun k hk => h k (by omega))
    have h2 := h n (by omega)
    simp only [sumN]; omega
theorem sumN_lt {f g : Nat → Nat} {a : Nat} : ∀ {n : Nat}, (∀ k, k < n → f k ≤ g k) → a < n → f a < g a → sumN f n < sumN g n
  | 0, _, h, _ => absurd h (Nat.not_lt_zero _)
  | n + 1, h, ha, hl => by
    have h1 := sumN_mono (n := n) (fun k hk => h k (by omega))
    have h2 := h n (by omega)
    simp only [sumN]
    by_cases e : a = n
    · subst e; omega
    · have := sumN_lt (n := n) (fun k hk => h k (by omega)) (by omega) hl; omega
theorem sumN_trunc (f : Nat → Nat) {q : Nat} : ∀ {n : Nat}, q ≤ n → sumN (fun j => if j < q then f j else 0) n = sumN f q
  | 0, h => by rw [show q = 0 by omega]; rfl
  | n + 1, h => by
    by_cases e : q = n + 1
    · subst e; exact sumN_cong (fun k hk => by rw [if_pos hk])
    · simp only [sumN]; rw [sumN_trunc f (n := n) (by omega), if_neg (by omega)]; rfl
def lxB (cr : Nat → Nat) (a b : Nat) : Bool := decide (cr a < cr b ∨ (cr a = cr b ∧ a < b))
theorem lxB_iff {cr : Nat → Nat} {a b : Nat} : lxB cr a b = true ↔ (cr a < cr b ∨ (cr a = cr b ∧ a < b)) := decide_eq_true_iff
def rkN (cr : Nat → Nat) (q : Nat) : Nat := sumN (fun j => if lxB cr j q = true then 1 else 0) 495
theorem if_le {c d : Prop} [Decidable c] [Decidable d] (h : c → d) : (if c then 1 else 0) ≤ (if d then 1 else 0) := by
  by_cases q : c
  · rw [if_pos q, if_pos (h q)]; exact Nat.le_refl 1
  · rw [if_neg q]; exact Nat.zero_le _
theorem rk_mono {cr : Nat → Nat} {a b : Nat} (ha : a < 495) (h : lxB cr a b = true) : rkN cr a < rkN cr b := by
  rw [lxB_iff] at h
  refine sumN_lt (a := a) (fun k _ => if_le (fun q => ?_)) ha ?_
  · rw [lxB_iff] at q ⊢; omega
  · rw [if_neg (fun q => by rw [lxB_iff] at q; omega), if_pos (lxB_iff.mpr h)]; exact Nat.zero_lt_one
theorem lx_tri (cr : Nat → Nat) (a b : Nat) : a = b ∨ lxB cr a b = true ∨ lxB cr b a = true := by
  rw [lxB_iff, lxB_iff]; omega
theorem rk_inj {cr : Nat → Nat} {a b : Nat} (ha : a < 495) (hb : b < 495) (h : rkN cr a = rkN cr b) : a = b := by
  rcases lx_tri cr a b with q | q | q
  · exact q
  · have := rk_mono ha q; omega
  · have := rk_mono hb q; omega
theorem raN_min (nis : Nat → Int32) (tr : Nat → Nat) : ∀ n, n ≤ 495 → raN nis tr n < 495 → nis (raN nis tr n) = 0 ∧ raN nis tr n < n ∧ ∀ q, q < n → nis q = 0 → lxB tr q (raN nis tr n) = false
  | 0, _, h => absurd h (Nat.lt_irrefl _)
  | n + 1, hn, h => by
    simp only [raN] at h ⊢
    by_cases c : nis n = 0 ∧ (¬ raN nis tr n < 495 ∨ tr n < tr (raN nis tr n))
    · rw [if_pos c] at h ⊢
      refine ⟨c.1, Nat.lt_succ_self n, fun q hq hz => ?_⟩
      rw [Bool.eq_false_iff]
      intro z
      rw [lxB_iff] at z
      by_cases e : q = n
      · subst e; omega
      · have hlt : raN nis tr n < 495 := raN_has nis tr n (by omega) ⟨q, by omega, hz⟩
        have ih := (raN_min nis tr n (by omega) hlt).2.2 q (by omega) hz
        rw [Bool.eq_false_iff, ne_eq, lxB_iff] at ih
        rcases c.2 with d | d <;> omega
    · rw [if_neg c] at h ⊢
      have ih := raN_min nis tr n (by omega) h
      refine ⟨ih.1, by omega, fun q hq hz => ?_⟩
      by_cases e : q = n
      · subst e
        rw [Bool.eq_false_iff]
        intro z
        rw [lxB_iff] at z
        have h2 := ih.2.1
        exact c ⟨hz, by omega⟩
      · exact ih.2.2 q (by omega) hz
theorem tk_step (cr : Nat → Nat) {k : Nat} (hk : k < 495) (T : ∀ q, q < 495 → tkS cr k q = if rkN cr q < k then 1 else 0) (C : sumN (fun j => if rkN cr j < k then 1 else 0) 495 = k) : pkN cr k < 495 ∧ rkN cr (pkN cr k) = k := by
  have m1 := pkN_lt cr hk
  obtain ⟨z1, z2, z3⟩ := raN_min (tkS cr k) cr 495 (Nat.le_refl _) m1
  have z1 : tkS cr k (pkN cr k) = 0 := z1
  have z3 : ∀ q, q < 495 → tkS cr k q = 0 → lxB cr q (pkN cr k) = false := z3
  refine ⟨m1, ?_⟩
  have hm : ¬ rkN cr (pkN cr k) < k := fun q => by rw [T _ m1, if_pos q] at z1; exact absurd z1 (by decide)
  have e : rkN cr (pkN cr k) = sumN (fun j => if rkN cr j < k then 1 else 0) 495 := by
    show sumN (fun j => if lxB cr j (pkN cr k) = true then 1 else 0) 495 = _
    apply sumN_cong
    intro j hj
    by_cases c : rkN cr j < k
    · rw [if_pos c, if_pos]
      rcases lx_tri cr j (pkN cr k) with q | q | q
      · rw [q] at c; exact absurd c hm
      · exact q
      · have := rk_mono m1 q; omega
    · rw [if_neg c, if_neg]
      have := z3 j hj (by rw [T j hj, if_neg c])
      rw [this]; decide
  rw [e, C]
/-- the rows of the least ranks are the taken ones -/
theorem tkS_rk (cr : Nat → Nat) : ∀ k, k ≤ 495 → (∀ q, q < 495 → tkS cr k q = if rkN cr q < k then 1 else 0) ∧ sumN (fun j => if rkN cr j < k then 1 else 0) 495 = k ∧ (k < 495 → pkN cr k < 495 ∧ rkN cr (pkN cr k) = k)
  | 0, _ => by
    have C : sumN (fun j => if rkN cr j < 0 then 1 else 0) 495 = 0 := sumN_zero (fun j _ => if_neg (Nat.not_lt_zero _))
    have T : ∀ q, q < 495 → tkS cr 0 q = if rkN cr q < 0 then 1 else 0 := fun q _ => by rw [if_neg (Nat.not_lt_zero _)]; rfl
    exact ⟨T, C, fun hk => tk_step cr hk T C⟩
  | k + 1, hk => by
    obtain ⟨T, C, S⟩ := tkS_rk cr k (by omega)
    obtain ⟨m1, m2⟩ := S (by omega)
    have T2 : ∀ q, q < 495 → tkS cr (k + 1) q = if rkN cr q < k + 1 then 1 else 0 := fun q hq => by
      show upd (tkS cr k) (pkN cr k) 1 q = _
      unfold upd
      by_cases e : q = pkN cr k
      · rw [if_pos e, if_pos]; rw [e, m2]; exact Nat.lt_succ_self k
      · rw [if_neg e, T q hq]
        have hne : rkN cr q ≠ k := fun z => e (rk_inj hq m1 (z.trans m2.symm))
        by_cases c : rkN cr q < k
        · rw [if_pos c, if_pos (by omega)]
        · rw [if_neg c, if_neg (by omega)]
    have C2 : sumN (fun j => if rkN cr j < k + 1 then 1 else 0) 495 = k + 1 := by
      rw [sumN_cong (g := fun j => (if rkN cr j < k then 1 else 0) + (if j = pkN cr k then 1 else 0)) (fun j hj => ?_), sumN_add, C, sumN_one (k := pkN cr k) m1 (fun i _ hne => if_neg hne), if_pos rfl]
      by_cases e : j = pkN cr k
      · rw [if_pos e, e, m2, if_pos (Nat.lt_succ_self k), if_neg (Nat.lt_irrefl k)]
      · have hne : rkN cr j ≠ k := fun z => e (rk_inj hj m1 (z.trans m2.symm))
        rw [if_neg e]
        by_cases c : rkN cr j < k
        · rw [if_pos c, if_pos (by omega)]
        · rw [if_neg c, if_neg (by omega)]
    exact ⟨T2, C2, fun hk2 => tk_step cr hk2 T2 C2⟩
/-- what the picks sum -/
theorem pk_sum (cr : Nat → Nat) (f : Nat → Nat) : ∀ n, n ≤ 495 → sumN (fun k => f (pkN cr k)) n = sumN (fun q => if rkN cr q < n then f q else 0) 495
  | 0, _ => (sumN_zero (fun j _ => if_neg (Nat.not_lt_zero _))).symm
  | n + 1, hn => by
    obtain ⟨m1, m2⟩ := (tkS_rk cr n (by omega)).2.2 (by omega)
    show sumN (fun k => f (pkN cr k)) n + f (pkN cr n) = _
    rw [pk_sum cr f n (by omega), sumN_cong (f := fun q => if rkN cr q < n + 1 then f q else 0) (g := fun q => (if rkN cr q < n then f q else 0) + (if q = pkN cr n then f q else 0)) (fun j hj => ?_), sumN_add, sumN_one (f := fun q => if q = pkN cr n then f q else 0) (k := pkN cr n) m1 (fun i _ hne => if_neg hne), if_pos rfl]
    by_cases e : j = pkN cr n
    · rw [if_pos e, e, m2, if_pos (Nat.lt_succ_self n), if_neg (Nat.lt_irrefl n), Nat.zero_add]
    · have hne : rkN cr j ≠ n := fun z => e (rk_inj hj m1 (z.trans m2.symm))
      rw [if_neg e]
      by_cases c : rkN cr j < n
      · rw [if_pos c, if_pos (by omega), Nat.add_zero]
      · rw [if_neg c, if_neg (by omega)]
/-- the halving finds the first place where P is false -/
theorem hv_spec {P : Nat → Bool} {H : Nat} (hH : P H = false) (hmono : ∀ m m2, m ≤ m2 → P m2 = true → P m = true) : ∀ i, (hvI P (0, H) i).1 ≤ (hvI P (0, H) i).2 ∧ (hvI P (0, H) i).2 ≤ H ∧ P (hvI P (0, H) i).2 = false ∧ ∀ m, m < (hvI P (0, H) i).1 → P m = true
  | 0 => ⟨Nat.zero_le _, Nat.le_refl _, hH, fun m hm => absurd hm (Nat.not_lt_zero _)⟩
  | i + 1 => by
    have ih := hv_spec hH hmono i
    simp only [hvI, hv1]
    generalize hvI P (0, H) i = x at ih ⊢
    obtain ⟨h1, h2, h3, h4⟩ := ih
    by_cases c : x.1 < x.2
    · rw [if_pos c]
      by_cases c2 : P ((x.1 + x.2) / 2) = true
      · rw [if_pos c2]
        refine ⟨by show (x.1 + x.2) / 2 + 1 ≤ x.2; omega, h2, h3, fun m hm => ?_⟩
        have hm : m < (x.1 + x.2) / 2 + 1 := hm
        exact hmono m _ (by omega) c2
      · rw [if_neg c2]
        refine ⟨by show x.1 ≤ (x.1 + x.2) / 2; omega, by show (x.1 + x.2) / 2 ≤ H; omega, ?_, h4⟩
        show P ((x.1 + x.2) / 2) = false
        cases e : P ((x.1 + x.2) / 2)
        · rfl
        · exact absurd e c2
    · rw [if_neg c]; exact ⟨h1, h2, h3, h4⟩
section HS
variable {cr : Nat → Nat} {tot n : Nat}
theorem cnt_N (hb : ∀ p, cr p < 2 ^ 31) {b : Nat} (h : b < 2 ^ 31) : cntU cr (nI b) 495 = sumN (fun p => if cr p ≤ b then 1 else 0) 495 := by
  unfold cntU
  apply sumN_cong
  intro p _
  have : nI b < nI (cr p) ↔ b < cr p := nI_ltI h (hb p)
  by_cases c : cr p ≤ b
  · rw [if_pos c, if_neg (fun q => by have := this.mp q; omega)]
  · rw [if_neg c, if_pos (this.mpr (by omega))]
theorem sumN_all1 : ∀ m, sumN (fun _ => 1) m = m
  | 0 => rfl
  | m + 1 => by simp only [sumN, sumN_all1 m]
theorem lb_spec (hb : ∀ p, cr p < 2 ^ 31) (hc : sumN cr 495 = tot) (ht : tot < 2 ^ 31) (hn : 1 ≤ n ∧ n ≤ 495) : n ≤ sumN (fun p => if cr p ≤ lbB cr n tot then 1 else 0) 495 ∧ sumN (fun p => if cr p < lbB cr n tot then 1 else 0) 495 < n ∧ lbB cr n tot ≤ tot := by
  have hP : ∀ b, b < 2 ^ 31 → (lbP cr n b = true ↔ sumN (fun p => if cr p ≤ b then 1 else 0) 495 < n) := fun b h => by
    unfold lbP
    rw [decide_eq_true_iff, cnt_N hb h]
    have hle : sumN (fun p => if cr p ≤ b then 1 else 0) 495 ≤ 495 * 1 := sumN_le (fun k _ => by show (if cr k ≤ b then 1 else 0) ≤ 1; split <;> omega)
    exact nI_ltI (by omega) (by omega)
  -- beyond the room of an int the halving never looks: P there is taken as at tot
  have hH : lbP cr n tot = false := by
    rw [Bool.eq_false_iff]
    intro q
    have := (hP tot ht).mp q
    rw [sumN_cong (g := fun _ => 1) (fun k hk => if_pos (by rw [← hc]; exact sumN_ge hk)), sumN_all1] at this
    omega
  let P2 : Nat → Bool := fun b => decide (sumN (fun p => if cr p ≤ b then 1 else 0) 495 < n)
  have e2 : ∀ b, b ≤ tot → lbP cr n b = P2 b := fun b h => by
    have := hP b (by omega)
    show lbP cr n b = decide _
    by_cases c : sumN (fun p => if cr p ≤ b then 1 else 0) 495 < n
    · rw [this.mpr c, decide_eq_true c]
    · rw [decide_eq_false c, Bool.eq_false_iff]; exact fun q => c (this.mp q)
  have hmono : ∀ m m2, m ≤ m2 → P2 m2 = true → P2 m = true := fun m m2 h q => by
    have q := of_decide_eq_true q
    apply decide_eq_true
    exact Nat.lt_of_le_of_lt (sumN_mono (fun k _ => if_le (fun z => by omega))) q
  have hS := hv_spec (P := P2) (H := tot) (by rw [← e2 tot (Nat.le_refl _)]; exact hH) hmono 32
  have hE : hvI (lbP cr n) (0, tot) 32 = hvI P2 (0, tot) 32 := hvI_cong (H := tot) ⟨Nat.zero_le _, Nat.le_refl _⟩ e2 32
  have hW := hv_w P2 (0, tot) (W := tot) (Nat.sub_le _ _) 32
  have hz : tot / 2 ^ 32 = 0 := Nat.div_eq_of_lt (by omega)
  rw [hz] at hW
  have hB : lbB cr n tot = (hvI P2 (0, tot) 32).2 := by unfold lbB; rw [hE]
  rw [hB]
  obtain ⟨h1, h2, h3, h4⟩ := hS
  generalize hvI P2 (0, tot) 32 = x at hW h1 h2 h3 h4 ⊢
  refine ⟨?_, ?_, h2⟩
  · have := of_decide_eq_false h3; omega
  · rcases Nat.eq_zero_or_pos x.2 with z | z
    · rw [z, sumN_zero (fun k _ => if_neg (Nat.not_lt_zero _))]; omega
    · have := of_decide_eq_true (h4 (x.2 - 1) (by omega))
      rw [sumN_cong (g := fun p => if cr p ≤ x.2 - 1 then 1 else 0) (fun k _ => ?_)]
      · exact this
      · by_cases c : cr k < x.2
        · rw [if_pos c, if_pos (by omega)]
        · rw [if_neg c, if_neg (by omega)]
theorem tkF_rk (hb : ∀ p, cr p < 2 ^ 31) (hc : sumN cr 495 = tot) (ht : tot < 2 ^ 31) (hn : 1 ≤ n ∧ n ≤ 495) {q : Nat} (hq : q < 495) : tkF cr n tot q = if rkN cr q < n then 1 else 0 := by
  obtain ⟨s1, s2, s3⟩ := lb_spec hb hc ht hn
  unfold tkF tkL
  generalize lbB cr n tot = B at s1 s2 s3 ⊢
  have e1 : nI (cr q) < nI B ↔ cr q < B := nI_ltI (hb q) (by omega)
  have e2 : nI (cr q) = nI B ↔ cr q = B := nI_eq (hb q) (by omega)
  have hbel : cntU cr (nI B - 1) 495 = sumN (fun p => if cr p < B then 1 else 0) 495 := by
    rcases Nat.eq_zero_or_pos B with z | z
    · rw [z, sumN_zero (fun k _ => if_neg (Nat.not_lt_zero _))]
      unfold cntU
      apply sumN_zero
      intro k _
      rw [if_pos]
      rw [fa_lt, nI_toInt (hb k), show (nI 0 - 1 : Int32).toInt = -1 from rfl]; omega
    · rw [show nI B - 1 = nI (B - 1) from nI_isub B 1 z, cnt_N hb (by omega)]
      apply sumN_cong
      intro k _
      by_cases c : cr k < B
      · rw [if_pos c, if_pos (by omega)]
      · rw [if_neg c, if_neg (by omega)]
  rw [hbel]
  have hE : cntE cr B q = sumN (fun j => if j < q then (if cr j = B then 1 else 0) else 0) 495 := by
    rw [sumN_trunc (fun j => if cr j = B then 1 else 0) (by omega : q ≤ 495)]
    unfold cntE
    apply sumN_cong
    intro k _
    have e3 : nI (cr k) = nI B ↔ cr k = B := nI_eq (hb k) (by omega)
    by_cases c : cr k = B
    · rw [if_pos c, if_pos (e3.mpr c)]
    · rw [if_neg c, if_neg (mt e3.mp c)]
  generalize hbl : sumN (fun p => if cr p < B then 1 else 0) 495 = bl at s2 ⊢
  rcases Nat.lt_trichotomy (cr q) B with c | c | c
  · rw [if_pos (e1.mpr c), if_pos]
    have : rkN cr q < bl := by
      rw [← hbl]
      refine sumN_lt (a := q) (fun k _ => if_le (fun z => ?_)) hq ?_
      · rw [lxB_iff] at z; omega
      · rw [if_neg (fun z => by rw [lxB_iff] at z; omega), if_pos c]; exact Nat.zero_lt_one
    omega
  · rw [if_neg (fun z => by have := e1.mp z; omega), if_pos (e2.mpr c)]
    have hr : rkN cr q = bl + cntE cr B q := by
      rw [hE, ← hbl, ← sumN_add]
      apply sumN_cong
      intro j _
      by_cases d1 : cr j < B
      · rw [if_pos (lxB_iff.mpr (by omega)), if_pos d1]
        by_cases d2 : j < q
        · rw [if_pos d2, if_neg (by omega)]
        · rw [if_neg d2]
      · rw [if_neg d1]
        by_cases d2 : j < q
        · rw [if_pos d2]
          by_cases d3 : cr j = B
          · rw [if_pos (lxB_iff.mpr (by omega)), if_pos d3]
          · rw [if_neg (fun z => by rw [lxB_iff] at z; omega), if_neg d3]
        · rw [if_neg d2, if_neg (fun z => by rw [lxB_iff] at z; omega)]
    have hEle : cntE cr B q ≤ 495 := by
      have : cntE cr B q ≤ q * 1 := sumN_le (fun k _ => by show (if nI (cr k) = nI B then 1 else 0) ≤ 1; split <;> omega)
      omega
    have hL : nI n - nI bl - nI (cntE cr B q) ≤ 0 ↔ n ≤ bl + cntE cr B q := by
      rw [nI_isub n bl (by omega), fa_le, show (0 : Int32).toInt = 0 from rfl]
      have g1 : (nI (n - bl)).toInt = ((n - bl : Nat) : Int) := nI_toInt (by omega)
      have g2 : (nI (cntE cr B q)).toInt = (cntE cr B q : Int) := nI_toInt (by omega)
      rw [fb_subI (by rw [g1, g2]; omega) (by rw [g1, g2]; omega), g1, g2]
      omega
    by_cases d : n ≤ bl + cntE cr B q
    · rw [if_pos (hL.mpr d), if_neg (by omega)]
    · rw [if_neg (mt hL.mp d), if_pos (by omega)]
  · rw [if_neg (fun z => by have := e1.mp z; omega), if_neg (fun z => by have := e2.mp z; omega), if_neg]
    have : sumN (fun p => if cr p ≤ B then 1 else 0) 495 ≤ rkN cr q := sumN_mono (fun k _ => if_le (fun z => lxB_iff.mpr (by omega)))
    omega
theorem own_ov (hb : ∀ p, cr p < 2 ^ 31) (hc : sumN cr 495 = tot) (ht : tot < 2 ^ 31) (hn : 1 ≤ n ∧ n ≤ 495) (d r : Nat) : ovS r (crL (tkF cr n tot)) d = lN (ownN cr d n r) := by
  unfold ovS ownN crL
  rw [pk_sum cr (fun q => if popN (rowB q &&& rowB d) = r then 1 else 0) n hn.2, ← sumL_lN]
  apply sumL_cong
  intro q hq
  rw [tkF_rk hb hc ht hn hq]
  by_cases c : popN (rowB q &&& rowB d) = r
  · rw [if_pos c, if_pos c]
    by_cases z : rkN cr q < n
    · rw [if_pos z]; rfl
    · rw [if_neg z]; rfl
  · rw [if_neg c, if_neg c]
    by_cases z : rkN cr q < n
    · rw [if_pos z]; rfl
    · rw [if_neg z]; rfl
theorem ho_term {ru : Nat → Nat} (h : RuI ru) (hb : ∀ p, cr p < 2 ^ 31) (hc : sumN cr 495 = tot) (ht : tot ≤ 5199948) (hn : 1 ≤ n ∧ n ≤ 495) {pot : Nat} (hp : pot ≤ 614794851) {d r : Nat} (hd : d < 495) (h2 : 2 ≤ r) (h4 : r ≤ 4) : ovS r (crL (tkF cr n tot)) d * oneG ru (partL ru r (lN pot)) (wnA cr (thF cr) (twF cr) r d) (ovS r (crL (tkF cr n tot)) d) = hoT ru (lN pot) cr n d r := by
  rw [own_ov hb hc (by omega) hn, wnA_N cr hd h2 h4]
  unfold hoT
  have ho := own_le cr d n r
  have hw := winN_le cr (rowB d) r
  by_cases c : ownN cr d n r = 0
  · rw [if_pos c, c]; exact Int64.zero_mul
  · have h1 := partN_le h (pot := pot) h2 h4
    rw [if_neg c, oneG_N h h2 h4 hp (by omega) (by omega) (by omega), lN_of _ (by omega), lN_of _ (by omega), partL_N h h2 h4 hp, lN_div (by omega) (by omega), taxR_N h (Nat.lt_of_le_of_lt (Nat.div_le_self _ _) (by omega))]
    rfl
theorem ho_split (ru : Nat → Nat) (pot : Int64) : ∀ D, hoS ru pot cr n D = sumL (fun d => hoT ru pot cr n d 2) D + sumL (fun d => hoT ru pot cr n d 3) D + sumL (fun d => hoT ru pot cr n d 4) D := by
  intro D
  rw [← sumL_add, ← sumL_add]
  induction D with
  | zero => rfl
  | succ D ih => simp only [hoS, sumL]; rw [ih, Int64.add_assoc, Int64.add_assoc, Int64.add_assoc]
theorem house_eq {ru : Nat → Nat} (h : RuI ru) (hb : ∀ p, cr p < 2 ^ 31) (hc : sumN cr 495 = tot) (ht : tot ≤ 5199948) (hn : 1 ≤ n ∧ n ≤ 495) : hoS ru (potL ru (nI (ru 7)).toInt64 (nI tot).toInt64) cr n 495 / 495 - (nI n).toInt64 * (nI (ru 0)).toInt64 = hsL ru (wkPot ru tot) cr (thF cr) (twF cr) (crL (tkF cr n tot)) n := by
  have hp := potN_le h ht (ru7 h)
  unfold hsL hsI wkPot
  rw [potL_N h ht (ru7 h), ho_split]
  have e : ∀ r, 2 ≤ r → r ≤ 4 → sumL (fun d => ovS r (crL (tkF cr n tot)) d * oneG ru (partL ru r (lN (potN ru (ru 7) tot))) (wnA cr (thF cr) (twF cr) r d) (ovS r (crL (tkF cr n tot)) d)) 495 = sumL (fun d => hoT ru (lN (potN ru (ru 7) tot)) cr n d r) 495 := fun r h2 h4 => sumL_cong (fun d hd => ho_term h hb hc ht hn hp hd h2 h4)
  rw [e 4 (by decide) (by decide), e 3 (by decide) (by decide), e 2 (by decide) (by decide), Int64.zero_add]
  have r3 : ∀ x y z : Int64, x + y + z = z + y + x := fun x y z => by rw [Int64.add_comm x y, Int64.add_comm (y + x) z, ← Int64.add_assoc]
  rw [r3]
end HS
