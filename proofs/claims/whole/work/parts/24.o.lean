def sgB (x : Nat) : Int32 := (nI x).toInt8.toInt32
/-- the place of a name among s l g e c d w; 7: none -/
def nmIx (c : Nat) : Nat := if c = 115 then 0 else if c = 108 then 1 else if c = 103 then 2 else if c = 101 then 3 else if c = 99 then 4 else if c = 100 then 5 else if c = 119 then 6 else 7
def nxX (x : Int32) : Int32 := if 115 = x then 0 else if 108 = x then 1 else if 103 = x then 2 else if 101 = x then 3 else if 99 = x then 4 else if 100 = x then 5 else if 119 = x then 6 else (-1)
theorem nx_A : (List.range 256).all (fun c => nxX (sgB c) == (if nmIx c < 7 then nI (nmIx c) else -1)) = true := by decide +kernel
theorem nx_eq {c : Nat} (h : c < 256) : nxX (sgB c) = if nmIx c < 7 then nI (nmIx c) else -1 := eq_of_beq (List.all_eq_true.mp nx_A c (List.mem_range.mpr h))
theorem sg_A : (List.range 256).all (fun c => ((sgB c &&& 255).toUInt32 % 65536).toInt32 == nI c) = true := by decide +kernel
theorem sg_eq {c : Nat} (h : c < 256) : ((sgB c &&& 255).toUInt32 % 65536).toInt32 = nI c := eq_of_beq (List.all_eq_true.mp sg_A c (List.mem_range.mpr h))
theorem sg_B : (List.range 256).all (fun c => (List.range 128).all (fun k => decide (sgB c = nI k) == decide (c = k))) = true := by decide +kernel
theorem sg_is {c k : Nat} (h : c < 256) (hk : k < 128) : sgB c = nI k ↔ c = k := by
  have := List.all_eq_true.mp (List.all_eq_true.mp sg_B c (List.mem_range.mpr h)) k (List.mem_range.mpr hk)
  simpa using this
/-- the sign that is read next; 256: none -/
def hB (b : Nat → Nat) (n a : Nat) : Nat := if a < n then b a else 256
theorem hB_in {b : Nat → Nat} {n a : Nat} (h : a < n) : hB b n a = b a := if_pos h
theorem hB_out {b : Nat → Nat} {n a : Nat} (h : ¬ a < n) : hB b n a = 256 := if_neg h
theorem hB_lt {b : Nat → Nat} {n a c : Nat} (h : hB b n a = c) (hc : c < 256) : a < n := by
  rcases Nat.lt_or_ge a n with q | q
  · exact q
  · rw [hB_out (by omega)] at h; omega
def seesI (b : Nat → Nat) (n a c : Nat) : Int32 := if hB b n a = c then 1 else 0
theorem sees_eq {b : Nat → Nat} {n a c : Nat} (ha : a ≤ n) (hn : n ≤ 60) (hb : ∀ j, b j < 256) (hc : c < 128) : (if nI n ≤ nI a then (0 : Int32) else (if sgB (b a) = nI c then 1 else 0)) = seesI b n a c := by
  have h1 : (nI n ≤ nI a) ↔ n ≤ a := nI_leI (by omega) (by omega)
  unfold seesI
  by_cases q : n ≤ a
  · rw [if_pos (h1.mpr q), hB_out (by omega), if_neg (by omega)]
  · rw [if_neg (mt h1.mp q), hB_in (by omega)]
    simp only [sg_is (hb a) hc]
def dgT (c : Nat) : Bool := decide (48 ≤ c ∧ c ≤ 57)
def digI (b : Nat → Nat) (n a : Nat) : Int32 := if dgT (hB b n a) then nI (hB b n a - 48) else -1
theorem dg_A : (List.range 256).all (fun c => (if sgB c < 48 then (-1 : Int32) else (if 57 < sgB c then -1 else sgB c - 48)) == (if dgT c then nI (c - 48) else -1)) = true := by decide +kernel
theorem dg_eq {b : Nat → Nat} {n a : Nat} (ha : a ≤ n) (hn : n ≤ 60) (hb : ∀ j, b j < 256) : (if nI n ≤ nI a then (-1 : Int32) else (if sgB (b a) < 48 then -1 else (if 57 < sgB (b a) then -1 else sgB (b a) - 48))) = digI b n a := by
  have h1 : (nI n ≤ nI a) ↔ n ≤ a := nI_leI (by omega) (by omega)
  unfold digI
  by_cases q : n ≤ a
  · rw [if_pos (h1.mpr q), hB_out (by omega)]; rfl
  · rw [if_neg (mt h1.mp q), hB_in (by omega)]
    exact eq_of_beq (List.all_eq_true.mp dg_A (b a) (List.mem_range.mpr (hb a)))
def nmhI (b : Nat → Nat) (n a : Nat) : Int32 := if nmIx (hB b n a) < 7 then nI (nmIx (hB b n a)) else -1
/-- the reader's state: where it is, whether there is a fault (there), the code -/
abbrev PS : Type := Nat × Bool × List Int32
def flB (bd : Bool) (a : Nat) : Int32 := if bd = true then nI a else -1
def coL (cl : List Int32) (f0 : Nat → Int32) : Nat → Int32 := fun j => cl.getD j (f0 j)
theorem coL_nil (f0 : Nat → Int32) : coL [] f0 = f0 := by funext j; simp [coL]
theorem coL_upd (cl : List Int32) (f0 : Nat → Int32) (c : Int32) : upd (coL cl f0) cl.length c = coL (cl ++ [c]) f0 := by
  funext j
  simp only [upd, coL]
  by_cases h : j = cl.length
  · subst h; simp
  · rw [if_neg h]
    by_cases h2 : j < cl.length
    · simp [List.getD_eq_getElem?_getD, List.getElem?_append_left h2]
    · simp [List.getD_eq_getElem?_getD, List.getElem?_eq_none (show cl.length ≤ j by omega), List.getElem?_eq_none (show (cl ++ [c]).length ≤ j by simp; omega)]
def putL (c : Int32) (cl : List Int32) : List Int32 := if cl.length < 60 then cl ++ [c] else cl
theorem putL_le {c : Int32} {cl : List Int32} (h : cl.length ≤ 60) : (putL c cl).length ≤ 60 := by
  unfold putL; split
  · simp; omega
  · exact h
def badP (P : PS) : PS := (P.1, true, P.2.2)
def advP (P : PS) : PS := (P.1 + 1, P.2.1, P.2.2)
def putP (c : Int32) (P : PS) : PS := (P.1, P.2.1, putL c P.2.2)
def itr {α : Type} (f : α → α) : Nat → α → α
  | 0, x => x
  | i + 1, x => f (itr f i x)
theorem itr_fix {α : Type} {f : α → α} {x y : α} {i : Nat} (h : y = itr f i x) (hf : f y = y) : ∀ {N : Nat}, i ≤ N → itr f N x = y
  | 0, hi => by rw [show i = 0 by omega] at h; exact h.symm
  | N + 1, hi => by
    by_cases e : i = N + 1
    · rw [← e]; exact h.symm
    · rw [itr, itr_fix h hf (show i ≤ N by omega), hf]
def nmS (h : Nat → Nat) (q : Nat × Nat) : Nat × Nat := if dgT (h q.1) = true then (q.1 + 1, q.2 * 10 + (h q.1 - 48)) else q
def numI (h : Nat → Nat) (a : Nat) : Nat × Nat := itr (nmS h) 3 (a, 0)
def pasA (h : Nat → Nat) (c : Nat) (bd : Bool) (a : Nat) : Nat × Bool := if bd = true then (a, true) else if h a = c then (a + 1, false) else (a, true)
def passP (h : Nat → Nat) (c : Nat) (P : PS) : PS := ((pasA h c P.2.1 P.1).1, (pasA h c P.2.1 P.1).2, P.2.2)
def facP (h : Nat → Nat) (br : PS → PS) (P : PS) : PS :=
  if dgT (h P.1) = true then ((numI h P.1).1, P.2.1, putL (nI (numI h P.1).2) P.2.2)
  else if nmIx (h P.1) < 7 then (P.1 + 1, P.2.1, putL ((-10) - nI (nmIx (h P.1))) P.2.2)
  else if h P.1 = 40 then br P else badP P
def prS (h : Nat → Nat) (fac : PS → PS) (Q : PS) : PS := if Q.2.1 = true then Q else if h Q.1 = 42 then putP (-3) (fac (advP Q)) else Q
def prodP (h : Nat → Nat) (fac : PS → PS) (P : PS) : PS := itr (prS h fac) 60 (fac P)
def smS (h : Nat → Nat) (prod : PS → PS) (Q : PS) : PS := if Q.2.1 = true then Q else if h Q.1 = 43 then putP (-1) (prod (advP Q)) else if h Q.1 = 45 then putP (-2) (prod (advP Q)) else Q
def sumP (h : Nat → Nat) (prod : PS → PS) (P : PS) : PS := itr (smS h prod) 60 (prod P)
def brkP (h : Nat → Nat) (sum : PS → PS) (P : PS) : PS :=
  passP h 41 (if (sum P).2.1 = true then sum P else if h (sum P).1 = 63 then putP (-4) (if (passP h 58 (sum (advP (sum P)))).2.1 = true then passP h 58 (sum (advP (sum P))) else sum (passP h 58 (sum (advP (sum P))))) else sum P)
def sumL_ (h : Nat → Nat) : Nat → PS → PS
  | 0 => sumP h (prodP h (facP h badP))
  | d + 1 => sumP h (prodP h (facP h (fun P => brkP h (sumL_ h d) (advP P))))
def brL (h : Nat → Nat) : Nat → PS → PS
  | 0 => badP
  | d + 1 => fun P => brkP h (sumL_ h d) (advP P)
def brkL (h : Nat → Nat) (d : Nat) : PS → PS := brkP h (sumL_ h d)
def facL (h : Nat → Nat) (d : Nat) : PS → PS := facP h (brL h d)
def prodL (h : Nat → Nat) (d : Nat) : PS → PS := prodP h (facL h d)
theorem sumL_eq (h : Nat → Nat) (d : Nat) : sumL_ h d = sumP h (prodL h d) := by cases d <;> rfl
/-- a step keeps within the text and the code's room -/
def okS (n : Nat) (P : PS) : Prop := P.1 ≤ n ∧ P.2.2.length ≤ 60
def okP (n : Nat) (f : PS → PS) : Prop := ∀ P : PS, okS n P → okS n (f P)
def okH (n : Nat) (h : Nat → Nat) : Prop := ∀ a, h a < 256 → a < n
theorem okH_hB (b : Nat → Nat) (n : Nat) : okH n (hB b n) := fun a q => hB_lt rfl q
theorem okP_itr {n : Nat} {f : PS → PS} (h : okP n f) : ∀ i, okP n (itr f i)
  | 0 => fun _ hP => hP
  | i + 1 => fun P hP => h _ (okP_itr h i P hP)
section OK
variable {n : Nat} {h : Nat → Nat} (H : okH n h)
theorem adv_le {a c : Nat} (H : okH n h) (q : h a = c) (hc : c < 256) : a + 1 ≤ n := H a (by rw [q]; exact hc)
theorem nmS_le (H : okH n h) {q : Nat × Nat} (hq : q.1 ≤ n) : (nmS h q).1 ≤ n := by
  unfold nmS
  split
  next c => exact H _ (by have := (of_decide_eq_true c).2; omega)
  · exact hq
theorem nmSi_le (H : okH n h) {a : Nat} (ha : a ≤ n) : ∀ i, (itr (nmS h) i (a, 0)).1 ≤ n
  | 0 => ha
  | i + 1 => nmS_le H (nmSi_le H ha i)
theorem numI_le (H : okH n h) {a : Nat} (ha : a ≤ n) : (numI h a).1 ≤ n := nmSi_le H ha 3
theorem nm_lt (H : okH n h) {a : Nat} (q : nmIx (h a) < 7) : a < n := by
  refine H a ?_
  rcases Nat.lt_or_ge (h a) 256 with r | r
  · exact r
  · exfalso
    unfold nmIx at q
    repeat' split at q
    all_goals omega
theorem pasA_le (H : okH n h) {c : Nat} (hc : c < 256) {bd : Bool} {a : Nat} (ha : a ≤ n) : (pasA h c bd a).1 ≤ n := by
  unfold pasA
  split
  · exact ha
  · split
    next q => exact adv_le H q hc
    · exact ha
theorem passP_ok (H : okH n h) {c : Nat} (hc : c < 256) : okP n (passP h c) := fun P hP => ⟨pasA_le H hc hP.1, hP.2⟩
theorem facP_ok (H : okH n h) {br : PS → PS} (hb : ∀ P : PS, okS n P → h P.1 = 40 → okS n (br P)) : okP n (facP h br) := by
  intro P hP
  unfold facP
  split
  · exact ⟨numI_le H hP.1, putL_le hP.2⟩
  · split
    next q => exact ⟨nm_lt H q, putL_le hP.2⟩
    · split
      next q => exact hb P hP q
      · exact hP
theorem prodP_ok (H : okH n h) {f : PS → PS} (hf : okP n f) : okP n (prodP h f) := by
  intro P hP
  refine okP_itr (f := prS h f) (fun Q hQ => ?_) 60 _ (hf P hP)
  unfold prS
  split
  · exact hQ
  · split
    next q =>
      have z := hf (advP Q) ⟨adv_le H q (by decide), hQ.2⟩
      exact ⟨z.1, putL_le z.2⟩
    · exact hQ
theorem sumP_ok (H : okH n h) {f : PS → PS} (hf : okP n f) : okP n (sumP h f) := by
  intro P hP
  refine okP_itr (f := smS h f) (fun Q hQ => ?_) 60 _ (hf P hP)
  unfold smS
  split
  · exact hQ
  · split
    next q =>
      have z := hf (advP Q) ⟨adv_le H q (by decide), hQ.2⟩
      exact ⟨z.1, putL_le z.2⟩
    · split
      next q =>
        have z := hf (advP Q) ⟨adv_le H q (by decide), hQ.2⟩
        exact ⟨z.1, putL_le z.2⟩
      · exact hQ
theorem brkP_ok (H : okH n h) {f : PS → PS} (hf : okP n f) : okP n (brkP h f) := by
  intro P hP
  refine passP_ok H (by decide) _ ?_
  split
  · exact hf P hP
  · split
    next q =>
      have h2 := passP_ok H (c := 58) (by decide) _ (hf (advP (f P)) ⟨adv_le H q (by decide), (hf P hP).2⟩)
      have h3 : okS n (if (passP h 58 (f (advP (f P)))).2.1 = true then passP h 58 (f (advP (f P))) else f (passP h 58 (f (advP (f P))))) := by
        split
        · exact h2
        · exact hf _ h2
      exact ⟨h3.1, putL_le h3.2⟩
    · exact hf P hP
theorem sumL_ok (H : okH n h) : ∀ d, okP n (sumL_ h d)
  | 0 => sumP_ok H (prodP_ok H (facP_ok H (fun P hP _ => hP)))
  | d + 1 => sumP_ok H (prodP_ok H (facP_ok H (fun P hP q => brkP_ok H (sumL_ok H d) _ ⟨adv_le H q (by decide), hP.2⟩)))
theorem brL_ok (H : okH n h) : ∀ d (P : PS), okS n P → h P.1 = 40 → okS n (brL h d P)
  | 0, P, hP, _ => hP
  | d + 1, P, hP, q => brkP_ok H (sumL_ok H d) _ ⟨adv_le H q (by decide), hP.2⟩
theorem facL_ok (H : okH n h) (d : Nat) : okP n (facL h d) := facP_ok H (brL_ok H d)
theorem prodL_ok (H : okH n h) (d : Nat) : okP n (prodL h d) := prodP_ok H (facL_ok H d)
end OK
theorem sees1 {b : Nat → Nat} {n a c : Nat} (h : ¬ seesI b n a c = 0) : hB b n a = c := by
  unfold seesI at h; split at h
  next q => exact q
  · exact absurd rfl h
theorem sees0 {b : Nat → Nat} {n a c : Nat} (h : seesI b n a c = 0) : ¬ hB b n a = c := by
  unfold seesI at h; split at h
  · exact absurd h (by decide)
  next q => exact q
theorem dig1 {b : Nat → Nat} {n a : Nat} (h : ¬ digI b n a < 0) : dgT (hB b n a) = true := by
  unfold digI at h; split at h
  next q => exact q
  · exact absurd (by decide) h
theorem dig0 {b : Nat → Nat} {n a : Nat} (h : digI b n a < 0) : ¬ dgT (hB b n a) = true := by
  intro q
  unfold digI at h; rw [if_pos q] at h
  have : hB b n a ≤ 57 := (of_decide_eq_true q).2
  exact nI_pos (by omega) h
theorem digV {b : Nat → Nat} {n a : Nat} (h : dgT (hB b n a) = true) : digI b n a = nI (hB b n a - 48) := if_pos h
theorem nmh1 {b : Nat → Nat} {n a : Nat} (h : ¬ nmhI b n a < 0) : nmIx (hB b n a) < 7 := by
  unfold nmhI at h; split at h
  next q => exact q
  · exact absurd (by decide) h
theorem nmh0 {b : Nat → Nat} {n a : Nat} (h : nmhI b n a < 0) : ¬ nmIx (hB b n a) < 7 := by
  intro q
  unfold nmhI at h; rw [if_pos q] at h
  exact nI_pos (by omega) h
theorem nmh_eq {b : Nat → Nat} {n a : Nat} (ha : a ≤ n) (hn : n ≤ 60) (hb : ∀ j, b j < 256) : (if nI n ≤ nI a then (-1 : Int32) else nxX (sgB (b a))) = nmhI b n a := by
  have h1 : (nI n ≤ nI a) ↔ n ≤ a := nI_leI (by omega) (by omega)
  unfold nmhI
  by_cases q : n ≤ a
  · rw [if_pos (h1.mpr q), hB_out (by omega)]; rfl
  · rw [if_neg (mt h1.mp q), hB_in (by omega), nx_eq (hb a)]
theorem pasA_t (h : Nat → Nat) (c a : Nat) : pasA h c true a = (a, true) := rfl
theorem pasA_1 {h : Nat → Nat} {c a : Nat} (q : h a = c) : pasA h c false a = (a + 1, false) := by simp [pasA, q]
theorem pasA_0 {h : Nat → Nat} {c a : Nat} (q : ¬ h a = c) : pasA h c false a = (a, true) := by simp [pasA, q]
section FB
variable {h : Nat → Nat} {br sum : PS → PS} {a a1 a3 : Nat} {cl c1 : List Int32} {P : PS}
theorem fac_num (q : dgT (h a) = true) : facP h br (a, false, cl) = ((numI h a).1, false, putL (nI (numI h a).2) cl) := by simp [facP, q]
theorem fac_nm (q : ¬ dgT (h a) = true) (q2 : nmIx (h a) < 7) : facP h br (a, false, cl) = (a + 1, false, putL ((-10) - nI (nmIx (h a))) cl) := by simp [facP, q, q2]
theorem fac_br (q : ¬ dgT (h a) = true) (q2 : ¬ nmIx (h a) < 7) (q3 : h a = 40) : facP h br (a, false, cl) = br (a, false, cl) := by simp only [facP, if_neg q, if_neg q2, if_pos q3]
theorem fac_bad (q : ¬ dgT (h a) = true) (q2 : ¬ nmIx (h a) < 7) (q3 : ¬ h a = 40) : facP h br (a, false, cl) = (a, true, cl) := by simp only [facP, if_neg q, if_neg q2, if_neg q3]; rfl
theorem brkA (e : sum P = (a1, true, c1)) : brkP h sum P = passP h 41 (a1, true, c1) := by simp [brkP, e]
theorem brkB (e : sum P = (a1, false, c1)) (q : ¬ h a1 = 63) : brkP h sum P = passP h 41 (a1, false, c1) := by simp [brkP, e, q]
theorem brkC (e : sum P = (a1, false, c1)) (q : h a1 = 63) (e3 : pasA h 58 (sum (a1 + 1, false, c1)).2.1 (sum (a1 + 1, false, c1)).1 = (a3, true)) : brkP h sum P = passP h 41 (a3, true, putL (-4) (sum (a1 + 1, false, c1)).2.2) := by
  simp [brkP, e, q, advP, putP, passP, e3]
theorem brkD (e : sum P = (a1, false, c1)) (q : h a1 = 63) (e3 : pasA h 58 (sum (a1 + 1, false, c1)).2.1 (sum (a1 + 1, false, c1)).1 = (a3, false)) : brkP h sum P = passP h 41 ((sum (a3, false, (sum (a1 + 1, false, c1)).2.2)).1, (sum (a3, false, (sum (a1 + 1, false, c1)).2.2)).2.1, putL (-4) (sum (a3, false, (sum (a1 + 1, false, c1)).2.2)).2.2) := by
  simp [brkP, e, q, advP, putP, passP, e3]
end FB
theorem seesI01 (b : Nat → Nat) (n a c : Nat) : seesI b n a c = 0 ∨ seesI b n a c = 1 := by unfold seesI; split <;> simp

-- == J0_coder_7d493 ==
theorem dJ0_coder_7d493_0 : xd cJ0_coder_7d493 0 (.getstatic 38) 3 3 := ⟨by decide +kernel, rfl⟩
theorem dJ0_coder_7d493_3 : xj cJ0_coder_7d493 3 (.ifCond .eq) 6 13 := ⟨10, by decide +kernel, rfl, by decide⟩
theorem dJ0_coder_7d493_6 : xd cJ0_coder_7d493 6 (.aload_n 0) 1 7 := ⟨by decide +kernel, rfl⟩
theorem dJ0_coder_7d493_7 : xd cJ0_coder_7d493 7 (.getfield 15) 3 10 := ⟨by decide +kernel, rfl⟩
theorem dJ0_coder_7d493_10 : xj cJ0_coder_7d493 10 .goto 13 14 := ⟨4, by decide +kernel, rfl, by decide⟩
theorem dJ0_coder_7d493_13 : xd cJ0_coder_7d493 13 (.iconst 1) 1 14 := ⟨by decide +kernel, rfl⟩
theorem dJ0_coder_7d493_14 : xd cJ0_coder_7d493 14 .ireturn 1 15 := ⟨by decide +kernel, rfl⟩

set_option maxRecDepth 100000 in
set_option maxHeartbeats 4000000 in
theorem ct_J0_coder_7d493 (l : Launch) (g : XG)  : Ct l g 1 0 0 yJ0_coder_7d493 cJ0_coder_7d493 1 (some .byte) [.ref ((g.2.2 6))] [] (xpi (0) []) := by
  refine Ct.ofX (lv := [some (.ref ((g.2.2 6)))]) (by decide) rfl (Nat.le_of_ble_eq_true rfl) (fun κ => ?_)
  generalize hQ : xQ κ g 0 0 _ = Q
  refine x_getZ dJ0_coder_7d493_0 (v := .int 1) (fun h => h.2.2) fl_J0_38 ?_
  refine x_if_eq dJ0_coder_7d493_3 (fun c3 => ?_) (fun c3 => ?_)
  · exact absurd c3 (by decide)
  refine x_aload_n dJ0_coder_7d493_6 rfl ?_
  refine x_getOF dJ0_coder_7d493_7 (v := .int 0) (fun h => (h.1.1 0 (by decide)).2.1) fl_J0_15 ?_
  refine x_goto dJ0_coder_7d493_10 ?_
  rw [← hQ]
  refine x_zret dJ0_coder_7d493_14 rfl (rfl) (Nat.le_of_ble_eq_true rfl) (Nat.le_of_ble_eq_true rfl) ?_
  exact ⟨rfl, rfl⟩

-- == J0_length_8abf5 ==
theorem dJ0_length_8abf5_0 : xd cJ0_length_8abf5 0 (.aload_n 0) 1 1 := ⟨by decide +kernel, rfl⟩
theorem dJ0_length_8abf5_1 : xd cJ0_length_8abf5 1 (.getfield 9) 3 4 := ⟨by decide +kernel, rfl⟩
theorem dJ0_length_8abf5_4 : xd cJ0_length_8abf5 4 .arraylength 1 5 := ⟨by decide +kernel, rfl⟩
theorem dJ0_length_8abf5_5 : xd cJ0_length_8abf5 5 (.aload_n 0) 1 6 := ⟨by decide +kernel, rfl⟩
theorem dJ0_length_8abf5_6 : xd cJ0_length_8abf5 6 (.invokevirtual 335) 3 9 := ⟨by decide +kernel, rfl⟩
theorem dJ0_length_8abf5_9 : xd cJ0_length_8abf5 9 .ishr 1 10 := ⟨by decide +kernel, rfl⟩
theorem dJ0_length_8abf5_10 : xd cJ0_length_8abf5 10 .ireturn 1 11 := ⟨by decide +kernel, rfl⟩

set_option maxRecDepth 100000 in
set_option maxHeartbeats 4000000 in
theorem ct_J0_length_8abf5 (l : Launch) (g : XG)  : Ct l g 2 0 0 yJ0_length_8abf5 cJ0_length_8abf5 1 (some .int) [.ref ((g.2.2 6))] [] (xpi (nI (7)) []) := by
  refine Ct.ofX (lv := [some (.ref ((g.2.2 6)))]) (by decide) rfl (Nat.le_of_ble_eq_true rfl) (fun κ => ?_)
  generalize hQ : xQ κ g 0 0 _ = Q
  refine x_aload_n dJ0_length_8abf5_0 rfl ?_
  refine x_getOF dJ0_length_8abf5_1 (v := .ref ((g.2.2 7))) (fun h => (h.1.1 0 (by decide)).2.2.1) fl_J0_9 ?_
  refine x_tlen (t := g.2.2 7) (N := 7) 7 dJ0_length_8abf5_4 (fun h => (h.1.1 0 (by decide)).2.2.2) rfl ?_
  refine x_aload_n dJ0_length_8abf5_5 rfl ?_
  refine x_cVSi dJ0_length_8abf5_6 ml_J0_335 mJ0_coder_7d493 rfl (ct_J0_coder_7d493 κ.2.1 g ) rfl (Nat.le_of_ble_eq_true rfl) (by decide) (Nat.le_refl _) (Nat.le_refl _) ?_
  refine x_ishr dJ0_length_8abf5_9 ?_
  refine x_rei (7) (by decide) ?_
  rw [← hQ]
  refine x_iret dJ0_length_8abf5_10 rfl (Nat.le_of_ble_eq_true rfl) (Nat.le_of_ble_eq_true rfl) ?_
  exact ⟨rfl, rfl⟩

-- == J0_isLatin1_aae02 ==
theorem dJ0_isLatin1_aae02_0 : xd cJ0_isLatin1_aae02 0 (.getstatic 38) 3 3 := ⟨by decide +kernel, rfl⟩
theorem dJ0_isLatin1_aae02_3 : xj cJ0_isLatin1_aae02 3 (.ifCond .eq) 6 17 := ⟨14, by decide +kernel, rfl, by decide⟩
theorem dJ0_isLatin1_aae02_6 : xd cJ0_isLatin1_aae02 6 (.aload_n 0) 1 7 := ⟨by decide +kernel, rfl⟩
theorem dJ0_isLatin1_aae02_7 : xd cJ0_isLatin1_aae02 7 (.getfield 15) 3 10 := ⟨by decide +kernel, rfl⟩
theorem dJ0_isLatin1_aae02_10 : xj cJ0_isLatin1_aae02 10 (.ifCond .ne) 13 17 := ⟨7, by decide +kernel, rfl, by decide⟩
theorem dJ0_isLatin1_aae02_13 : xd cJ0_isLatin1_aae02 13 (.iconst 1) 1 14 := ⟨by decide +kernel, rfl⟩
theorem dJ0_isLatin1_aae02_14 : xj cJ0_isLatin1_aae02 14 .goto 17 18 := ⟨4, by decide +kernel, rfl, by decide⟩
theorem dJ0_isLatin1_aae02_17 : xd cJ0_isLatin1_aae02 17 (.iconst 0) 1 18 := ⟨by decide +kernel, rfl⟩
theorem dJ0_isLatin1_aae02_18 : xd cJ0_isLatin1_aae02 18 .ireturn 1 19 := ⟨by decide +kernel, rfl⟩

set_option maxRecDepth 100000 in
set_option maxHeartbeats 4000000 in
theorem ct_J0_isLatin1_aae02 (l : Launch) (g : XG)  : Ct l g 1 0 0 yJ0_isLatin1_aae02 cJ0_isLatin1_aae02 1 (some .boolean) [.ref ((g.2.2 6))] [] (xpi (1) []) := by
  refine Ct.ofX (lv := [some (.ref ((g.2.2 6)))]) (by decide) rfl (Nat.le_of_ble_eq_true rfl) (fun κ => ?_)
  generalize hQ : xQ κ g 0 0 _ = Q
  refine x_getZ dJ0_isLatin1_aae02_0 (v := .int 1) (fun h => h.2.2) fl_J0_38 ?_
  refine x_if_eq dJ0_isLatin1_aae02_3 (fun c3 => ?_) (fun c3 => ?_)
  · exact absurd c3 (by decide)
  refine x_aload_n dJ0_isLatin1_aae02_6 rfl ?_
  refine x_getOF dJ0_isLatin1_aae02_7 (v := .int 0) (fun h => (h.1.1 0 (by decide)).2.1) fl_J0_15 ?_
  refine x_if_ne dJ0_isLatin1_aae02_10 (fun c10 => ?_) (fun c10 => ?_)
  · exact absurd c10 (by decide)
  refine x_iconst 1 dJ0_isLatin1_aae02_13 (by decide) ?_
  refine x_goto dJ0_isLatin1_aae02_14 ?_
  rw [← hQ]
  refine x_zret dJ0_isLatin1_aae02_18 rfl (rfl) (Nat.le_of_ble_eq_true rfl) (Nat.le_of_ble_eq_true rfl) ?_
  exact ⟨rfl, rfl⟩

-- == J1_canEncode_9a6ad ==
theorem dJ1_canEncode_9a6ad_0 : xd cJ1_canEncode_9a6ad 0 (.iload_n 0) 1 1 := ⟨by decide +kernel, rfl⟩
theorem dJ1_canEncode_9a6ad_1 : xj cJ1_canEncode_9a6ad 1 (.ifCond .lt) 4 15 := ⟨14, by decide +kernel, rfl, by decide⟩
theorem dJ1_canEncode_9a6ad_4 : xd cJ1_canEncode_9a6ad 4 (.iload_n 0) 1 5 := ⟨by decide +kernel, rfl⟩
theorem dJ1_canEncode_9a6ad_5 : xd cJ1_canEncode_9a6ad 5 (.sipush 255) 3 8 := ⟨by decide +kernel, rfl⟩
theorem dJ1_canEncode_9a6ad_8 : xj cJ1_canEncode_9a6ad 8 (.if_icmp .gt) 11 15 := ⟨7, by decide +kernel, rfl, by decide⟩
theorem dJ1_canEncode_9a6ad_11 : xd cJ1_canEncode_9a6ad 11 (.iconst 1) 1 12 := ⟨by decide +kernel, rfl⟩
theorem dJ1_canEncode_9a6ad_12 : xj cJ1_canEncode_9a6ad 12 .goto 15 16 := ⟨4, by decide +kernel, rfl, by decide⟩
theorem dJ1_canEncode_9a6ad_15 : xd cJ1_canEncode_9a6ad 15 (.iconst 0) 1 16 := ⟨by decide +kernel, rfl⟩
theorem dJ1_canEncode_9a6ad_16 : xd cJ1_canEncode_9a6ad 16 .ireturn 1 17 := ⟨by decide +kernel, rfl⟩

set_option maxRecDepth 100000 in
set_option maxHeartbeats 4000000 in
theorem ct_J1_canEncode_9a6ad (l : Launch) (g : XG) (c : Nat) (hc : c < 256) : Ct l g 1 0 0 yJ1_canEncode_9a6ad cJ1_canEncode_9a6ad 1 (some .boolean) [.int (nI c)] [] (xpi (1) []) := by
  refine Ct.ofX (lv := [some (.int (nI c))]) (by decide) rfl (Nat.le_of_ble_eq_true rfl) (fun κ => ?_)
  generalize hQ : xQ κ g 0 0 _ = Q
  refine x_iload_n dJ1_canEncode_9a6ad_0 rfl ?_
  refine x_if_lt dJ1_canEncode_9a6ad_1 (fun c1 => ?_) (fun c1 => ?_)
  · have c1 : (nI c) < 0 := c1
    have c1n := (nI_ltI (a := c) (b := 0) (by omega) (by omega)).mp c1
    exact absurd c1n (by omega)
  · have c1 : ¬ ((nI c) < 0) := c1
    have c1n := mt (nI_ltI (a := c) (b := 0) (by omega) (by omega)).mpr c1
    refine x_iload_n dJ1_canEncode_9a6ad_4 rfl ?_
    refine x_sipush 255 dJ1_canEncode_9a6ad_5 (by decide) ?_
    refine x_icmp_gt dJ1_canEncode_9a6ad_8 (fun c8 => ?_) (fun c8 => ?_)
    · have c8 : 255 < (nI c) := c8
      have c8n := (nI_ltI (a := 255) (b := c) (by omega) (by omega)).mp c8
      exact absurd c8n (by omega)
    · have c8 : ¬ (255 < (nI c)) := c8
      have c8n := mt (nI_ltI (a := 255) (b := c) (by omega) (by omega)).mpr c8
      refine x_iconst 1 dJ1_canEncode_9a6ad_11 (by decide) ?_
      refine x_goto dJ1_canEncode_9a6ad_12 ?_
      rw [← hQ]
      refine x_zret dJ1_canEncode_9a6ad_16 rfl (rfl) (Nat.le_of_ble_eq_true rfl) (Nat.le_of_ble_eq_true rfl) ?_
      exact ⟨rfl, rfl⟩

-- == J1_indexOfChar_4cfef ==
theorem dJ1_indexOfChar_4cfef_0 : xd cJ1_indexOfChar_4cfef 0 (.iload_n 1) 1 1 := ⟨by decide +kernel, rfl⟩
theorem dJ1_indexOfChar_4cfef_1 : xd cJ1_indexOfChar_4cfef 1 .i2b 1 2 := ⟨by decide +kernel, rfl⟩
theorem dJ1_indexOfChar_4cfef_2 : xd cJ1_indexOfChar_4cfef 2 (.istore 4) 2 4 := ⟨by decide +kernel, rfl⟩
theorem dJ1_indexOfChar_4cfef_4 : xd cJ1_indexOfChar_4cfef 4 (.iload_n 2) 1 5 := ⟨by decide +kernel, rfl⟩
theorem dJ1_indexOfChar_4cfef_5 : xd cJ1_indexOfChar_4cfef 5 (.istore 5) 2 7 := ⟨by decide +kernel, rfl⟩
theorem dJ1_indexOfChar_4cfef_7 : xd cJ1_indexOfChar_4cfef 7 (.iload 5) 2 9 := ⟨by decide +kernel, rfl⟩
theorem dJ1_indexOfChar_4cfef_9 : xd cJ1_indexOfChar_4cfef 9 (.iload_n 3) 1 10 := ⟨by decide +kernel, rfl⟩
theorem dJ1_indexOfChar_4cfef_10 : xj cJ1_indexOfChar_4cfef 10 (.if_icmp .ge) 13 31 := ⟨21, by decide +kernel, rfl, by decide⟩
theorem dJ1_indexOfChar_4cfef_13 : xd cJ1_indexOfChar_4cfef 13 (.aload_n 0) 1 14 := ⟨by decide +kernel, rfl⟩
theorem dJ1_indexOfChar_4cfef_14 : xd cJ1_indexOfChar_4cfef 14 (.iload 5) 2 16 := ⟨by decide +kernel, rfl⟩
theorem dJ1_indexOfChar_4cfef_16 : xd cJ1_indexOfChar_4cfef 16 .baload 1 17 := ⟨by decide +kernel, rfl⟩
theorem dJ1_indexOfChar_4cfef_17 : xd cJ1_indexOfChar_4cfef 17 (.iload 4) 2 19 := ⟨by decide +kernel, rfl⟩
theorem dJ1_indexOfChar_4cfef_19 : xj cJ1_indexOfChar_4cfef 19 (.if_icmp .ne) 22 25 := ⟨6, by decide +kernel, rfl, by decide⟩
theorem dJ1_indexOfChar_4cfef_22 : xd cJ1_indexOfChar_4cfef 22 (.iload 5) 2 24 := ⟨by decide +kernel, rfl⟩
theorem dJ1_indexOfChar_4cfef_24 : xd cJ1_indexOfChar_4cfef 24 .ireturn 1 25 := ⟨by decide +kernel, rfl⟩
theorem dJ1_indexOfChar_4cfef_25 : xd cJ1_indexOfChar_4cfef 25 (.iinc 5 1) 3 28 := ⟨by decide +kernel, rfl⟩
theorem dJ1_indexOfChar_4cfef_28 : xj cJ1_indexOfChar_4cfef 28 .goto 31 7 := ⟨(-21), by decide +kernel, rfl, by decide⟩
theorem dJ1_indexOfChar_4cfef_31 : xd cJ1_indexOfChar_4cfef 31 (.iconst (-1)) 1 32 := ⟨by decide +kernel, rfl⟩
theorem dJ1_indexOfChar_4cfef_32 : xd cJ1_indexOfChar_4cfef 32 .ireturn 1 33 := ⟨by decide +kernel, rfl⟩

set_option maxRecDepth 100000 in
set_option maxHeartbeats 4000000 in
theorem ct_J1_indexOfChar_4cfef (l : Launch) (g : XG) (c : Nat) : Ct l g 1 0 0 yJ1_indexOfChar_4cfef cJ1_indexOfChar_4cfef 6 (some .int) [.ref ((g.2.2 7)), .int (nI c), .int 0, .int 7] [] (xpi (nxX (sgB c)) []) := by
  refine Ct.ofX (lv := [some (.ref ((g.2.2 7))), some (.int (nI c)), some (.int 0), some (.int 7), none, none]) (by decide) rfl (Nat.le_of_ble_eq_true rfl) (fun κ => ?_)
  generalize hQ : xQ κ g 0 0 _ = Q
  refine x_iload_n dJ1_indexOfChar_4cfef_0 rfl ?_
  refine x_i2b dJ1_indexOfChar_4cfef_1 ?_
  refine x_rei (sgB c) (rfl) ?_
  refine x_istore (lv' := [some (.ref ((g.2.2 7))), some (.int (nI c)), some (.int 0), some (.int 7), some (.int (sgB c)), none]) dJ1_indexOfChar_4cfef_2 (xlt rfl) rfl ?_
  refine x_iload_n dJ1_indexOfChar_4cfef_4 rfl ?_
  refine x_istore (lv' := [some (.ref ((g.2.2 7))), some (.int (nI c)), some (.int 0), some (.int 7), some (.int (sgB c)), some (.int 0)]) dJ1_indexOfChar_4cfef_5 (xlt rfl) rfl ?_
  refine x_iload dJ1_indexOfChar_4cfef_7 rfl ?_
  refine x_iload_n dJ1_indexOfChar_4cfef_9 rfl ?_
  refine x_icmp_ge dJ1_indexOfChar_4cfef_10 (fun c10 => ?_) (fun c10 => ?_)
  · exact absurd c10 (by decide)
  refine x_aload_n dJ1_indexOfChar_4cfef_13 rfl ?_
  refine x_iload dJ1_indexOfChar_4cfef_14 rfl ?_
  refine x_tbld dJ1_indexOfChar_4cfef_16 (N := 7) (f := fun j => ([115, 108, 103, 101, 99, 100, 119] : List Int32).getD j 0) (fun h => (h.1.1 0 (by decide)).2.2.2) 0 (rfl) (by decide) (by decide) ?_
  refine x_rei 115 rfl ?_
  refine x_iload dJ1_indexOfChar_4cfef_17 rfl ?_
  refine x_icmp_ne dJ1_indexOfChar_4cfef_19 (fun c19 => ?_) (fun c19 => ?_)
  · have c19 : ¬ (115 = (sgB c)) := c19
    refine x_iinc (lv' := [some (.ref ((g.2.2 7))), some (.int (nI c)), some (.int 0), some (.int 7), some (.int (sgB c)), some (.int 1)]) (1) dJ1_indexOfChar_4cfef_25 rfl (by decide) rfl ?_
    refine x_goto dJ1_indexOfChar_4cfef_28 ?_
    refine x_iload dJ1_indexOfChar_4cfef_7 rfl ?_
    refine x_iload_n dJ1_indexOfChar_4cfef_9 rfl ?_
    refine x_icmp_ge dJ1_indexOfChar_4cfef_10 (fun c10 => ?_) (fun c10 => ?_)
    · exact absurd c10 (by decide)
    refine x_aload_n dJ1_indexOfChar_4cfef_13 rfl ?_
    refine x_iload dJ1_indexOfChar_4cfef_14 rfl ?_
    refine x_tbld dJ1_indexOfChar_4cfef_16 (N := 7) (f := fun j => ([115, 108, 103, 101, 99, 100, 119] : List Int32).getD j 0) (fun h => (h.1.1 0 (by decide)).2.2.2) 1 (rfl) (by decide) (by decide) ?_
    refine x_rei 108 rfl ?_
    refine x_iload dJ1_indexOfChar_4cfef_17 rfl ?_
    refine x_icmp_ne dJ1_indexOfChar_4cfef_19 (fun c19 => ?_) (fun c19 => ?_)
    · have c19 : ¬ (108 = (sgB c)) := c19
      refine x_iinc (lv' := [some (.ref ((g.2.2 7))), some (.int (nI c)), some (.int 0), some (.int 7), some (.int (sgB c)), some (.int 2)]) (2) dJ1_indexOfChar_4cfef_25 rfl (by decide) rfl ?_
      refine x_goto dJ1_indexOfChar_4cfef_28 ?_
      refine x_iload dJ1_indexOfChar_4cfef_7 rfl ?_
      refine x_iload_n dJ1_indexOfChar_4cfef_9 rfl ?_
      refine x_icmp_ge dJ1_indexOfChar_4cfef_10 (fun c10 => ?_) (fun c10 => ?_)
      · exact absurd c10 (by decide)
      refine x_aload_n dJ1_indexOfChar_4cfef_13 rfl ?_
      refine x_iload dJ1_indexOfChar_4cfef_14 rfl ?_
      refine x_tbld dJ1_indexOfChar_4cfef_16 (N := 7) (f := fun j => ([115, 108, 103, 101, 99, 100, 119] : List Int32).getD j 0) (fun h => (h.1.1 0 (by decide)).2.2.2) 2 (rfl) (by decide) (by decide) ?_
      refine x_rei 103 rfl ?_
      refine x_iload dJ1_indexOfChar_4cfef_17 rfl ?_
      refine x_icmp_ne dJ1_indexOfChar_4cfef_19 (fun c19 => ?_) (fun c19 => ?_)
      · have c19 : ¬ (103 = (sgB c)) := c19
        refine x_iinc (lv' := [some (.ref ((g.2.2 7))), some (.int (nI c)), some (.int 0), some (.int 7), some (.int (sgB c)), some (.int 3)]) (3) dJ1_indexOfChar_4cfef_25 rfl (by decide) rfl ?_
        refine x_goto dJ1_indexOfChar_4cfef_28 ?_
        refine x_iload dJ1_indexOfChar_4cfef_7 rfl ?_
        refine x_iload_n dJ1_indexOfChar_4cfef_9 rfl ?_
        refine x_icmp_ge dJ1_indexOfChar_4cfef_10 (fun c10 => ?_) (fun c10 => ?_)
        · exact absurd c10 (by decide)
        refine x_aload_n dJ1_indexOfChar_4cfef_13 rfl ?_
        refine x_iload dJ1_indexOfChar_4cfef_14 rfl ?_
        refine x_tbld dJ1_indexOfChar_4cfef_16 (N := 7) (f := fun j => ([115, 108, 103, 101, 99, 100, 119] : List Int32).getD j 0) (fun h => (h.1.1 0 (by decide)).2.2.2) 3 (rfl) (by decide) (by decide) ?_
        refine x_rei 101 rfl ?_
        refine x_iload dJ1_indexOfChar_4cfef_17 rfl ?_
        refine x_icmp_ne dJ1_indexOfChar_4cfef_19 (fun c19 => ?_) (fun c19 => ?_)
        · have c19 : ¬ (101 = (sgB c)) := c19
          refine x_iinc (lv' := [some (.ref ((g.2.2 7))), some (.int (nI c)), some (.int 0), some (.int 7), some (.int (sgB c)), some (.int 4)]) (4) dJ1_indexOfChar_4cfef_25 rfl (by decide) rfl ?_
          refine x_goto dJ1_indexOfChar_4cfef_28 ?_
          refine x_iload dJ1_indexOfChar_4cfef_7 rfl ?_
          refine x_iload_n dJ1_indexOfChar_4cfef_9 rfl ?_
          refine x_icmp_ge dJ1_indexOfChar_4cfef_10 (fun c10 => ?_) (fun c10 => ?_)
          · exact absurd c10 (by decide)
          refine x_aload_n dJ1_indexOfChar_4cfef_13 rfl ?_
          refine x_iload dJ1_indexOfChar_4cfef_14 rfl ?_
          refine x_tbld dJ1_indexOfChar_4cfef_16 (N := 7) (f := fun j => ([115, 108, 103, 101, 99, 100, 119] : List Int32).getD j 0) (fun h => (h.1.1 0 (by decide)).2.2.2) 4 (rfl) (by decide) (by decide) ?_
          refine x_rei 99 rfl ?_
          refine x_iload dJ1_indexOfChar_4cfef_17 rfl ?_
          refine x_icmp_ne dJ1_indexOfChar_4cfef_19 (fun c19 => ?_) (fun c19 => ?_)
          · have c19 : ¬ (99 = (sgB c)) := c19
            refine x_iinc (lv' := [some (.ref ((g.2.2 7))), some (.int (nI c)), some (.int 0), some (.int 7), some (.int (sgB c)), some (.int 5)]) (5) dJ1_indexOfChar_4cfef_25 rfl (by decide) rfl ?_
            refine x_goto dJ1_indexOfChar_4cfef_28 ?_
            refine x_iload dJ1_indexOfChar_4cfef_7 rfl ?_
            refine x_iload_n dJ1_indexOfChar_4cfef_9 rfl ?_
            refine x_icmp_ge dJ1_indexOfChar_4cfef_10 (fun c10 => ?_) (fun c10 => ?_)
            · exact absurd c10 (by decide)
            refine x_aload_n dJ1_indexOfChar_4cfef_13 rfl ?_
            refine x_iload dJ1_indexOfChar_4cfef_14 rfl ?_
            refine x_tbld dJ1_indexOfChar_4cfef_16 (N := 7) (f := fun j => ([115, 108, 103, 101, 99, 100, 119] : List Int32).getD j 0) (fun h => (h.1.1 0 (by decide)).2.2.2) 5 (rfl) (by decide) (by decide) ?_
            refine x_rei 100 rfl ?_
            refine x_iload dJ1_indexOfChar_4cfef_17 rfl ?_
            refine x_icmp_ne dJ1_indexOfChar_4cfef_19 (fun c19 => ?_) (fun c19 => ?_)
            · have c19 : ¬ (100 = (sgB c)) := c19
              refine x_iinc (lv' := [some (.ref ((g.2.2 7))), some (.int (nI c)), some (.int 0), some (.int 7), some (.int (sgB c)), some (.int 6)]) (6) dJ1_indexOfChar_4cfef_25 rfl (by decide) rfl ?_
              refine x_goto dJ1_indexOfChar_4cfef_28 ?_
              refine x_iload dJ1_indexOfChar_4cfef_7 rfl ?_
              refine x_iload_n dJ1_indexOfChar_4cfef_9 rfl ?_
              refine x_icmp_ge dJ1_indexOfChar_4cfef_10 (fun c10 => ?_) (fun c10 => ?_)
              · exact absurd c10 (by decide)
              refine x_aload_n dJ1_indexOfChar_4cfef_13 rfl ?_
              refine x_iload dJ1_indexOfChar_4cfef_14 rfl ?_
              refine x_tbld dJ1_indexOfChar_4cfef_16 (N := 7) (f := fun j => ([115, 108, 103, 101, 99, 100, 119] : List Int32).getD j 0) (fun h => (h.1.1 0 (by decide)).2.2.2) 6 (rfl) (by decide) (by decide) ?_
              refine x_rei 119 rfl ?_
              refine x_iload dJ1_indexOfChar_4cfef_17 rfl ?_
              refine x_icmp_ne dJ1_indexOfChar_4cfef_19 (fun c19 => ?_) (fun c19 => ?_)
              · have c19 : ¬ (119 = (sgB c)) := c19
                refine x_iinc (lv' := [some (.ref ((g.2.2 7))), some (.int (nI c)), some (.int 0), some (.int 7), some (.int (sgB c)), some (.int 7)]) (7) dJ1_indexOfChar_4cfef_25 rfl (by decide) rfl ?_
                refine x_goto dJ1_indexOfChar_4cfef_28 ?_
                refine x_iload dJ1_indexOfChar_4cfef_7 rfl ?_
                refine x_iload_n dJ1_indexOfChar_4cfef_9 rfl ?_
                refine x_icmp_ge dJ1_indexOfChar_4cfef_10 (fun c10 => ?_) (fun c10 => ?_)
                rotate_left
                · exact absurd c10 (by decide)
                refine x_iconst (-1) dJ1_indexOfChar_4cfef_31 (by decide) ?_
                rw [← hQ]
                refine x_iret dJ1_indexOfChar_4cfef_32 rfl (Nat.le_of_ble_eq_true rfl) (Nat.le_of_ble_eq_true rfl) ?_
                exact ⟨by simp [nxX, *], rfl⟩
              · have c19 : 119 = (sgB c) := c19
                refine x_iload dJ1_indexOfChar_4cfef_22 rfl ?_
                rw [← hQ]
                refine x_iret dJ1_indexOfChar_4cfef_24 rfl (Nat.le_of_ble_eq_true rfl) (Nat.le_of_ble_eq_true rfl) ?_
                exact ⟨by simp [nxX, *], rfl⟩
            · have c19 : 100 = (sgB c) := c19
              refine x_iload dJ1_indexOfChar_4cfef_22 rfl ?_
              rw [← hQ]
              refine x_iret dJ1_indexOfChar_4cfef_24 rfl (Nat.le_of_ble_eq_true rfl) (Nat.le_of_ble_eq_true rfl) ?_
              exact ⟨by simp [nxX, *], rfl⟩
          · have c19 : 99 = (sgB c) := c19
            refine x_iload dJ1_indexOfChar_4cfef_22 rfl ?_
            rw [← hQ]
            refine x_iret dJ1_indexOfChar_4cfef_24 rfl (Nat.le_of_ble_eq_true rfl) (Nat.le_of_ble_eq_true rfl) ?_
            exact ⟨by simp [nxX, *], rfl⟩
        · have c19 : 101 = (sgB c) := c19
          refine x_iload dJ1_indexOfChar_4cfef_22 rfl ?_
          rw [← hQ]
          refine x_iret dJ1_indexOfChar_4cfef_24 rfl (Nat.le_of_ble_eq_true rfl) (Nat.le_of_ble_eq_true rfl) ?_
          exact ⟨by simp [nxX, *], rfl⟩
      · have c19 : 103 = (sgB c) := c19
        refine x_iload dJ1_indexOfChar_4cfef_22 rfl ?_
        rw [← hQ]
        refine x_iret dJ1_indexOfChar_4cfef_24 rfl (Nat.le_of_ble_eq_true rfl) (Nat.le_of_ble_eq_true rfl) ?_
        exact ⟨by simp [nxX, *], rfl⟩
    · have c19 : 108 = (sgB c) := c19
      refine x_iload dJ1_indexOfChar_4cfef_22 rfl ?_
      rw [← hQ]
      refine x_iret dJ1_indexOfChar_4cfef_24 rfl (Nat.le_of_ble_eq_true rfl) (Nat.le_of_ble_eq_true rfl) ?_
      exact ⟨by simp [nxX, *], rfl⟩
  · have c19 : 115 = (sgB c) := c19
    refine x_iload dJ1_indexOfChar_4cfef_22 rfl ?_
    rw [← hQ]
    refine x_iret dJ1_indexOfChar_4cfef_24 rfl (Nat.le_of_ble_eq_true rfl) (Nat.le_of_ble_eq_true rfl) ?_
    exact ⟨by simp [nxX, *], rfl⟩

-- == J1_indexOf_4cfef ==
theorem dJ1_indexOf_4cfef_0 : xd cJ1_indexOf_4cfef 0 (.iload_n 1) 1 1 := ⟨by decide +kernel, rfl⟩
theorem dJ1_indexOf_4cfef_1 : xd cJ1_indexOf_4cfef 1 (.invokestatic 88) 3 4 := ⟨by decide +kernel, rfl⟩
theorem dJ1_indexOf_4cfef_4 : xj cJ1_indexOf_4cfef 4 (.ifCond .ne) 7 9 := ⟨5, by decide +kernel, rfl, by decide⟩
theorem dJ1_indexOf_4cfef_7 : xd cJ1_indexOf_4cfef 7 (.iconst (-1)) 1 8 := ⟨by decide +kernel, rfl⟩
theorem dJ1_indexOf_4cfef_8 : xd cJ1_indexOf_4cfef 8 .ireturn 1 9 := ⟨by decide +kernel, rfl⟩
theorem dJ1_indexOf_4cfef_9 : xd cJ1_indexOf_4cfef 9 (.iload_n 2) 1 10 := ⟨by decide +kernel, rfl⟩
theorem dJ1_indexOf_4cfef_10 : xd cJ1_indexOf_4cfef 10 (.iconst 0) 1 11 := ⟨by decide +kernel, rfl⟩
theorem dJ1_indexOf_4cfef_11 : xd cJ1_indexOf_4cfef 11 (.invokestatic 92) 3 14 := ⟨by decide +kernel, rfl⟩
theorem dJ1_indexOf_4cfef_14 : xd cJ1_indexOf_4cfef 14 (.istore_n 2) 1 15 := ⟨by decide +kernel, rfl⟩
theorem dJ1_indexOf_4cfef_15 : xd cJ1_indexOf_4cfef 15 (.iload_n 3) 1 16 := ⟨by decide +kernel, rfl⟩
theorem dJ1_indexOf_4cfef_16 : xd cJ1_indexOf_4cfef 16 (.aload_n 0) 1 17 := ⟨by decide +kernel, rfl⟩
theorem dJ1_indexOf_4cfef_17 : xd cJ1_indexOf_4cfef 17 .arraylength 1 18 := ⟨by decide +kernel, rfl⟩
theorem dJ1_indexOf_4cfef_18 : xd cJ1_indexOf_4cfef 18 (.invokestatic 38) 3 21 := ⟨by decide +kernel, rfl⟩
theorem dJ1_indexOf_4cfef_21 : xd cJ1_indexOf_4cfef 21 (.istore_n 3) 1 22 := ⟨by decide +kernel, rfl⟩
theorem dJ1_indexOf_4cfef_22 : xd cJ1_indexOf_4cfef 22 (.iload_n 2) 1 23 := ⟨by decide +kernel, rfl⟩
theorem dJ1_indexOf_4cfef_23 : xd cJ1_indexOf_4cfef 23 (.iload_n 3) 1 24 := ⟨by decide +kernel, rfl⟩
theorem dJ1_indexOf_4cfef_24 : xj cJ1_indexOf_4cfef 24 (.if_icmp .lt) 27 29 := ⟨5, by decide +kernel, rfl, by decide⟩
theorem dJ1_indexOf_4cfef_27 : xd cJ1_indexOf_4cfef 27 (.iconst (-1)) 1 28 := ⟨by decide +kernel, rfl⟩
theorem dJ1_indexOf_4cfef_28 : xd cJ1_indexOf_4cfef 28 .ireturn 1 29 := ⟨by decide +kernel, rfl⟩
theorem dJ1_indexOf_4cfef_29 : xd cJ1_indexOf_4cfef 29 (.aload_n 0) 1 30 := ⟨by decide +kernel, rfl⟩
theorem dJ1_indexOf_4cfef_30 : xd cJ1_indexOf_4cfef 30 (.iload_n 1) 1 31 := ⟨by decide +kernel, rfl⟩
theorem dJ1_indexOf_4cfef_31 : xd cJ1_indexOf_4cfef 31 (.iload_n 2) 1 32 := ⟨by decide +kernel, rfl⟩
theorem dJ1_indexOf_4cfef_32 : xd cJ1_indexOf_4cfef 32 (.iload_n 3) 1 33 := ⟨by decide +kernel, rfl⟩
theorem dJ1_indexOf_4cfef_33 : xd cJ1_indexOf_4cfef 33 (.invokestatic 95) 3 36 := ⟨by decide +kernel, rfl⟩
theorem dJ1_indexOf_4cfef_36 : xd cJ1_indexOf_4cfef 36 .ireturn 1 37 := ⟨by decide +kernel, rfl⟩

set_option maxRecDepth 100000 in
set_option maxHeartbeats 4000000 in
theorem ct_J1_indexOf_4cfef (l : Launch) (g : XG) (c : Nat) (hc : c < 256) : Ct l g 2 0 0 yJ1_indexOf_4cfef cJ1_indexOf_4cfef 4 (some .int) [.ref ((g.2.2 7)), .int (nI c), .int 0, .int 7] [] (xpi (nxX (sgB c)) []) := by
  refine Ct.ofX (lv := [some (.ref ((g.2.2 7))), some (.int (nI c)), some (.int 0), some (.int 7)]) (by decide) rfl (Nat.le_of_ble_eq_true rfl) (fun κ => ?_)
  generalize hQ : xQ κ g 0 0 _ = Q
  refine x_iload_n dJ1_indexOf_4cfef_0 rfl ?_
  refine x_cSi dJ1_indexOf_4cfef_1 ml_J1_88 mJ1_canEncode_9a6ad (ct_J1_canEncode_9a6ad κ.2.1 g c (hc)) rfl (Nat.le_of_ble_eq_true rfl) (by decide) (Nat.le_refl _) (Nat.le_refl _) ?_
  refine x_if_ne dJ1_indexOf_4cfef_4 (fun c4 => ?_) (fun c4 => ?_)
  rotate_left
  · exact absurd c4 (by decide)
  refine x_iload_n dJ1_indexOf_4cfef_9 rfl ?_
  refine x_iconst 0 dJ1_indexOf_4cfef_10 (by decide) ?_
  refine x_mmax dJ1_indexOf_4cfef_11 ml_J1_92 (Nat.le_of_ble_eq_true rfl) (by decide) (Nat.le_refl _) (Nat.le_refl _) ?_
  refine x_rei (0) (by decide) ?_
  refine x_istore_n (lv' := [some (.ref ((g.2.2 7))), some (.int (nI c)), some (.int 0), some (.int 7)]) dJ1_indexOf_4cfef_14 (xlt rfl) rfl ?_
  refine x_iload_n dJ1_indexOf_4cfef_15 rfl ?_
  refine x_aload_n dJ1_indexOf_4cfef_16 rfl ?_
  refine x_tlen (t := g.2.2 7) (N := 7) 7 dJ1_indexOf_4cfef_17 (fun h => (h.1.1 0 (by decide)).2.2.2) rfl ?_
  refine x_mmin dJ1_indexOf_4cfef_18 ml_J1_38 (Nat.le_of_ble_eq_true rfl) (by decide) (Nat.le_refl _) (Nat.le_refl _) ?_
  refine x_rei (7) (by decide) ?_
  refine x_istore_n (lv' := [some (.ref ((g.2.2 7))), some (.int (nI c)), some (.int 0), some (.int 7)]) dJ1_indexOf_4cfef_21 (xlt rfl) rfl ?_
  refine x_iload_n dJ1_indexOf_4cfef_22 rfl ?_
  refine x_iload_n dJ1_indexOf_4cfef_23 rfl ?_
  refine x_icmp_lt dJ1_indexOf_4cfef_24 (fun c24 => ?_) (fun c24 => ?_)
  rotate_left
  · exact absurd c24 (by decide)
  refine x_aload_n dJ1_indexOf_4cfef_29 rfl ?_
  refine x_iload_n dJ1_indexOf_4cfef_30 rfl ?_
  refine x_iload_n dJ1_indexOf_4cfef_31 rfl ?_
  refine x_iload_n dJ1_indexOf_4cfef_32 rfl ?_
  refine x_cSi dJ1_indexOf_4cfef_33 ml_J1_95 mJ1_indexOfChar_4cfef (ct_J1_indexOfChar_4cfef κ.2.1 g c) rfl (Nat.le_of_ble_eq_true rfl) (by decide) (Nat.le_refl _) (Nat.le_refl _) ?_
  rw [← hQ]
  refine x_iret dJ1_indexOf_4cfef_36 rfl (Nat.le_of_ble_eq_true rfl) (Nat.le_of_ble_eq_true rfl) ?_
  exact ⟨rfl, rfl⟩

-- == J0_indexOf_7cf53 ==
theorem dJ0_indexOf_7cf53_0 : xd cJ0_indexOf_7cf53 0 (.aload_n 0) 1 1 := ⟨by decide +kernel, rfl⟩
theorem dJ0_indexOf_7cf53_1 : xd cJ0_indexOf_7cf53 1 (.invokevirtual 492) 3 4 := ⟨by decide +kernel, rfl⟩
theorem dJ0_indexOf_7cf53_4 : xj cJ0_indexOf_7cf53 4 (.ifCond .eq) 7 23 := ⟨19, by decide +kernel, rfl, by decide⟩
theorem dJ0_indexOf_7cf53_7 : xd cJ0_indexOf_7cf53 7 (.aload_n 0) 1 8 := ⟨by decide +kernel, rfl⟩
theorem dJ0_indexOf_7cf53_8 : xd cJ0_indexOf_7cf53 8 (.getfield 9) 3 11 := ⟨by decide +kernel, rfl⟩
theorem dJ0_indexOf_7cf53_11 : xd cJ0_indexOf_7cf53 11 (.iload_n 1) 1 12 := ⟨by decide +kernel, rfl⟩
theorem dJ0_indexOf_7cf53_12 : xd cJ0_indexOf_7cf53 12 (.iload_n 2) 1 13 := ⟨by decide +kernel, rfl⟩
theorem dJ0_indexOf_7cf53_13 : xd cJ0_indexOf_7cf53 13 (.aload_n 0) 1 14 := ⟨by decide +kernel, rfl⟩
theorem dJ0_indexOf_7cf53_14 : xd cJ0_indexOf_7cf53 14 (.invokevirtual 505) 3 17 := ⟨by decide +kernel, rfl⟩
theorem dJ0_indexOf_7cf53_17 : xd cJ0_indexOf_7cf53 17 (.invokestatic 637) 3 20 := ⟨by decide +kernel, rfl⟩
theorem dJ0_indexOf_7cf53_20 : xj cJ0_indexOf_7cf53 20 .goto 23 36 := ⟨16, by decide +kernel, rfl, by decide⟩
theorem dJ0_indexOf_7cf53_23 : xd cJ0_indexOf_7cf53 23 (.aload_n 0) 1 24 := ⟨by decide +kernel, rfl⟩
theorem dJ0_indexOf_7cf53_24 : xd cJ0_indexOf_7cf53 24 (.getfield 9) 3 27 := ⟨by decide +kernel, rfl⟩
theorem dJ0_indexOf_7cf53_27 : xd cJ0_indexOf_7cf53 27 (.iload_n 1) 1 28 := ⟨by decide +kernel, rfl⟩
theorem dJ0_indexOf_7cf53_28 : xd cJ0_indexOf_7cf53 28 (.iload_n 2) 1 29 := ⟨by decide +kernel, rfl⟩
theorem dJ0_indexOf_7cf53_29 : xd cJ0_indexOf_7cf53 29 (.aload_n 0) 1 30 := ⟨by decide +kernel, rfl⟩
theorem dJ0_indexOf_7cf53_30 : xd cJ0_indexOf_7cf53 30 (.invokevirtual 505) 3 33 := ⟨by decide +kernel, rfl⟩
theorem dJ0_indexOf_7cf53_33 : xd cJ0_indexOf_7cf53 33 (.invokestatic 640) 3 36 := ⟨by decide +kernel, rfl⟩
theorem dJ0_indexOf_7cf53_36 : xd cJ0_indexOf_7cf53 36 .ireturn 1 37 := ⟨by decide +kernel, rfl⟩

set_option maxRecDepth 100000 in
set_option maxHeartbeats 4000000 in
theorem ct_J0_indexOf_7cf53 (l : Launch) (g : XG) (c : Nat) (hc : c < 256) : Ct l g 4 0 0 yJ0_indexOf_7cf53 cJ0_indexOf_7cf53 3 (some .int) [.ref ((g.2.2 6)), .int (nI c), .int 0] [] (xpi (nxX (sgB c)) []) := by
  refine Ct.ofX (lv := [some (.ref ((g.2.2 6))), some (.int (nI c)), some (.int 0)]) (by decide) rfl (Nat.le_of_ble_eq_true rfl) (fun κ => ?_)
  generalize hQ : xQ κ g 0 0 _ = Q
  refine x_aload_n dJ0_indexOf_7cf53_0 rfl ?_
  refine x_cVSi dJ0_indexOf_7cf53_1 ml_J0_492 mJ0_isLatin1_aae02 rfl (ct_J0_isLatin1_aae02 κ.2.1 g ) rfl (Nat.le_of_ble_eq_true rfl) (by decide) (Nat.le_refl _) (Nat.le_refl _) ?_
  refine x_if_eq dJ0_indexOf_7cf53_4 (fun c4 => ?_) (fun c4 => ?_)
  · exact absurd c4 (by decide)
  refine x_aload_n dJ0_indexOf_7cf53_7 rfl ?_
  refine x_getOF dJ0_indexOf_7cf53_8 (v := .ref ((g.2.2 7))) (fun h => (h.1.1 0 (by decide)).2.2.1) fl_J0_9 ?_
  refine x_iload_n dJ0_indexOf_7cf53_11 rfl ?_
  refine x_iload_n dJ0_indexOf_7cf53_12 rfl ?_
  refine x_aload_n dJ0_indexOf_7cf53_13 rfl ?_
  refine x_cVSi dJ0_indexOf_7cf53_14 ml_J0_505 mJ0_length_8abf5 rfl (ct_J0_length_8abf5 κ.2.1 g ) rfl (Nat.le_of_ble_eq_true rfl) (by decide) (Nat.le_refl _) (Nat.le_refl _) ?_
  refine x_cSi dJ0_indexOf_7cf53_17 ml_J0_637 mJ1_indexOf_4cfef (ct_J1_indexOf_4cfef κ.2.1 g c (hc)) rfl (Nat.le_of_ble_eq_true rfl) (by decide) (Nat.le_refl _) (Nat.le_refl _) ?_
  refine x_goto dJ0_indexOf_7cf53_20 ?_
  rw [← hQ]
  refine x_iret dJ0_indexOf_7cf53_36 rfl (Nat.le_of_ble_eq_true rfl) (Nat.le_of_ble_eq_true rfl) ?_
  exact ⟨rfl, rfl⟩

-- == J0_indexOf_0f7a4 ==
theorem dJ0_indexOf_0f7a4_0 : xd cJ0_indexOf_0f7a4 0 (.aload_n 0) 1 1 := ⟨by decide +kernel, rfl⟩
theorem dJ0_indexOf_0f7a4_1 : xd cJ0_indexOf_0f7a4 1 (.iload_n 1) 1 2 := ⟨by decide +kernel, rfl⟩
theorem dJ0_indexOf_0f7a4_2 : xd cJ0_indexOf_0f7a4 2 (.iconst 0) 1 3 := ⟨by decide +kernel, rfl⟩
theorem dJ0_indexOf_0f7a4_3 : xd cJ0_indexOf_0f7a4 3 (.invokevirtual 633) 3 6 := ⟨by decide +kernel, rfl⟩
theorem dJ0_indexOf_0f7a4_6 : xd cJ0_indexOf_0f7a4 6 .ireturn 1 7 := ⟨by decide +kernel, rfl⟩

set_option maxRecDepth 100000 in
set_option maxHeartbeats 4000000 in
theorem ct_J0_indexOf_0f7a4 (l : Launch) (g : XG) (c : Nat) (hc : c < 256) : Ct l g 5 0 0 yJ0_indexOf_0f7a4 cJ0_indexOf_0f7a4 2 (some .int) [.ref ((g.2.2 6)), .int (nI c)] [] (xpi (nxX (sgB c)) []) := by
  refine Ct.ofX (lv := [some (.ref ((g.2.2 6))), some (.int (nI c))]) (by decide) rfl (Nat.le_of_ble_eq_true rfl) (fun κ => ?_)
  generalize hQ : xQ κ g 0 0 _ = Q
  refine x_aload_n dJ0_indexOf_0f7a4_0 rfl ?_
  refine x_iload_n dJ0_indexOf_0f7a4_1 rfl ?_
  refine x_iconst 0 dJ0_indexOf_0f7a4_2 (by decide) ?_
  refine x_cVSi dJ0_indexOf_0f7a4_3 ml_J0_633 mJ0_indexOf_7cf53 rfl (ct_J0_indexOf_7cf53 κ.2.1 g c (hc)) rfl (Nat.le_of_ble_eq_true rfl) (by decide) (Nat.le_refl _) (Nat.le_refl _) ?_
  rw [← hQ]
  refine x_iret dJ0_indexOf_0f7a4_6 rfl (Nat.le_of_ble_eq_true rfl) (Nat.le_of_ble_eq_true rfl) ?_
  exact ⟨rfl, rfl⟩

-- == X1_sees ==
theorem dX1_sees_0 : xd cX1_sees 0 (.aload_n 0) 1 1 := ⟨by decide +kernel, rfl⟩
theorem dX1_sees_1 : xd cX1_sees 1 (.getfield 41) 3 4 := ⟨by decide +kernel, rfl⟩
theorem dX1_sees_4 : xd cX1_sees 4 (.aload_n 0) 1 5 := ⟨by decide +kernel, rfl⟩
theorem dX1_sees_5 : xd cX1_sees 5 (.getfield 28) 3 8 := ⟨by decide +kernel, rfl⟩
theorem dX1_sees_8 : xj cX1_sees 8 (.if_icmp .ge) 11 28 := ⟨20, by decide +kernel, rfl, by decide⟩
theorem dX1_sees_11 : xd cX1_sees 11 (.aload_n 0) 1 12 := ⟨by decide +kernel, rfl⟩
theorem dX1_sees_12 : xd cX1_sees 12 (.getfield 9) 3 15 := ⟨by decide +kernel, rfl⟩
theorem dX1_sees_15 : xd cX1_sees 15 (.aload_n 0) 1 16 := ⟨by decide +kernel, rfl⟩
theorem dX1_sees_16 : xd cX1_sees 16 (.getfield 41) 3 19 := ⟨by decide +kernel, rfl⟩
theorem dX1_sees_19 : xd cX1_sees 19 .baload 1 20 := ⟨by decide +kernel, rfl⟩
theorem dX1_sees_20 : xd cX1_sees 20 (.iload_n 1) 1 21 := ⟨by decide +kernel, rfl⟩
theorem dX1_sees_21 : xj cX1_sees 21 (.if_icmp .ne) 24 28 := ⟨7, by decide +kernel, rfl, by decide⟩
theorem dX1_sees_24 : xd cX1_sees 24 (.iconst 1) 1 25 := ⟨by decide +kernel, rfl⟩
theorem dX1_sees_25 : xj cX1_sees 25 .goto 28 29 := ⟨4, by decide +kernel, rfl, by decide⟩
theorem dX1_sees_28 : xd cX1_sees 28 (.iconst 0) 1 29 := ⟨by decide +kernel, rfl⟩
theorem dX1_sees_29 : xd cX1_sees 29 .ireturn 1 30 := ⟨by decide +kernel, rfl⟩

set_option maxRecDepth 100000 in
set_option maxHeartbeats 4000000 in
theorem ct_X1_sees (l : Launch) (g : XG) (aR aRt aRc n a cs : Nat) (b : Nat → Nat) (ft : Int32) (c : Nat) (ha : a ≤ n) (hn : n ≤ 60) (hb : ∀ j, b j < 256) (hc : c < 128) : Ct l g 1 0 0 yX1_sees cX1_sees 2 (some .boolean) [.ref aR, .int (nI c)] [(aR, .inr (1, [.ref aRt, .ref aRc, .int (nI n), .int (nI cs), .int (nI a), .int ft])), (aRt, .inl (g.2.1 1, 60, .inl (fun j => sgB (b j))))] (xpi (seesI b n a c) [(aR, .inr (1, [.ref aRt, .ref aRc, .int (nI n), .int (nI cs), .int (nI a), .int ft])), (aRt, .inl (g.2.1 1, 60, .inl (fun j => sgB (b j))))]) := by
  refine Ct.ofX (lv := [some (.ref aR), some (.int (nI c))]) (by decide) rfl (Nat.le_of_ble_eq_true rfl) (fun κ => ?_)
  generalize hQ : xQ κ g 0 0 _ = Q
  refine x_aload_n dX1_sees_0 rfl ?_
  refine x_get dX1_sees_1 0 4 inX1 fl_X1_41 rfl rfl (by decide) rfl ?_
  refine x_aload_n dX1_sees_4 rfl ?_
  refine x_get dX1_sees_5 0 2 inX1 fl_X1_28 rfl rfl (by decide) rfl ?_
  have J8_4 : ∀ (v3 : Int32), v3 = (if (nI n) ≤ (nI a) then 0 else ((if (sgB (b a)) = (nI c) then 1 else 0))) → Xs κ g 1 0 0 cX1_sees yX1_sees (some .boolean) Q 0 0 29 [some (.ref aR), some (.int (nI c))] [.int v3] [(aR, .inr (1, [.ref aRt, .ref aRc, .int (nI n), .int (nI cs), .int (nI a), .int ft])), (aRt, .inl (g.2.1 1, 60, .inl (fun j => sgB (b j))))] := by
    intro v3 ev3
    rw [← hQ]
    refine x_zret dX1_sees_29 rfl (by simp only [ev3, sees_eq ha hn hb hc]; exact z01 (seesI01 b n a c)) (Nat.le_of_ble_eq_true rfl) (Nat.le_of_ble_eq_true rfl) ?_
    exact ⟨by simp only [ev3, sees_eq ha hn hb hc], rfl⟩
  refine x_icmp_ge dX1_sees_8 (fun c8 => ?_) (fun c8 => ?_)
  · have c8 : (nI n) ≤ (nI a) := c8
    have c8n := (nI_leI (a := n) (b := a) (by omega) (by omega)).mp c8
    refine x_iconst 0 dX1_sees_28 (by decide) ?_
    exact J8_4 _ (if_pos c8).symm
  · have c8 : ¬ ((nI n) ≤ (nI a)) := c8
    have c8n := mt (nI_leI (a := n) (b := a) (by omega) (by omega)).mpr c8
    refine x_aload_n dX1_sees_11 rfl ?_
    refine x_get dX1_sees_12 0 0 inX1 fl_X1_9 rfl rfl (by decide) rfl ?_
    refine x_aload_n dX1_sees_15 rfl ?_
    refine x_get dX1_sees_16 0 4 inX1 fl_X1_41 rfl rfl (by decide) rfl ?_
    refine x_bald dX1_sees_19 1 a rfl (rfl) (by omega) (by decide) ?_
    refine x_iload_n dX1_sees_20 rfl ?_
    have J21_6 : ∀ (v5 : Int32), v5 = (if (sgB (b a)) = (nI c) then 1 else 0) → Xs κ g 1 0 0 cX1_sees yX1_sees (some .boolean) Q 0 0 29 [some (.ref aR), some (.int (nI c))] [.int v5] [(aR, .inr (1, [.ref aRt, .ref aRc, .int (nI n), .int (nI cs), .int (nI a), .int ft])), (aRt, .inl (g.2.1 1, 60, .inl (fun j => sgB (b j))))] := by
      intro v5 ev5
      exact J8_4 _ (by rw [if_neg c8]; try simp only [ev5])
    refine x_icmp_ne dX1_sees_21 (fun c21 => ?_) (fun c21 => ?_)
    · have c21 : ¬ ((sgB (b a)) = (nI c)) := c21
      refine x_iconst 0 dX1_sees_28 (by decide) ?_
      exact J21_6 _ (if_neg c21).symm
    · have c21 : (sgB (b a)) = (nI c) := c21
      refine x_iconst 1 dX1_sees_24 (by decide) ?_
      refine x_goto dX1_sees_25 ?_
      exact J21_6 _ (if_pos c21).symm

-- == X1_digit ==
theorem dX1_digit_0 : xd cX1_digit 0 (.aload_n 0) 1 1 := ⟨by decide +kernel, rfl⟩
theorem dX1_digit_1 : xd cX1_digit 1 (.getfield 41) 3 4 := ⟨by decide +kernel, rfl⟩
theorem dX1_digit_4 : xd cX1_digit 4 (.aload_n 0) 1 5 := ⟨by decide +kernel, rfl⟩
theorem dX1_digit_5 : xd cX1_digit 5 (.getfield 28) 3 8 := ⟨by decide +kernel, rfl⟩
theorem dX1_digit_8 : xj cX1_digit 8 (.if_icmp .ge) 11 54 := ⟨46, by decide +kernel, rfl, by decide⟩
theorem dX1_digit_11 : xd cX1_digit 11 (.aload_n 0) 1 12 := ⟨by decide +kernel, rfl⟩
theorem dX1_digit_12 : xd cX1_digit 12 (.getfield 9) 3 15 := ⟨by decide +kernel, rfl⟩
theorem dX1_digit_15 : xd cX1_digit 15 (.aload_n 0) 1 16 := ⟨by decide +kernel, rfl⟩
theorem dX1_digit_16 : xd cX1_digit 16 (.getfield 41) 3 19 := ⟨by decide +kernel, rfl⟩
theorem dX1_digit_19 : xd cX1_digit 19 .baload 1 20 := ⟨by decide +kernel, rfl⟩
theorem dX1_digit_20 : xd cX1_digit 20 (.bipush 48) 2 22 := ⟨by decide +kernel, rfl⟩
theorem dX1_digit_22 : xj cX1_digit 22 (.if_icmp .lt) 25 54 := ⟨32, by decide +kernel, rfl, by decide⟩
theorem dX1_digit_25 : xd cX1_digit 25 (.aload_n 0) 1 26 := ⟨by decide +kernel, rfl⟩
theorem dX1_digit_26 : xd cX1_digit 26 (.getfield 9) 3 29 := ⟨by decide +kernel, rfl⟩
theorem dX1_digit_29 : xd cX1_digit 29 (.aload_n 0) 1 30 := ⟨by decide +kernel, rfl⟩
theorem dX1_digit_30 : xd cX1_digit 30 (.getfield 41) 3 33 := ⟨by decide +kernel, rfl⟩
theorem dX1_digit_33 : xd cX1_digit 33 .baload 1 34 := ⟨by decide +kernel, rfl⟩
theorem dX1_digit_34 : xd cX1_digit 34 (.bipush 57) 2 36 := ⟨by decide +kernel, rfl⟩
theorem dX1_digit_36 : xj cX1_digit 36 (.if_icmp .gt) 39 54 := ⟨18, by decide +kernel, rfl, by decide⟩
theorem dX1_digit_39 : xd cX1_digit 39 (.aload_n 0) 1 40 := ⟨by decide +kernel, rfl⟩
theorem dX1_digit_40 : xd cX1_digit 40 (.getfield 9) 3 43 := ⟨by decide +kernel, rfl⟩
theorem dX1_digit_43 : xd cX1_digit 43 (.aload_n 0) 1 44 := ⟨by decide +kernel, rfl⟩
theorem dX1_digit_44 : xd cX1_digit 44 (.getfield 41) 3 47 := ⟨by decide +kernel, rfl⟩
theorem dX1_digit_47 : xd cX1_digit 47 .baload 1 48 := ⟨by decide +kernel, rfl⟩
theorem dX1_digit_48 : xd cX1_digit 48 (.bipush 48) 2 50 := ⟨by decide +kernel, rfl⟩
theorem dX1_digit_50 : xd cX1_digit 50 .isub 1 51 := ⟨by decide +kernel, rfl⟩
theorem dX1_digit_51 : xj cX1_digit 51 .goto 54 55 := ⟨4, by decide +kernel, rfl, by decide⟩
theorem dX1_digit_54 : xd cX1_digit 54 (.iconst (-1)) 1 55 := ⟨by decide +kernel, rfl⟩
theorem dX1_digit_55 : xd cX1_digit 55 .ireturn 1 56 := ⟨by decide +kernel, rfl⟩

set_option maxRecDepth 100000 in
set_option maxHeartbeats 4000000 in
theorem ct_X1_digit (l : Launch) (g : XG) (aR aRt aRc n a cs : Nat) (b : Nat → Nat) (ft : Int32) (ha : a ≤ n) (hn : n ≤ 60) (hb : ∀ j, b j < 256) : Ct l g 1 0 0 yX1_digit cX1_digit 1 (some .int) [.ref aR] [(aR, .inr (1, [.ref aRt, .ref aRc, .int (nI n), .int (nI cs), .int (nI a), .int ft])), (aRt, .inl (g.2.1 1, 60, .inl (fun j => sgB (b j))))] (xpi (digI b n a) [(aR, .inr (1, [.ref aRt, .ref aRc, .int (nI n), .int (nI cs), .int (nI a), .int ft])), (aRt, .inl (g.2.1 1, 60, .inl (fun j => sgB (b j))))]) := by
  refine Ct.ofX (lv := [some (.ref aR)]) (by decide) rfl (Nat.le_of_ble_eq_true rfl) (fun κ => ?_)
  generalize hQ : xQ κ g 0 0 _ = Q
  refine x_aload_n dX1_digit_0 rfl ?_
  refine x_get dX1_digit_1 0 4 inX1 fl_X1_41 rfl rfl (by decide) rfl ?_
  refine x_aload_n dX1_digit_4 rfl ?_
  refine x_get dX1_digit_5 0 2 inX1 fl_X1_28 rfl rfl (by decide) rfl ?_
  have J8_8 : ∀ (v7 : Int32), v7 = (if (nI n) ≤ (nI a) then (-1) else ((if (sgB (b a)) < 48 then (-1) else ((if 57 < (sgB (b a)) then (-1) else (sgB (b a)) - 48))))) → Xs κ g 1 0 0 cX1_digit yX1_digit (some .int) Q 0 0 55 [some (.ref aR)] [.int v7] [(aR, .inr (1, [.ref aRt, .ref aRc, .int (nI n), .int (nI cs), .int (nI a), .int ft])), (aRt, .inl (g.2.1 1, 60, .inl (fun j => sgB (b j))))] := by
    intro v7 ev7
    rw [← hQ]
    refine x_iret dX1_digit_55 rfl (Nat.le_of_ble_eq_true rfl) (Nat.le_of_ble_eq_true rfl) ?_
    exact ⟨by simp only [ev7, dg_eq ha hn hb], rfl⟩
  refine x_icmp_ge dX1_digit_8 (fun c8 => ?_) (fun c8 => ?_)
  · have c8 : (nI n) ≤ (nI a) := c8
    have c8n := (nI_leI (a := n) (b := a) (by omega) (by omega)).mp c8
    refine x_iconst (-1) dX1_digit_54 (by decide) ?_
    exact J8_8 _ (if_pos c8).symm
  · have c8 : ¬ ((nI n) ≤ (nI a)) := c8
    have c8n := mt (nI_leI (a := n) (b := a) (by omega) (by omega)).mpr c8
    refine x_aload_n dX1_digit_11 rfl ?_
    refine x_get dX1_digit_12 0 0 inX1 fl_X1_9 rfl rfl (by decide) rfl ?_
    refine x_aload_n dX1_digit_15 rfl ?_
    refine x_get dX1_digit_16 0 4 inX1 fl_X1_41 rfl rfl (by decide) rfl ?_
    refine x_bald dX1_digit_19 1 a rfl (rfl) (by omega) (by decide) ?_
    refine x_bipush 48 dX1_digit_20 (by decide) ?_
    have J22_12 : ∀ (v11 : Int32), v11 = (if (sgB (b a)) < 48 then (-1) else ((if 57 < (sgB (b a)) then (-1) else (sgB (b a)) - 48))) → Xs κ g 1 0 0 cX1_digit yX1_digit (some .int) Q 0 0 55 [some (.ref aR)] [.int v11] [(aR, .inr (1, [.ref aRt, .ref aRc, .int (nI n), .int (nI cs), .int (nI a), .int ft])), (aRt, .inl (g.2.1 1, 60, .inl (fun j => sgB (b j))))] := by
      intro v11 ev11
      exact J8_8 _ (by rw [if_neg c8]; try simp only [ev11])
    refine x_icmp_lt dX1_digit_22 (fun c22 => ?_) (fun c22 => ?_)
    · have c22 : (sgB (b a)) < 48 := c22
      refine x_iconst (-1) dX1_digit_54 (by decide) ?_
      exact J22_12 _ (if_pos c22).symm
    · have c22 : ¬ ((sgB (b a)) < 48) := c22
      refine x_aload_n dX1_digit_25 rfl ?_
      refine x_get dX1_digit_26 0 0 inX1 fl_X1_9 rfl rfl (by decide) rfl ?_
      refine x_aload_n dX1_digit_29 rfl ?_
      refine x_get dX1_digit_30 0 4 inX1 fl_X1_41 rfl rfl (by decide) rfl ?_
      refine x_bald dX1_digit_33 1 a rfl (rfl) (by omega) (by decide) ?_
      refine x_bipush 57 dX1_digit_34 (by decide) ?_
      have J36_14 : ∀ (v13 : Int32), v13 = (if 57 < (sgB (b a)) then (-1) else (sgB (b a)) - 48) → Xs κ g 1 0 0 cX1_digit yX1_digit (some .int) Q 0 0 55 [some (.ref aR)] [.int v13] [(aR, .inr (1, [.ref aRt, .ref aRc, .int (nI n), .int (nI cs), .int (nI a), .int ft])), (aRt, .inl (g.2.1 1, 60, .inl (fun j => sgB (b j))))] := by
        intro v13 ev13
        exact J22_12 _ (by rw [if_neg c22]; try simp only [ev13])
      refine x_icmp_gt dX1_digit_36 (fun c36 => ?_) (fun c36 => ?_)
      · have c36 : 57 < (sgB (b a)) := c36
        refine x_iconst (-1) dX1_digit_54 (by decide) ?_
        exact J36_14 _ (if_pos c36).symm
      · have c36 : ¬ (57 < (sgB (b a))) := c36
        refine x_aload_n dX1_digit_39 rfl ?_
        refine x_get dX1_digit_40 0 0 inX1 fl_X1_9 rfl rfl (by decide) rfl ?_
        refine x_aload_n dX1_digit_43 rfl ?_
        refine x_get dX1_digit_44 0 4 inX1 fl_X1_41 rfl rfl (by decide) rfl ?_
        refine x_bald dX1_digit_47 1 a rfl (rfl) (by omega) (by decide) ?_
        refine x_bipush 48 dX1_digit_48 (by decide) ?_
        refine x_isub dX1_digit_50 ?_
        refine x_goto dX1_digit_51 ?_
        exact J36_14 _ (if_neg c36).symm

-- == X1_nameHere ==
theorem dX1_nameHere_0 : xd cX1_nameHere 0 (.aload_n 0) 1 1 := ⟨by decide +kernel, rfl⟩
theorem dX1_nameHere_1 : xd cX1_nameHere 1 (.getfield 41) 3 4 := ⟨by decide +kernel, rfl⟩
theorem dX1_nameHere_4 : xd cX1_nameHere 4 (.aload_n 0) 1 5 := ⟨by decide +kernel, rfl⟩
theorem dX1_nameHere_5 : xd cX1_nameHere 5 (.getfield 28) 3 8 := ⟨by decide +kernel, rfl⟩
theorem dX1_nameHere_8 : xj cX1_nameHere 8 (.if_icmp .ge) 11 33 := ⟨25, by decide +kernel, rfl, by decide⟩
theorem dX1_nameHere_11 : xd cX1_nameHere 11 (.ldc 81) 2 13 := ⟨by decide +kernel, rfl⟩
theorem dX1_nameHere_13 : xd cX1_nameHere 13 (.aload_n 0) 1 14 := ⟨by decide +kernel, rfl⟩
theorem dX1_nameHere_14 : xd cX1_nameHere 14 (.getfield 9) 3 17 := ⟨by decide +kernel, rfl⟩
theorem dX1_nameHere_17 : xd cX1_nameHere 17 (.aload_n 0) 1 18 := ⟨by decide +kernel, rfl⟩
theorem dX1_nameHere_18 : xd cX1_nameHere 18 (.getfield 41) 3 21 := ⟨by decide +kernel, rfl⟩
theorem dX1_nameHere_21 : xd cX1_nameHere 21 .baload 1 22 := ⟨by decide +kernel, rfl⟩
theorem dX1_nameHere_22 : xd cX1_nameHere 22 (.sipush 255) 3 25 := ⟨by decide +kernel, rfl⟩
theorem dX1_nameHere_25 : xd cX1_nameHere 25 .iand 1 26 := ⟨by decide +kernel, rfl⟩
theorem dX1_nameHere_26 : xd cX1_nameHere 26 .i2c 1 27 := ⟨by decide +kernel, rfl⟩
theorem dX1_nameHere_27 : xd cX1_nameHere 27 (.invokevirtual 83) 3 30 := ⟨by decide +kernel, rfl⟩
theorem dX1_nameHere_30 : xj cX1_nameHere 30 .goto 33 34 := ⟨4, by decide +kernel, rfl, by decide⟩
theorem dX1_nameHere_33 : xd cX1_nameHere 33 (.iconst (-1)) 1 34 := ⟨by decide +kernel, rfl⟩
theorem dX1_nameHere_34 : xd cX1_nameHere 34 .ireturn 1 35 := ⟨by decide +kernel, rfl⟩

set_option maxRecDepth 100000 in
set_option maxHeartbeats 4000000 in
theorem ct_X1_nameHere (l : Launch) (g : XG) (aR aRt aRc n a cs : Nat) (b : Nat → Nat) (ft : Int32) (ha : a ≤ n) (hn : n ≤ 60) (hb : ∀ j, b j < 256) : Ct l g 6 0 0 yX1_nameHere cX1_nameHere 1 (some .int) [.ref aR] [(aR, .inr (1, [.ref aRt, .ref aRc, .int (nI n), .int (nI cs), .int (nI a), .int ft])), (aRt, .inl (g.2.1 1, 60, .inl (fun j => sgB (b j))))] (xpi (nmhI b n a) [(aR, .inr (1, [.ref aRt, .ref aRc, .int (nI n), .int (nI cs), .int (nI a), .int ft])), (aRt, .inl (g.2.1 1, 60, .inl (fun j => sgB (b j))))]) := by
  refine Ct.ofX (lv := [some (.ref aR)]) (by decide) rfl (Nat.le_of_ble_eq_true rfl) (fun κ => ?_)
  generalize hQ : xQ κ g 0 0 _ = Q
  refine x_aload_n dX1_nameHere_0 rfl ?_
  refine x_get dX1_nameHere_1 0 4 inX1 fl_X1_41 rfl rfl (by decide) rfl ?_
  refine x_aload_n dX1_nameHere_4 rfl ?_
  refine x_get dX1_nameHere_5 0 2 inX1 fl_X1_28 rfl rfl (by decide) rfl ?_
  have J8_2 : ∀ (v1 : Int32), v1 = (if (nI n) ≤ (nI a) then (-1) else nxX (sgB (b a))) → Xs κ g 6 0 0 cX1_nameHere yX1_nameHere (some .int) Q 0 0 34 [some (.ref aR)] [.int v1] [(aR, .inr (1, [.ref aRt, .ref aRc, .int (nI n), .int (nI cs), .int (nI a), .int ft])), (aRt, .inl (g.2.1 1, 60, .inl (fun j => sgB (b j))))] := by
    intro v1 ev1
    rw [← hQ]
    refine x_iret dX1_nameHere_34 rfl (Nat.le_of_ble_eq_true rfl) (Nat.le_of_ble_eq_true rfl) ?_
    exact ⟨by simp only [ev1, nmh_eq ha hn hb], rfl⟩
  refine x_icmp_ge dX1_nameHere_8 (fun c8 => ?_) (fun c8 => ?_)
  · have c8 : (nI n) ≤ (nI a) := c8
    have c8n := (nI_leI (a := n) (b := a) (by omega) (by omega)).mp c8
    refine x_iconst (-1) dX1_nameHere_33 (by decide) ?_
    exact J8_2 _ (if_pos c8).symm
  · have c8 : ¬ ((nI n) ≤ (nI a)) := c8
    have c8n := mt (nI_leI (a := n) (b := a) (by omega) (by omega)).mpr c8
    refine x_ldcS dX1_nameHere_11 rfl ?_
    refine x_aload_n dX1_nameHere_13 rfl ?_
    refine x_get dX1_nameHere_14 0 0 inX1 fl_X1_9 rfl rfl (by decide) rfl ?_
    refine x_aload_n dX1_nameHere_17 rfl ?_
    refine x_get dX1_nameHere_18 0 4 inX1 fl_X1_41 rfl rfl (by decide) rfl ?_
    refine x_bald dX1_nameHere_21 1 a rfl (rfl) (by omega) (by decide) ?_
    refine x_sipush 255 dX1_nameHere_22 (by decide) ?_
    refine x_iand dX1_nameHere_25 ?_
    refine x_i2c dX1_nameHere_26 ?_
    refine x_rei (nI (b a)) (sg_eq (hb a)) ?_
    refine x_cVSi dX1_nameHere_27 ml_X1_83 mJ0_indexOf_0f7a4 rfl (ct_J0_indexOf_0f7a4 κ.2.1 g (b a) (hb a)) rfl (Nat.le_of_ble_eq_true rfl) (by decide) (Nat.le_refl _) (Nat.le_refl _) ?_
    refine x_goto dX1_nameHere_30 ?_
    exact J8_2 _ (if_neg c8).symm

-- == X1_put ==
theorem dX1_put_0 : xd cX1_put 0 (.aload_n 0) 1 1 := ⟨by decide +kernel, rfl⟩
theorem dX1_put_1 : xd cX1_put 1 (.getfield 38) 3 4 := ⟨by decide +kernel, rfl⟩
theorem dX1_put_4 : xd cX1_put 4 (.bipush 60) 2 6 := ⟨by decide +kernel, rfl⟩
theorem dX1_put_6 : xj cX1_put 6 (.if_icmp .ge) 9 29 := ⟨23, by decide +kernel, rfl, by decide⟩
theorem dX1_put_9 : xd cX1_put 9 (.aload_n 0) 1 10 := ⟨by decide +kernel, rfl⟩
theorem dX1_put_10 : xd cX1_put 10 (.getfield 15) 3 13 := ⟨by decide +kernel, rfl⟩
theorem dX1_put_13 : xd cX1_put 13 (.aload_n 0) 1 14 := ⟨by decide +kernel, rfl⟩
theorem dX1_put_14 : xd cX1_put 14 (.getfield 38) 3 17 := ⟨by decide +kernel, rfl⟩
theorem dX1_put_17 : xd cX1_put 17 (.iload_n 1) 1 18 := ⟨by decide +kernel, rfl⟩
theorem dX1_put_18 : xd cX1_put 18 .iastore 1 19 := ⟨by decide +kernel, rfl⟩
theorem dX1_put_19 : xd cX1_put 19 (.aload_n 0) 1 20 := ⟨by decide +kernel, rfl⟩
theorem dX1_put_20 : xd cX1_put 20 .dup 1 21 := ⟨by decide +kernel, rfl⟩
theorem dX1_put_21 : xd cX1_put 21 (.getfield 38) 3 24 := ⟨by decide +kernel, rfl⟩
theorem dX1_put_24 : xd cX1_put 24 (.iconst 1) 1 25 := ⟨by decide +kernel, rfl⟩
theorem dX1_put_25 : xd cX1_put 25 .iadd 1 26 := ⟨by decide +kernel, rfl⟩
theorem dX1_put_26 : xd cX1_put 26 (.putfield 38) 3 29 := ⟨by decide +kernel, rfl⟩
theorem dX1_put_29 : xd cX1_put 29 .return_ 1 30 := ⟨by decide +kernel, rfl⟩

set_option maxRecDepth 100000 in
set_option maxHeartbeats 4000000 in
theorem ct_X1_put (l : Launch) (g : XG) (aR aRt aRc n a : Nat) (f0 : Nat → Int32) (cl : List Int32) (ft c : Int32) (hl : cl.length ≤ 60) : Ct l g 1 0 0 yX1_put cX1_put 2 none [.ref aR, .int c] [(aR, .inr (1, [.ref aRt, .ref aRc, .int (nI n), .int (nI cl.length), .int (nI a), .int ft])), (aRc, .inl (g.2.1 0, 60, .inl (coL cl f0)))] (xpv [(aR, .inr (1, [.ref aRt, .ref aRc, .int (nI n), .int (nI ((putL c cl).length)), .int (nI a), .int ft])), (aRc, .inl (g.2.1 0, 60, .inl (coL (putL c cl) f0)))]) := by
  refine Ct.ofX (lv := [some (.ref aR), some (.int c)]) (by decide) rfl (Nat.le_of_ble_eq_true rfl) (fun κ => ?_)
  generalize hQ : xQ κ g 0 0 _ = Q
  refine x_aload_n dX1_put_0 rfl ?_
  refine x_get dX1_put_1 0 3 inX1 fl_X1_38 rfl rfl (by decide) rfl ?_
  refine x_bipush 60 dX1_put_4 (by decide) ?_
  refine x_icmp_ge dX1_put_6 (fun c6 => ?_) (fun c6 => ?_)
  · have c6 : 60 ≤ (nI cl.length) := c6
    have c6n := (nI_leI (a := 60) (b := cl.length) (by omega) (by omega)).mp c6
    rw [← hQ]
    refine x_vret dX1_put_29 rfl (Nat.le_of_ble_eq_true rfl) (Nat.le_of_ble_eq_true rfl) ?_
    exact ⟨rfl, by first | rw [putL, if_neg (by omega)] | (rw [putL, if_pos (by omega)]; simp only [coL_upd, List.length_append, List.length_singleton])⟩
  · have c6 : ¬ (60 ≤ (nI cl.length)) := c6
    have c6n := mt (nI_leI (a := 60) (b := cl.length) (by omega) (by omega)).mpr c6
    refine x_aload_n dX1_put_9 rfl ?_
    refine x_get dX1_put_10 0 1 inX1 fl_X1_15 rfl rfl (by decide) rfl ?_
    refine x_aload_n dX1_put_13 rfl ?_
    refine x_get dX1_put_14 0 3 inX1 fl_X1_38 rfl rfl (by decide) rfl ?_
    refine x_iload_n dX1_put_17 rfl ?_
    refine x_iast (ws' := [(aR, .inr (1, [.ref aRt, .ref aRc, .int (nI n), .int (nI cl.length), .int (nI a), .int ft])), (aRc, .inl (g.2.1 0, 60, .inl (upd (coL cl f0) cl.length c)))]) dX1_put_18 1 cl.length rfl (rfl) (by omega) (by decide) rfl ?_
    refine x_aload_n dX1_put_19 rfl ?_
    refine x_dup dX1_put_20 rfl ?_
    refine x_get dX1_put_21 0 3 inX1 fl_X1_38 rfl rfl (by decide) rfl ?_
    refine x_iconst 1 dX1_put_24 (by decide) ?_
    refine x_iadd dX1_put_25 ?_
    refine x_rei (nI (cl.length + 1)) (nI_addc cl.length 1 rfl) ?_
    refine x_put (ws' := [(aR, .inr (1, [.ref aRt, .ref aRc, .int (nI n), .int (nI (cl.length + 1)), .int (nI a), .int ft])), (aRc, .inl (g.2.1 0, 60, .inl (upd (coL cl f0) cl.length c)))]) dX1_put_26 0 3 inX1 tyX1_ok nmX1 fl_X1_38 rfl rfl (by decide) rfl (rfl) rfl (xlt rfl) rfl ?_
    rw [← hQ]
    refine x_vret dX1_put_29 rfl (Nat.le_of_ble_eq_true rfl) (Nat.le_of_ble_eq_true rfl) ?_
    exact ⟨rfl, by first | rw [putL, if_neg (by omega)] | (rw [putL, if_pos (by omega)]; simp only [coL_upd, List.length_append, List.length_singleton])⟩

