/-! ===== the liking: the class's code says what the reference reads ===== -/
/-- behind a piece of text: the same place and fault on both sides; the code behind leaves the value -/
def RlP (n : Nat) (P0 Q : PS) (X : (Nat → Int32) → RS) : Prop :=
  (∀ nv, (X nv).1 = Q.1 ∧ (X nv).2.1 = Q.2.1) ∧ (Q.2.1 = false → ∃ cl, Q.2.2 = P0.2.2 ++ cl ∧ 1 ≤ cl.length ∧ P0.1 + cl.length ≤ Q.1 ∧ Q.1 ≤ n ∧ ∀ nv, pushes nv cl (X nv).2.2)
def okB (n : Nat) (P : PS) : Prop := P.2.1 = false ∧ P.1 ≤ n ∧ P.2.2.length ≤ P.1
def LinkP (n : Nat) (F : PS → PS) (R : (Nat → Int32) → Nat → RS) : Prop := ∀ P : PS, okB n P → RlP n P (F P) (fun nv => R nv P.1)
theorem putL_app {c : Int32} {cl : List Int32} (h : cl.length < 60) : putL c cl = cl ++ [c] := by unfold putL; rw [if_pos h]
theorem nmS_v {h : Nat → Nat} {k : Nat} {q : Nat × Nat} (hq : q.2 < k) : (nmS h q).2 < k * 10 + 10 := by
  unfold nmS
  split
  next c =>
    unfold dgT at c
    have := of_decide_eq_true c
    show q.2 * 10 + (h q.1 - 48) < _
    omega
  · omega
theorem numI_v (h : Nat → Nat) (a : Nat) : (numI h a).2 < 2 ^ 31 := by
  have h1 := nmS_v (h := h) (k := 1) (q := (a, 0)) (Nat.zero_lt_one)
  have h2 := nmS_v (h := h) h1
  have h3 := nmS_v (h := h) h2
  exact Nat.lt_trans h3 (by decide)
theorem numI_gt {h : Nat → Nat} {a : Nat} (hd : dgT (h a) = true) : a + 1 ≤ (numI h a).1 := by
  have e : nmS h (a, 0) = (a + 1, 0 * 10 + (h a - 48)) := by unfold nmS; rw [if_pos hd]
  have h1 : a + 1 ≤ (nmS h (a, 0)).1 := by rw [e]; exact Nat.le_refl _
  exact Nat.le_trans h1 (Nat.le_trans (nmS_ge _) (nmS_ge _))
section LK
variable {n : Nat} {h : Nat → Nat}
/-- one step more of a chain: an act's sign, a piece, the act -/
theorem link_act (H : okH n h) (hn : n ≤ 60) {F : PS → PS} {R : (Nat → Int32) → Nat → RS} (L : LinkP n F R) {P0 Q : PS} {X : (Nat → Int32) → RS} (ok : okB n P0) (r : RlP n P0 Q X) (hq : Q.2.1 = false) {s : Nat} (hs : h Q.1 = s) (hs2 : s < 256) (c : Int32) (op : Int32 → Int32 → Int32) (hop : ∀ (nm : Nat → Int32) (a b : List Int32) (x y : Int32), pushes nm a x → pushes nm b y → pushes nm (a ++ b ++ [c]) (op x y)) :
    RlP n P0 (putP c (F (advP Q))) (fun nv => ((R nv (Q.1 + 1)).1, (R nv (Q.1 + 1)).2.1, op (X nv).2.2 (R nv (Q.1 + 1)).2.2)) := by
  obtain ⟨cl, e1, e2, e3, e4, e5⟩ := r.2 hq
  have hlt : Q.1 + 1 ≤ n := adv_le H hs hs2
  have ok2 : okB n (advP Q) := ⟨hq, hlt, by show Q.2.2.length ≤ Q.1 + 1; rw [e1, List.length_append]; have := ok.2.2; omega⟩
  obtain ⟨f1, f2⟩ := L (advP Q) ok2
  refine ⟨fun nv => f1 nv, fun hb => ?_⟩
  obtain ⟨cl2, g1, g2, g3, g4, g5⟩ := f2 hb
  have g1 : (F (advP Q)).2.2 = P0.2.2 ++ cl ++ cl2 := by rw [g1]; show Q.2.2 ++ cl2 = _; rw [e1]
  have g3 : Q.1 + 1 + cl2.length ≤ (F (advP Q)).1 := g3
  have hl : (F (advP Q)).2.2.length < 60 := by rw [g1, List.length_append, List.length_append]; have := ok.2.2; omega
  refine ⟨cl ++ cl2 ++ [c], ?_, ?_, ?_, g4, fun nv => hop nv cl cl2 _ _ (e5 nv) (g5 nv)⟩
  · show putL c (F (advP Q)).2.2 = _
    rw [putL_app hl, g1]; simp only [List.append_assoc]
  · simp only [List.length_append, List.length_cons, List.length_nil]; omega
  · show _ ≤ (F (advP Q)).1
    simp only [List.length_append, List.length_cons, List.length_nil]; omega
theorem rl_itr {P0 : PS} {f : PS → PS} {f2 : (Nat → Int32) → RS → RS} (hf : ∀ (Q : PS) (X : (Nat → Int32) → RS), RlP n P0 Q X → RlP n P0 (f Q) (fun nv => f2 nv (X nv))) {Q : PS} {X : (Nat → Int32) → RS} (r : RlP n P0 Q X) : ∀ i, RlP n P0 (itr f i Q) (fun nv => itr (f2 nv) i (X nv))
  | 0 => r
  | i + 1 => hf _ _ (rl_itr hf r i)
theorem link_prod (H : okH n h) (hn : n ≤ 60) {F : PS → PS} {R : (Nat → Int32) → Nat → RS} (L : LinkP n F R) : LinkP n (prodP h F) (fun nv => termR h (R nv)) := by
  intro P ok
  refine rl_itr (f2 := fun nv => tmS h (R nv)) (fun Q X r => ?_) (L P ok) 60
  unfold prS tmS
  by_cases hb : Q.2.1 = true
  · simp only [hb, if_true, (fun nv => (r.1 nv).2.trans hb : ∀ nv, (X nv).2.1 = true)]; exact r
  · have hb2 : Q.2.1 = false := by cases e : Q.2.1 <;> simp_all
    have hx : ∀ nv, ¬ (X nv).2.1 = true := fun nv => by rw [(r.1 nv).2]; exact hb
    have hp : ∀ nv, (X nv).1 = Q.1 := fun nv => (r.1 nv).1
    simp only [if_neg hb, if_neg (hx _), hp]
    by_cases c : h Q.1 = 42
    · simp only [if_pos c]
      exact link_act H hn L ok r hb2 c (by decide) (-3) (fun x y => x * y) (fun nm a b x y ha hb => (push_bin ha hb).2.2)
    · simp only [if_neg c]; exact r
theorem link_sum (H : okH n h) (hn : n ≤ 60) {F : PS → PS} {R : (Nat → Int32) → Nat → RS} (L : LinkP n F R) : LinkP n (sumP h F) (fun nv => sumR h (R nv)) := by
  intro P ok
  refine rl_itr (f2 := fun nv => snS h (R nv)) (fun Q X r => ?_) (L P ok) 60
  unfold smS snS
  by_cases hb : Q.2.1 = true
  · simp only [hb, if_true, (fun nv => (r.1 nv).2.trans hb : ∀ nv, (X nv).2.1 = true)]; exact r
  · have hb2 : Q.2.1 = false := by cases e : Q.2.1 <;> simp_all
    have hx : ∀ nv, ¬ (X nv).2.1 = true := fun nv => by rw [(r.1 nv).2]; exact hb
    have hp : ∀ nv, (X nv).1 = Q.1 := fun nv => (r.1 nv).1
    simp only [if_neg hb, if_neg (hx _), hp]
    by_cases c : h Q.1 = 43
    · simp only [if_pos c]
      exact link_act H hn L ok r hb2 c (by decide) (-1) (fun x y => x + y) (fun nm a b x y ha hb => (push_bin ha hb).1)
    · simp only [if_neg c]
      by_cases c2 : h Q.1 = 45
      · simp only [if_pos c2]
        exact link_act H hn L ok r hb2 c2 (by decide) (-2) (fun x y => x - y) (fun nm a b x y ha hb => (push_bin ha hb).2.1)
      · simp only [if_neg c2]; exact r
theorem link_fac (H : okH n h) (hn : n ≤ 60) {B : PS → PS} {R : (Nat → Int32) → Nat → RS} (L : ∀ P : PS, okB n P → h P.1 = 40 → RlP n P (B P) (fun nv => R nv P.1)) : LinkP n (facP h B) (fun nv => facR h nv (R nv)) := by
  intro P ok
  unfold facP facR
  by_cases hd : dgT (h P.1) = true
  · simp only [if_pos hd]
    have h1 := numI_gt hd
    have h2 := numI_le H ok.2.1
    refine ⟨fun nv => ⟨rfl, ok.1.symm⟩, fun _ => ⟨[nI (numI h P.1).2], ?_, Nat.le_refl _, h1, h2, fun nv => push_num nv (numI_v h P.1)⟩⟩
    show putL _ P.2.2 = _
    exact putL_app (by have := ok.2.2; omega)
  · simp only [if_neg hd]
    by_cases hb : h P.1 = 40
    · have h7 : ¬ nmIx (h P.1) < 7 := by rw [hb]; decide
      simp only [if_neg h7, if_pos hb]
      exact L P ok hb
    · simp only [if_neg hb]
      by_cases h7 : nmIx (h P.1) < 7
      · simp only [if_pos h7]
        have h1 := nm_lt H h7
        refine ⟨fun nv => ⟨rfl, ok.1.symm⟩, fun _ => ⟨[(-10) - nI (nmIx (h P.1))], ?_, Nat.le_refl _, Nat.le_refl _, h1, fun nv => push_name nv h7⟩⟩
        show putL _ P.2.2 = _
        exact putL_app (by have := ok.2.2; omega)
      · simp only [if_neg h7]
        exact ⟨fun nv => ⟨rfl, rfl⟩, fun q => absurd (show true = false from q) (by decide)⟩
/-- a sign passed behind a piece -/
theorem link_pass (H : okH n h) {c : Nat} (hc : c < 256) {P0 Q : PS} {X : (Nat → Int32) → RS} (r : RlP n P0 Q X) : RlP n P0 (passP h c Q) (fun nv => ((pasA h c (X nv).2.1 (X nv).1).1, (pasA h c (X nv).2.1 (X nv).1).2, (X nv).2.2)) := by
  have e : ∀ nv, pasA h c (X nv).2.1 (X nv).1 = pasA h c Q.2.1 Q.1 := fun nv => by rw [(r.1 nv).1, (r.1 nv).2]
  refine ⟨fun nv => ⟨congrArg Prod.fst (e nv), congrArg Prod.snd (e nv)⟩, fun q => ?_⟩
  have q : (pasA h c Q.2.1 Q.1).2 = false := q
  unfold pasA at q
  by_cases hb : Q.2.1 = true
  · rw [if_pos hb] at q; exact absurd (show true = false from q) (by decide)
  · have hb2 : Q.2.1 = false := by cases e : Q.2.1 <;> simp_all
    rw [if_neg hb] at q
    by_cases hh : h Q.1 = c
    · obtain ⟨cl, e1, e2, e3, e4, e5⟩ := r.2 hb2
      have ep : (passP h c Q).1 = Q.1 + 1 := by
        show (pasA h c Q.2.1 Q.1).1 = _
        unfold pasA; rw [if_neg hb, if_pos hh]
      refine ⟨cl, e1, e2, by rw [ep]; omega, by rw [ep]; exact adv_le H hh hc, e5⟩
    · rw [if_neg hh] at q; exact absurd (show true = false from q) (by decide)
theorem pas_bad {c : Nat} {a : Nat} {b : Bool} (q : (pasA h c b a).2 = true) : (pasA h c b a).1 = a := by
  unfold pasA at q ⊢
  split
  · rfl
  next h1 =>
    rw [if_neg h1] at q
    split
    next h2 => rw [if_pos h2] at q; exact absurd (show false = true from q) (by decide)
    · rfl
theorem link_brk (H : okH n h) (hn : n ≤ 60) {F : PS → PS} {R : (Nat → Int32) → Nat → RS} (L : LinkP n F R) : ∀ P : PS, okB n P → h P.1 = 40 → RlP n P (brkP h F (advP P)) (fun nv => choR h (R nv) (P.1 + 1)) := by
  intro P ok h40
  have hlt : P.1 + 1 ≤ n := adv_le H h40 (by decide)
  have ok1 : okB n (advP P) := ⟨ok.1, hlt, by show P.2.2.length ≤ P.1 + 1; have := ok.2.2; omega⟩
  have r1 := L (advP P) ok1
  have r1 : RlP n (advP P) (F (advP P)) (fun nv => R nv (P.1 + 1)) := r1
  -- the piece in the bracket, then the sign behind it
  suffices hs : RlP n (advP P) (brkP h F (advP P)) (fun nv => choR h (R nv) (P.1 + 1)) by
    refine ⟨hs.1, fun q => ?_⟩
    obtain ⟨cl, e1, e2, e3, e4, e5⟩ := hs.2 q
    have e3 : P.1 + 1 + cl.length ≤ (brkP h F (advP P)).1 := e3
    exact ⟨cl, e1, e2, by omega, e4, e5⟩
  unfold brkP choR endR
  refine link_pass H (by decide) ?_
  generalize hS : F (advP P) = S at *
  have hx1 : ∀ nv, (R nv (P.1 + 1)).1 = S.1 := fun nv => (r1.1 nv).1
  have hx2 : ∀ nv, (R nv (P.1 + 1)).2.1 = S.2.1 := fun nv => (r1.1 nv).2
  simp only [hx1, hx2]
  by_cases hb : S.2.1 = true
  · simp only [if_pos hb]; exact r1
  · have hb2 : S.2.1 = false := by cases e : S.2.1 <;> simp_all
    simp only [if_neg hb]
    by_cases h63 : h S.1 = 63
    · simp only [if_pos h63]
      obtain ⟨cl, e1, e2, e3, e4, e5⟩ := r1.2 hb2
      have e3 : P.1 + 1 + cl.length ≤ S.1 := e3
      have e1 : S.2.2 = P.2.2 ++ cl := e1
      have hlt2 : S.1 + 1 ≤ n := adv_le H h63 (by decide)
      have ok2 : okB n (advP S) := ⟨hb2, hlt2, by show S.2.2.length ≤ S.1 + 1; rw [e1, List.length_append]; have := ok.2.2; omega⟩
      have r2 : RlP n (advP S) (F (advP S)) (fun nv => R nv (S.1 + 1)) := L (advP S) ok2
      have r3 := link_pass H (c := 58) (by decide) r2
      generalize hT : F (advP S) = T at *
      have hy1 : ∀ nv, (R nv (S.1 + 1)).1 = T.1 := fun nv => (r2.1 nv).1
      have hy2 : ∀ nv, (R nv (S.1 + 1)).2.1 = T.2.1 := fun nv => (r2.1 nv).2
      simp only [hy1, hy2] at r3 ⊢
      by_cases hu : (pasA h 58 T.2.1 T.1).2 = true
      · have hu2 : (passP h 58 T).2.1 = true := hu
        simp only [if_pos hu, if_pos hu2]
        exact ⟨fun nv => ⟨rfl, hu.symm⟩, fun q => by
          have q : (pasA h 58 T.2.1 T.1).2 = false := q
          rw [hu] at q; exact absurd q (by decide)⟩
      · have hu3 : (pasA h 58 T.2.1 T.1).2 = false := by cases e : (pasA h 58 T.2.1 T.1).2 <;> simp_all
        have hu2 : ¬ (passP h 58 T).2.1 = true := hu
        simp only [if_neg hu, if_neg hu2]
        obtain ⟨cl2, f1, f2, f3, f4, f5⟩ := r3.2 hu3
        have f1 : T.2.2 = S.2.2 ++ cl2 := f1
        have f3 : S.1 + 1 + cl2.length ≤ (passP h 58 T).1 := f3
        have ok3 : okB n (passP h 58 T) := ⟨hu3, f4, by show T.2.2.length ≤ _; rw [f1, e1, List.length_append, List.length_append]; have := ok.2.2; omega⟩
        have r4 := L (passP h 58 T) ok3
        have r4 : RlP n (passP h 58 T) (F (passP h 58 T)) (fun nv => R nv (pasA h 58 T.2.1 T.1).1) := r4
        refine ⟨fun nv => ⟨(r4.1 nv).1, (r4.1 nv).2⟩, fun q => ?_⟩
        obtain ⟨cl3, g1, g2, g3, g4, g5⟩ := r4.2 q
        have g1 : (F (passP h 58 T)).2.2 = P.2.2 ++ cl ++ cl2 ++ cl3 := by rw [g1]; show T.2.2 ++ cl3 = _; rw [f1, e1]
        have hl : (F (passP h 58 T)).2.2.length < 60 := by rw [g1]; simp only [List.length_append]; have := ok.2.2; omega
        refine ⟨cl ++ cl2 ++ cl3 ++ [-4], ?_, ?_, ?_, g4, fun nv => push_cho (e5 nv) (f5 nv) (g5 nv)⟩
        · show putL (-4) (F (passP h 58 T)).2.2 = P.2.2 ++ _
          rw [putL_app hl, g1]; simp only [List.append_assoc]
        · simp only [List.length_append, List.length_cons, List.length_nil]; omega
        · show P.1 + 1 + _ ≤ (F (passP h 58 T)).1
          simp only [List.length_append, List.length_cons, List.length_nil]; omega
    · simp only [if_neg h63]; exact r1
theorem link_all (H : okH n h) (hn : n ≤ 60) : ∀ d, LinkP n (sumL_ h d) (fun nv => srL h nv d)
  | 0 => link_sum H hn (R := fun nv => termR h (facR h nv (fun a => (a, true, 0)))) (link_prod H hn (R := fun nv => facR h nv (fun a => (a, true, 0))) (link_fac H hn (R := fun _ a => (a, true, 0)) (fun P ok _ => ⟨fun nv => ⟨rfl, rfl⟩, fun q => absurd q (by show ¬ true = false; decide)⟩)))
  | d + 1 => link_sum H hn (R := fun nv => termR h (facR h nv (fun a => choR h (srL h nv d) (a + 1)))) (link_prod H hn (R := fun nv => facR h nv (fun a => choR h (srL h nv d) (a + 1))) (link_fac H hn (R := fun nv a => choR h (srL h nv d) (a + 1)) (link_brk H hn (link_all H hn d))))
end LK
/-- the whole text: place and fault, and what the code says -/
theorem link_top {n : Nat} {h : Nat → Nat} (H : okH n h) (hn : n ≤ 60) (d : Nat) : (∀ nv, (srL h nv d 0).1 = (sumL_ h d (0, false, [])).1 ∧ (srL h nv d 0).2.1 = (sumL_ h d (0, false, [])).2.1) ∧ ((sumL_ h d (0, false, [])).2.1 = false → 1 ≤ (sumL_ h d (0, false, [])).2.2.length ∧ (sumL_ h d (0, false, [])).2.2.length ≤ n ∧ ∀ nv, evR nv (sumL_ h d (0, false, [])).2.2 [] = some [(srL h nv d 0).2.2]) := by
  have r := link_all H hn d (0, false, []) ⟨rfl, Nat.zero_le _, Nat.le_refl _⟩
  refine ⟨r.1, fun q => ?_⟩
  obtain ⟨cl, e1, e2, e3, e4, e5⟩ := r.2 q
  have e1 : (sumL_ h d (0, false, [])).2.2 = cl := e1
  rw [e1]
  exact ⟨e2, by have e3 : 0 + cl.length ≤ _ := e3; omega, fun nv => e5 nv []⟩
theorem link_txt (tb : Nat → Nat) {n : Nat} (hn : n ≤ 60) : (∀ nv, (srL (hB tb n) nv 4 0).1 = (sumL_ (hB tb n) 4 (0, false, [])).1 ∧ (srL (hB tb n) nv 4 0).2.1 = (sumL_ (hB tb n) 4 (0, false, [])).2.1) ∧ ((sumL_ (hB tb n) 4 (0, false, [])).2.1 = false → 1 ≤ (sumL_ (hB tb n) 4 (0, false, [])).2.2.length ∧ (sumL_ (hB tb n) 4 (0, false, [])).2.2.length ≤ n ∧ ∀ nv, evR nv (sumL_ (hB tb n) 4 (0, false, [])).2.2 [] = some [(srL (hB tb n) nv 4 0).2.2]) := link_top (okH_hB tb n) hn 4
theorem link_f (tb : Nat → Nat) {n : Nat} (hn : n ≤ 60) (nv : Nat → Int32) : (syI (srL (hB tb n) nv 4 0) n = 1 ∧ fltI (hB tb n) n = nI (srL (hB tb n) nv 4 0).1 ∧ (srL (hB tb n) nv 4 0).1 ≤ 60) ∨ (syI (srL (hB tb n) nv 4 0) n = 0 ∧ fltI (hB tb n) n = -1 ∧ (sumL_ (hB tb n) 4 (0, false, [])).2.1 = false) := by
  obtain ⟨h1, h2⟩ := link_txt tb hn
  obtain ⟨e1, e2⟩ := h1 nv
  have hle : (srL (hB tb n) nv 4 0).1 ≤ n := (srL_ok (nv := nv) (okH_hB tb n) 4 0 (Nat.zero_le _)).2
  unfold syI fltI
  rw [e1] at hle
  rw [e1, e2]
  by_cases hb : (sumL_ (hB tb n) 4 (0, false, [])).2.1 = true
  · left
    rw [hb]
    exact ⟨rfl, rfl, by omega⟩
  · have hb2 : (sumL_ (hB tb n) 4 (0, false, [])).2.1 = false := by cases e : (sumL_ (hB tb n) 4 (0, false, [])).2.1 <;> simp_all
    rw [hb2]
    have hbI : ¬ ¬ (bI false = 0) := fun q => q rfl
    rw [if_neg hbI, if_neg (by decide : ¬ false = true)]
    have hle2 := nI_leI (a := n) (b := (sumL_ (hB tb n) 4 (0, false, [])).1) (by omega) (by omega)
    by_cases c : (sumL_ (hB tb n) 4 (0, false, [])).1 < n
    · left
      rw [if_pos c, if_neg (fun q => by have := hle2.mp q; omega)]
      exact ⟨rfl, rfl, by omega⟩
    · right
      rw [if_neg c, if_pos (hle2.mpr (by omega))]
      exact ⟨rfl, rfl, rfl⟩
