theorem acc_if {c : Prop} [Decidable c] (S X : Int64) : (if c then S else S + X) = S + (if c then 0 else X) := by split <;> simp
def wnA (cr th tw : Nat → Nat) (r d : Nat) : Nat := if nI r = 4 then cr d else (if nI r = 3 then th d else tw d)
def oneG (ru : Nat → Nat) (part : Int64) (w : Nat) (more : Int64) : Int64 := if lg_cmp ((nI w).toInt64 + more) 0 ≤ 0 then 0 else taxL ru (part / ((nI w).toInt64 + more))
theorem lg_ne0 {x : Int64} (h : ¬ lg_cmp x 0 ≤ 0) : ¬ x = 0 := by
  intro q; apply h; rw [q]; decide
def prtI (ru : Nat → Nat) (pot : Int64) (k : Nat) : Int64 := if nI k = 4 then partL ru 4 pot else (if nI k = 3 then partL ru 3 pot else partL ru 2 pot)
def worthS (ru : Nat → Nat) (pot : Int64) (cr th tw : Nat → Nat) (p : Nat) : Nat → Int64 := sumL (fun d => if nI (popN (rowB p &&& rowB d)) < 2 then 0 else oneG ru (prtI ru pot (popN (rowB p &&& rowB d))) (wnA cr th tw (popN (rowB p &&& rowB d)) d) 1)
def worthL (ru : Nat → Nat) (tot : Nat) (cr th tw : Nat → Nat) (p pt : Nat) : Int64 := worthS ru (potL ru (nI pt).toInt64 (nI tot).toInt64) cr th tw p 495 / 495
/-- halving -/
def hv1 (P : Nat → Bool) (x : Nat × Nat) : Nat × Nat := if x.1 < x.2 then (if P ((x.1 + x.2) / 2) then ((x.1 + x.2) / 2 + 1, x.2) else (x.1, (x.1 + x.2) / 2)) else x
def hvI (P : Nat → Bool) (x : Nat × Nat) : Nat → Nat × Nat
  | 0 => x
  | i + 1 => hv1 P (hvI P x i)
theorem hvI_le (P : Nat → Bool) (x : Nat × Nat) (H : Nat) (h : x.1 ≤ H ∧ x.2 ≤ H) : ∀ i, (hvI P x i).1 ≤ H ∧ (hvI P x i).2 ≤ H
  | 0 => h
  | i + 1 => by
    have ih := hvI_le P x H h i
    simp only [hvI, hv1]
    split
    · split <;> simp only <;> omega
    · exact ih
theorem hvI_fix (P : Nat → Bool) (x : Nat × Nat) {i : Nat} (h : ¬ (hvI P x i).1 < (hvI P x i).2) : ∀ n, hvI P x (i + n) = hvI P x i
  | 0 => rfl
  | n + 1 => by
    have ih := hvI_fix P x h n
    show hv1 P (hvI P x (i + n)) = _
    rw [ih, hv1, if_neg h]
theorem hv_lo {P : Nat → Bool} {c : Prop} [Decidable c] {x : Nat × Nat} {i : Nat} (hlt : (hvI P x i).1 < (hvI P x i).2) (hc : P (((hvI P x i).1 + (hvI P x i).2) / 2) = decide c) : (if c then ((hvI P x i).1 + (hvI P x i).2) / 2 + 1 else (hvI P x i).1) = (hvI P x (i + 1)).1 := by
  simp only [hvI, hv1, if_pos hlt, hc]
  by_cases q : c <;> simp [q]
theorem hv_hi {P : Nat → Bool} {c : Prop} [Decidable c] {x : Nat × Nat} {i : Nat} (hlt : (hvI P x i).1 < (hvI P x i).2) (hc : P (((hvI P x i).1 + (hvI P x i).2) / 2) = decide c) : (if c then (hvI P x i).2 else ((hvI P x i).1 + (hvI P x i).2) / 2) = (hvI P x (i + 1)).2 := by
  simp only [hvI, hv1, if_pos hlt, hc]
  by_cases q : c <;> simp [q]
theorem hv_end {P : Nat → Bool} {x : Nat × Nat} {i : Nat} (h : ¬ (hvI P x i).1 < (hvI P x i).2) (hi : i ≤ 32) : (hvI P x i).2 = (hvI P x 32).2 := by
  have := hvI_fix P x h (32 - i)
  rw [show i + (32 - i) = 32 by omega] at this
  rw [this]
def lpP (ru : Nat → Nat) (tot : Nat) (cr th tw : Nat → Nat) (p : Nat) : Nat → Bool := fun m => decide (lg_cmp (worthL ru tot cr th tw p m) (nI (ru 0)).toInt64 < 0)
def lpB (ru : Nat → Nat) (tot : Nat) (cr th tw : Nat → Nat) (p : Nat) : Nat := (hvI (lpP ru tot cr th tw p) (0, 99999999) 32).2
def cntU (cr : Nat → Nat) (most : Int32) : Nat → Nat := sumN (fun p => if most < nI (cr p) then 0 else 1)
theorem cntU_le (cr : Nat → Nat) (most : Int32) (n : Nat) : cntU cr most n ≤ n := by
  have h : sumN (fun p => if most < nI (cr p) then 0 else 1) n ≤ n * 1 := sumN_le (fun k _ => by show (if most < nI (cr k) then 0 else 1) ≤ 1; split <;> omega)
  unfold cntU
  omega
def lbP (cr : Nat → Nat) (n : Nat) : Nat → Bool := fun m => decide (nI (cntU cr (nI m) 495) < nI n)
def lbB (cr : Nat → Nat) (n tot : Nat) : Nat := (hvI (lbP cr n) (0, tot) 32).2
def cntE (cr : Nat → Nat) (B : Nat) : Nat → Nat := sumN (fun p => if nI (cr p) = nI B then 1 else 0)
def tkL (cr : Nat → Nat) (n tot i : Nat) : Int32 := nI n - nI (cntU cr (nI (lbB cr n tot) - 1) 495) - nI (cntE cr (lbB cr n tot) i)
def tkF (cr : Nat → Nat) (n tot p : Nat) : Nat := if nI (cr p) < nI (lbB cr n tot) then 1 else (if nI (cr p) = nI (lbB cr n tot) then (if tkL cr n tot p ≤ 0 then 0 else 1) else 0)
theorem tk_if (A E L : Prop) [Decidable A] [Decidable E] [Decidable L] : (if (if A then (1 : Int32) else (if E then (if L then 0 else 1) else 0)) = 0 then (0 : Int32) else 1) = nI (if A then 1 else (if E then (if L then 0 else 1) else 0)) := by
  by_cases a : A <;> by_cases e : E <;> by_cases q : L <;> simp [a, e, q] <;> rfl
theorem tkL_0 (cr : Nat → Nat) (n tot : Nat) : tkL cr n tot 0 = nI n - nI (cntU cr (nI (lbB cr n tot) - 1) 495) := by
  simp [tkL, cntE, sumN, show nI 0 = 0 from rfl]
theorem tkL_step (cr : Nat → Nat) (n tot i : Nat) : (if nI (cr i) = nI (lbB cr n tot) then tkL cr n tot i + (-1) else tkL cr n tot i) = tkL cr n tot (i + 1) := by
  by_cases e : nI (cr i) = nI (lbB cr n tot)
  · rw [if_pos e]
    show _ = nI n - nI (cntU cr (nI (lbB cr n tot) - 1) 495) - nI (cntE cr (lbB cr n tot) i + (if nI (cr i) = nI (lbB cr n tot) then 1 else 0))
    rw [if_pos e, nI_succ]
    simp only [tkL]
    rw [← Int32.sub_eq_add_neg, Int32.sub_sub]
  · rw [if_neg e]
    show _ = nI n - nI (cntU cr (nI (lbB cr n tot) - 1) 495) - nI (cntE cr (lbB cr n tot) i + (if nI (cr i) = nI (lbB cr n tot) then 1 else 0))
    rw [if_neg e]; rfl
def lsT (tk : Nat → Nat) : Nat → Nat
  | 0 => 0
  | i + 1 => if nI (tk (lsT tk i)) ≤ nI (tk i) then lsT tk i else i
theorem lsT_lt (tk : Nat → Nat) : ∀ {i N : Nat}, 0 < N → i ≤ N → lsT tk i < N
  | 0, N, h, _ => h
  | i + 1, N, h, h2 => by
    have ih := lsT_lt tk h (show i ≤ N by omega)
    simp only [lsT]; split
    · exact ih
    · omega
def skT (cr : Nat → Nat) : Nat → Nat → Nat
  | 0 => cr
  | i + 1 => updN (skT cr i) (lsT (skT cr i) 495) (skT cr i (lsT (skT cr i) 495) + 1)
def dfN (cr : Nat → Nat) : Nat → Nat
  | 0 => 0
  | i + 1 => dfN cr i + (if nI (skT cr i (lsT (skT cr i) 495)) = nI (cr (lsT (skT cr i) 495)) then 1 else 0)

-- == X0_winnersAt ==
theorem dX0_winnersAt_0 : xd cX0_winnersAt 0 (.iload_n 2) 1 1 := ⟨by decide +kernel, rfl⟩
theorem dX0_winnersAt_1 : xj cX0_winnersAt 1 (.ifCond .lt) 4 11 := ⟨10, by decide +kernel, rfl, by decide⟩
theorem dX0_winnersAt_4 : xd cX0_winnersAt 4 (.iload_n 2) 1 5 := ⟨by decide +kernel, rfl⟩
theorem dX0_winnersAt_5 : xd cX0_winnersAt 5 (.sipush 495) 3 8 := ⟨by decide +kernel, rfl⟩
theorem dX0_winnersAt_8 : xj cX0_winnersAt 8 (.if_icmp .lt) 11 13 := ⟨5, by decide +kernel, rfl, by decide⟩
theorem dX0_winnersAt_11 : xd cX0_winnersAt 11 (.iconst 0) 1 12 := ⟨by decide +kernel, rfl⟩
theorem dX0_winnersAt_12 : xd cX0_winnersAt 12 .ireturn 1 13 := ⟨by decide +kernel, rfl⟩
theorem dX0_winnersAt_13 : xd cX0_winnersAt 13 (.iload_n 1) 1 14 := ⟨by decide +kernel, rfl⟩
theorem dX0_winnersAt_14 : xd cX0_winnersAt 14 (.iconst 4) 1 15 := ⟨by decide +kernel, rfl⟩
theorem dX0_winnersAt_15 : xj cX0_winnersAt 15 (.if_icmp .ne) 18 27 := ⟨12, by decide +kernel, rfl, by decide⟩
theorem dX0_winnersAt_18 : xd cX0_winnersAt 18 (.aload_n 0) 1 19 := ⟨by decide +kernel, rfl⟩
theorem dX0_winnersAt_19 : xd cX0_winnersAt 19 (.getfield 24) 3 22 := ⟨by decide +kernel, rfl⟩
theorem dX0_winnersAt_22 : xd cX0_winnersAt 22 (.iload_n 2) 1 23 := ⟨by decide +kernel, rfl⟩
theorem dX0_winnersAt_23 : xd cX0_winnersAt 23 .iaload 1 24 := ⟨by decide +kernel, rfl⟩
theorem dX0_winnersAt_24 : xj cX0_winnersAt 24 .goto 27 47 := ⟨23, by decide +kernel, rfl, by decide⟩
theorem dX0_winnersAt_27 : xd cX0_winnersAt 27 (.iload_n 1) 1 28 := ⟨by decide +kernel, rfl⟩
theorem dX0_winnersAt_28 : xd cX0_winnersAt 28 (.iconst 3) 1 29 := ⟨by decide +kernel, rfl⟩
theorem dX0_winnersAt_29 : xj cX0_winnersAt 29 (.if_icmp .ne) 32 41 := ⟨12, by decide +kernel, rfl, by decide⟩
theorem dX0_winnersAt_32 : xd cX0_winnersAt 32 (.aload_n 0) 1 33 := ⟨by decide +kernel, rfl⟩
theorem dX0_winnersAt_33 : xd cX0_winnersAt 33 (.getfield 18) 3 36 := ⟨by decide +kernel, rfl⟩
theorem dX0_winnersAt_36 : xd cX0_winnersAt 36 (.iload_n 2) 1 37 := ⟨by decide +kernel, rfl⟩
theorem dX0_winnersAt_37 : xd cX0_winnersAt 37 .iaload 1 38 := ⟨by decide +kernel, rfl⟩
theorem dX0_winnersAt_38 : xj cX0_winnersAt 38 .goto 41 47 := ⟨9, by decide +kernel, rfl, by decide⟩
theorem dX0_winnersAt_41 : xd cX0_winnersAt 41 (.aload_n 0) 1 42 := ⟨by decide +kernel, rfl⟩
theorem dX0_winnersAt_42 : xd cX0_winnersAt 42 (.getfield 21) 3 45 := ⟨by decide +kernel, rfl⟩
theorem dX0_winnersAt_45 : xd cX0_winnersAt 45 (.iload_n 2) 1 46 := ⟨by decide +kernel, rfl⟩
theorem dX0_winnersAt_46 : xd cX0_winnersAt 46 .iaload 1 47 := ⟨by decide +kernel, rfl⟩
theorem dX0_winnersAt_47 : xd cX0_winnersAt 47 .ireturn 1 48 := ⟨by decide +kernel, rfl⟩

set_option maxRecDepth 100000 in
set_option maxHeartbeats 4000000 in
theorem ct_X0_winnersAt (l : Launch) (g : XG) (aC aS aL aO : Nat) (aV aCs aCl aCh aCw aCc aCb tot lat : Nat) (se sw : Int32) (cr th tw : Nat → Nat) (r d : Nat) (hd : d < 495) (hr : r ≤ 12) : Ct l g 1 0 0 yX0_winnersAt cX0_winnersAt 3 (some .int) [.ref aC, .int (nI r), .int (nI d)] [(aC, .inr (0, [.ref aS, .ref aL, .ref aV, .ref aO, .ref aCs, .ref aCl, .ref aCh, .ref aCw, .ref aCc, .ref aCb, .int (nI tot), .int (nI lat), .int se, .int sw])), (aCc, .inl (g.2.1 0, 495, .inl (nIf cr))), (aCh, .inl (g.2.1 0, 495, .inl (nIf th))), (aCw, .inl (g.2.1 0, 495, .inl (nIf tw)))] (xpi (nI (wnA cr th tw r d)) [(aC, .inr (0, [.ref aS, .ref aL, .ref aV, .ref aO, .ref aCs, .ref aCl, .ref aCh, .ref aCw, .ref aCc, .ref aCb, .int (nI tot), .int (nI lat), .int se, .int sw])), (aCc, .inl (g.2.1 0, 495, .inl (nIf cr))), (aCh, .inl (g.2.1 0, 495, .inl (nIf th))), (aCw, .inl (g.2.1 0, 495, .inl (nIf tw)))]) := by
  refine Ct.ofX (lv := [some (.ref aC), some (.int (nI r)), some (.int (nI d))]) (by decide) rfl (Nat.le_of_ble_eq_true rfl) (fun κ => ?_)
  generalize hQ : xQ κ g 0 0 _ = Q
  refine x_iload_n dX0_winnersAt_0 rfl ?_
  refine x_if_lt dX0_winnersAt_1 (fun c1 => ?_) (fun c1 => ?_)
  · have c1 : (nI d) < 0 := c1
    have c1n := (nI_ltI (a := d) (b := 0) (by omega) (by omega)).mp c1
    exact absurd c1n (by omega)
  · have c1 : ¬ ((nI d) < 0) := c1
    have c1n := mt (nI_ltI (a := d) (b := 0) (by omega) (by omega)).mpr c1
    refine x_iload_n dX0_winnersAt_4 rfl ?_
    refine x_sipush 495 dX0_winnersAt_5 (by decide) ?_
    refine x_icmp_lt dX0_winnersAt_8 (fun c8 => ?_) (fun c8 => ?_)
    · have c8 : (nI d) < 495 := c8
      have c8n := (nI_ltI (a := d) (b := 495) (by omega) (by omega)).mp c8
      refine x_iload_n dX0_winnersAt_13 rfl ?_
      refine x_iconst 4 dX0_winnersAt_14 (by decide) ?_
      have J15_4 : ∀ (v3 : Nat), v3 = (if (nI r) = 4 then cr d else ((if (nI r) = 3 then th d else tw d))) → Xs κ g 1 0 0 cX0_winnersAt yX0_winnersAt (some .int) Q 0 0 47 [some (.ref aC), some (.int (nI r)), some (.int (nI d))] [.int (nI v3)] [(aC, .inr (0, [.ref aS, .ref aL, .ref aV, .ref aO, .ref aCs, .ref aCl, .ref aCh, .ref aCw, .ref aCc, .ref aCb, .int (nI tot), .int (nI lat), .int se, .int sw])), (aCc, .inl (g.2.1 0, 495, .inl (nIf cr))), (aCh, .inl (g.2.1 0, 495, .inl (nIf th))), (aCw, .inl (g.2.1 0, 495, .inl (nIf tw)))] := by
        intro v3 ev3
        rw [← hQ]
        refine x_iret dX0_winnersAt_47 rfl (Nat.le_of_ble_eq_true rfl) (Nat.le_of_ble_eq_true rfl) ?_
        exact ⟨by simp only [ev3]; rfl, rfl⟩
      refine x_icmp_ne dX0_winnersAt_15 (fun c15 => ?_) (fun c15 => ?_)
      · have c15 : ¬ ((nI r) = 4) := c15
        have c15n := mt (nI_eq (a := r) (b := 4) (by omega) (by omega)).mpr c15
        refine x_iload_n dX0_winnersAt_27 rfl ?_
        refine x_iconst 3 dX0_winnersAt_28 (by decide) ?_
        have J29_6 : ∀ (v5 : Nat), v5 = (if (nI r) = 3 then th d else tw d) → Xs κ g 1 0 0 cX0_winnersAt yX0_winnersAt (some .int) Q 0 0 47 [some (.ref aC), some (.int (nI r)), some (.int (nI d))] [.int (nI v5)] [(aC, .inr (0, [.ref aS, .ref aL, .ref aV, .ref aO, .ref aCs, .ref aCl, .ref aCh, .ref aCw, .ref aCc, .ref aCb, .int (nI tot), .int (nI lat), .int se, .int sw])), (aCc, .inl (g.2.1 0, 495, .inl (nIf cr))), (aCh, .inl (g.2.1 0, 495, .inl (nIf th))), (aCw, .inl (g.2.1 0, 495, .inl (nIf tw)))] := by
          intro v5 ev5
          exact J15_4 v5 (by rw [if_neg c15]; try simp only [ev5])
        refine x_icmp_ne dX0_winnersAt_29 (fun c29 => ?_) (fun c29 => ?_)
        · have c29 : ¬ ((nI r) = 3) := c29
          have c29n := mt (nI_eq (a := r) (b := 3) (by omega) (by omega)).mpr c29
          refine x_aload_n dX0_winnersAt_41 rfl ?_
          refine x_get dX0_winnersAt_42 0 7 inX0 fl_X0_21 rfl rfl (by decide) rfl ?_
          refine x_iload_n dX0_winnersAt_45 rfl ?_
          refine x_iald dX0_winnersAt_46 3 d rfl (rfl) (by omega) (by decide) ?_
          exact J29_6 (tw d) (if_neg c29).symm
        · have c29 : (nI r) = 3 := c29
          have c29n := (nI_eq (a := r) (b := 3) (by omega) (by omega)).mp c29
          refine x_aload_n dX0_winnersAt_32 rfl ?_
          refine x_get dX0_winnersAt_33 0 6 inX0 fl_X0_18 rfl rfl (by decide) rfl ?_
          refine x_iload_n dX0_winnersAt_36 rfl ?_
          refine x_iald dX0_winnersAt_37 2 d rfl (rfl) (by omega) (by decide) ?_
          refine x_goto dX0_winnersAt_38 ?_
          exact J29_6 (th d) (if_pos c29).symm
      · have c15 : (nI r) = 4 := c15
        have c15n := (nI_eq (a := r) (b := 4) (by omega) (by omega)).mp c15
        refine x_aload_n dX0_winnersAt_18 rfl ?_
        refine x_get dX0_winnersAt_19 0 8 inX0 fl_X0_24 rfl rfl (by decide) rfl ?_
        refine x_iload_n dX0_winnersAt_22 rfl ?_
        refine x_iald dX0_winnersAt_23 1 d rfl (rfl) (by omega) (by decide) ?_
        refine x_goto dX0_winnersAt_24 ?_
        exact J15_4 (cr d) (if_pos c15).symm
    · have c8 : ¬ ((nI d) < 495) := c8
      have c8n := mt (nI_ltI (a := d) (b := 495) (by omega) (by omega)).mpr c8
      exact absurd c8n (by omega)

-- == X7_oneGets ==
theorem dX7_oneGets_0 : xd cX7_oneGets 0 (.iload_n 3) 1 1 := ⟨by decide +kernel, rfl⟩
theorem dX7_oneGets_1 : xd cX7_oneGets 1 .i2l 1 2 := ⟨by decide +kernel, rfl⟩
theorem dX7_oneGets_2 : xd cX7_oneGets 2 (.lload 4) 2 4 := ⟨by decide +kernel, rfl⟩
theorem dX7_oneGets_4 : xd cX7_oneGets 4 .ladd 1 5 := ⟨by decide +kernel, rfl⟩
theorem dX7_oneGets_5 : xd cX7_oneGets 5 (.lstore 6) 2 7 := ⟨by decide +kernel, rfl⟩
theorem dX7_oneGets_7 : xd cX7_oneGets 7 (.lload 6) 2 9 := ⟨by decide +kernel, rfl⟩
theorem dX7_oneGets_9 : xd cX7_oneGets 9 (.lconst 0) 1 10 := ⟨by decide +kernel, rfl⟩
theorem dX7_oneGets_10 : xd cX7_oneGets 10 .lcmp 1 11 := ⟨by decide +kernel, rfl⟩
theorem dX7_oneGets_11 : xj cX7_oneGets 11 (.ifCond .le) 14 28 := ⟨17, by decide +kernel, rfl, by decide⟩
theorem dX7_oneGets_14 : xd cX7_oneGets 14 (.aload_n 0) 1 15 := ⟨by decide +kernel, rfl⟩
theorem dX7_oneGets_15 : xd cX7_oneGets 15 (.getfield 19) 3 18 := ⟨by decide +kernel, rfl⟩
theorem dX7_oneGets_18 : xd cX7_oneGets 18 (.lload_n 1) 1 19 := ⟨by decide +kernel, rfl⟩
theorem dX7_oneGets_19 : xd cX7_oneGets 19 (.lload 6) 2 21 := ⟨by decide +kernel, rfl⟩
theorem dX7_oneGets_21 : xd cX7_oneGets 21 .ldiv 1 22 := ⟨by decide +kernel, rfl⟩
theorem dX7_oneGets_22 : xd cX7_oneGets 22 (.invokevirtual 72) 3 25 := ⟨by decide +kernel, rfl⟩
theorem dX7_oneGets_25 : xj cX7_oneGets 25 .goto 28 29 := ⟨4, by decide +kernel, rfl, by decide⟩
theorem dX7_oneGets_28 : xd cX7_oneGets 28 (.lconst 0) 1 29 := ⟨by decide +kernel, rfl⟩
theorem dX7_oneGets_29 : xd cX7_oneGets 29 .lreturn 1 30 := ⟨by decide +kernel, rfl⟩

set_option maxRecDepth 100000 in
set_option maxHeartbeats 4000000 in
theorem ct_X7_oneGets (l : Launch) (g : XG) (aW aS aL aC aO aWs aWt : Nat) (aSk aSm aSp aSt aSc aSr aSe gr br cs wk : Nat) (z : Int32) (ru : Nat → Nat) (part more : Int64) (w : Nat) : Ct l g 2 0 0 yX7_oneGets cX7_oneGets 8 (some .long) [.ref aW, .long part, .int (nI w), .long more] [(aW, .inr (7, [.ref aS, .ref aL, .ref aC, .ref aO, .ref aWs, .ref aWt])), (aS, .inr (6, [.ref aSk, .ref aSm, .ref aSp, .ref aSt, .ref aSc, .ref aSr, .ref aSe, .int (nI gr), .int (nI br), .int (nI cs), .int (nI wk), .int z])), (aSr, .inl (g.2.1 0, 8, .inl (nIf ru)))] (xpl (oneG ru part w more) [(aW, .inr (7, [.ref aS, .ref aL, .ref aC, .ref aO, .ref aWs, .ref aWt])), (aS, .inr (6, [.ref aSk, .ref aSm, .ref aSp, .ref aSt, .ref aSc, .ref aSr, .ref aSe, .int (nI gr), .int (nI br), .int (nI cs), .int (nI wk), .int z])), (aSr, .inl (g.2.1 0, 8, .inl (nIf ru)))]) := by
  refine Ct.ofX (lv := [some (.ref aW), some (.long part), none, some (.int (nI w)), some (.long more), none, none, none]) (by decide) rfl (Nat.le_of_ble_eq_true rfl) (fun κ => ?_)
  generalize hQ : xQ κ g 0 0 _ = Q
  refine x_iload_n dX7_oneGets_0 rfl ?_
  refine x_i2l dX7_oneGets_1 ?_
  refine x_lload dX7_oneGets_2 rfl ?_
  refine x_ladd dX7_oneGets_4 ?_
  refine x_lstore (lv' := [some (.ref aW), some (.long part), none, some (.int (nI w)), some (.long more), none, some (.long (((nI w).toInt64) + more)), none]) dX7_oneGets_5 (xlt rfl) rfl ?_
  refine x_lload dX7_oneGets_7 rfl ?_
  refine x_lconst 0 dX7_oneGets_9 (by decide) ?_
  refine x_lcmp dX7_oneGets_10 ?_
  have J11_2 : ∀ (v1 : Int64), v1 = (if (lg_cmp (((nI w).toInt64) + more) 0) ≤ 0 then 0 else taxL ru (part / (((nI w).toInt64) + more))) → Xs κ g 2 0 0 cX7_oneGets yX7_oneGets (some .long) Q 0 0 29 [some (.ref aW), some (.long part), none, some (.int (nI w)), some (.long more), none, some (.long (((nI w).toInt64) + more)), none] [.long v1] [(aW, .inr (7, [.ref aS, .ref aL, .ref aC, .ref aO, .ref aWs, .ref aWt])), (aS, .inr (6, [.ref aSk, .ref aSm, .ref aSp, .ref aSt, .ref aSc, .ref aSr, .ref aSe, .int (nI gr), .int (nI br), .int (nI cs), .int (nI wk), .int z])), (aSr, .inl (g.2.1 0, 8, .inl (nIf ru)))] := by
    intro v1 ev1
    rw [← hQ]
    refine x_lret dX7_oneGets_29 rfl (Nat.le_of_ble_eq_true rfl) (Nat.le_of_ble_eq_true rfl) ?_
    exact ⟨by simp only [ev1]; rfl, rfl⟩
  refine x_if_le dX7_oneGets_11 (fun c11 => ?_) (fun c11 => ?_)
  · have c11 : (lg_cmp (((nI w).toInt64) + more) 0) ≤ 0 := c11
    refine x_lconst 0 dX7_oneGets_28 (by decide) ?_
    exact J11_2 _ (if_pos c11).symm
  · have c11 : ¬ ((lg_cmp (((nI w).toInt64) + more) 0) ≤ 0) := c11
    refine x_aload_n dX7_oneGets_14 rfl ?_
    refine x_get dX7_oneGets_15 0 0 inX7 fl_X7_19 rfl rfl (by decide) rfl ?_
    refine x_lload_n dX7_oneGets_18 rfl ?_
    refine x_lload dX7_oneGets_19 rfl ?_
    refine x_ldiv dX7_oneGets_21 (lg_ne0 c11) ?_
    refine x_cVl0 dX7_oneGets_22 ml_X7_72 mX6_lessTax (ct_X6_lessTax κ.2.1 g aS aSk aSm aSp aSt aSc aSr aSe gr br cs wk z ru (part / (((nI w).toInt64) + more))) [1, 2] rfl rfl 1 rfl rfl rfl (Nat.le_of_ble_eq_true rfl) (by decide) (Nat.le_refl _) (Nat.le_refl _) ?_
    refine x_goto dX7_oneGets_25 ?_
    exact J11_2 _ (if_neg c11).symm

-- == X7_worthOf ==
theorem dX7_worthOf_0 : xd cX7_worthOf 0 (.iload_n 1) 1 1 := ⟨by decide +kernel, rfl⟩
theorem dX7_worthOf_1 : xj cX7_worthOf 1 (.ifCond .lt) 4 11 := ⟨10, by decide +kernel, rfl, by decide⟩
theorem dX7_worthOf_4 : xd cX7_worthOf 4 (.iload_n 1) 1 5 := ⟨by decide +kernel, rfl⟩
theorem dX7_worthOf_5 : xd cX7_worthOf 5 (.sipush 495) 3 8 := ⟨by decide +kernel, rfl⟩
theorem dX7_worthOf_8 : xj cX7_worthOf 8 (.if_icmp .lt) 11 13 := ⟨5, by decide +kernel, rfl, by decide⟩
theorem dX7_worthOf_11 : xd cX7_worthOf 11 (.lconst 0) 1 12 := ⟨by decide +kernel, rfl⟩
theorem dX7_worthOf_12 : xd cX7_worthOf 12 .lreturn 1 13 := ⟨by decide +kernel, rfl⟩
theorem dX7_worthOf_13 : xd cX7_worthOf 13 (.aload_n 0) 1 14 := ⟨by decide +kernel, rfl⟩
theorem dX7_worthOf_14 : xd cX7_worthOf 14 (.getfield 23) 3 17 := ⟨by decide +kernel, rfl⟩
theorem dX7_worthOf_17 : xd cX7_worthOf 17 (.getfield 35) 3 20 := ⟨by decide +kernel, rfl⟩
theorem dX7_worthOf_20 : xd cX7_worthOf 20 (.iload_n 1) 1 21 := ⟨by decide +kernel, rfl⟩
theorem dX7_worthOf_21 : xd cX7_worthOf 21 .iaload 1 22 := ⟨by decide +kernel, rfl⟩
theorem dX7_worthOf_22 : xd cX7_worthOf 22 (.istore_n 3) 1 23 := ⟨by decide +kernel, rfl⟩
theorem dX7_worthOf_23 : xd cX7_worthOf 23 (.aload_n 0) 1 24 := ⟨by decide +kernel, rfl⟩
theorem dX7_worthOf_24 : xd cX7_worthOf 24 (.getfield 19) 3 27 := ⟨by decide +kernel, rfl⟩
theorem dX7_worthOf_27 : xd cX7_worthOf 27 (.iload_n 2) 1 28 := ⟨by decide +kernel, rfl⟩
theorem dX7_worthOf_28 : xd cX7_worthOf 28 .i2l 1 29 := ⟨by decide +kernel, rfl⟩
theorem dX7_worthOf_29 : xd cX7_worthOf 29 (.aload_n 0) 1 30 := ⟨by decide +kernel, rfl⟩
theorem dX7_worthOf_30 : xd cX7_worthOf 30 (.getfield 27) 3 33 := ⟨by decide +kernel, rfl⟩
theorem dX7_worthOf_33 : xd cX7_worthOf 33 (.getfield 40) 3 36 := ⟨by decide +kernel, rfl⟩
theorem dX7_worthOf_36 : xd cX7_worthOf 36 .i2l 1 37 := ⟨by decide +kernel, rfl⟩
theorem dX7_worthOf_37 : xd cX7_worthOf 37 (.invokevirtual 46) 3 40 := ⟨by decide +kernel, rfl⟩
theorem dX7_worthOf_40 : xd cX7_worthOf 40 (.lstore 4) 2 42 := ⟨by decide +kernel, rfl⟩
theorem dX7_worthOf_42 : xd cX7_worthOf 42 (.aload_n 0) 1 43 := ⟨by decide +kernel, rfl⟩
theorem dX7_worthOf_43 : xd cX7_worthOf 43 (.getfield 19) 3 46 := ⟨by decide +kernel, rfl⟩
theorem dX7_worthOf_46 : xd cX7_worthOf 46 (.iconst 4) 1 47 := ⟨by decide +kernel, rfl⟩
theorem dX7_worthOf_47 : xd cX7_worthOf 47 (.lload 4) 2 49 := ⟨by decide +kernel, rfl⟩
theorem dX7_worthOf_49 : xd cX7_worthOf 49 (.invokevirtual 52) 3 52 := ⟨by decide +kernel, rfl⟩
theorem dX7_worthOf_52 : xd cX7_worthOf 52 (.lstore 6) 2 54 := ⟨by decide +kernel, rfl⟩
theorem dX7_worthOf_54 : xd cX7_worthOf 54 (.aload_n 0) 1 55 := ⟨by decide +kernel, rfl⟩
theorem dX7_worthOf_55 : xd cX7_worthOf 55 (.getfield 19) 3 58 := ⟨by decide +kernel, rfl⟩
theorem dX7_worthOf_58 : xd cX7_worthOf 58 (.iconst 3) 1 59 := ⟨by decide +kernel, rfl⟩
theorem dX7_worthOf_59 : xd cX7_worthOf 59 (.lload 4) 2 61 := ⟨by decide +kernel, rfl⟩
theorem dX7_worthOf_61 : xd cX7_worthOf 61 (.invokevirtual 52) 3 64 := ⟨by decide +kernel, rfl⟩
theorem dX7_worthOf_64 : xd cX7_worthOf 64 (.lstore 8) 2 66 := ⟨by decide +kernel, rfl⟩
theorem dX7_worthOf_66 : xd cX7_worthOf 66 (.aload_n 0) 1 67 := ⟨by decide +kernel, rfl⟩
theorem dX7_worthOf_67 : xd cX7_worthOf 67 (.getfield 19) 3 70 := ⟨by decide +kernel, rfl⟩
theorem dX7_worthOf_70 : xd cX7_worthOf 70 (.iconst 2) 1 71 := ⟨by decide +kernel, rfl⟩
theorem dX7_worthOf_71 : xd cX7_worthOf 71 (.lload 4) 2 73 := ⟨by decide +kernel, rfl⟩
theorem dX7_worthOf_73 : xd cX7_worthOf 73 (.invokevirtual 52) 3 76 := ⟨by decide +kernel, rfl⟩
theorem dX7_worthOf_76 : xd cX7_worthOf 76 (.lstore 10) 2 78 := ⟨by decide +kernel, rfl⟩
theorem dX7_worthOf_78 : xd cX7_worthOf 78 (.lconst 0) 1 79 := ⟨by decide +kernel, rfl⟩
theorem dX7_worthOf_79 : xd cX7_worthOf 79 (.lstore 12) 2 81 := ⟨by decide +kernel, rfl⟩
theorem dX7_worthOf_81 : xd cX7_worthOf 81 (.iconst 0) 1 82 := ⟨by decide +kernel, rfl⟩
theorem dX7_worthOf_82 : xd cX7_worthOf 82 (.istore 14) 2 84 := ⟨by decide +kernel, rfl⟩
theorem dX7_worthOf_84 : xd cX7_worthOf 84 (.iload 14) 2 86 := ⟨by decide +kernel, rfl⟩
theorem dX7_worthOf_86 : xd cX7_worthOf 86 (.sipush 495) 3 89 := ⟨by decide +kernel, rfl⟩
theorem dX7_worthOf_89 : xj cX7_worthOf 89 (.if_icmp .ge) 92 170 := ⟨81, by decide +kernel, rfl, by decide⟩
theorem dX7_worthOf_92 : xd cX7_worthOf 92 (.iload_n 3) 1 93 := ⟨by decide +kernel, rfl⟩
theorem dX7_worthOf_93 : xd cX7_worthOf 93 (.aload_n 0) 1 94 := ⟨by decide +kernel, rfl⟩
theorem dX7_worthOf_94 : xd cX7_worthOf 94 (.getfield 23) 3 97 := ⟨by decide +kernel, rfl⟩
theorem dX7_worthOf_97 : xd cX7_worthOf 97 (.getfield 35) 3 100 := ⟨by decide +kernel, rfl⟩
theorem dX7_worthOf_100 : xd cX7_worthOf 100 (.iload 14) 2 102 := ⟨by decide +kernel, rfl⟩
theorem dX7_worthOf_102 : xd cX7_worthOf 102 .iaload 1 103 := ⟨by decide +kernel, rfl⟩
theorem dX7_worthOf_103 : xd cX7_worthOf 103 .iand 1 104 := ⟨by decide +kernel, rfl⟩
theorem dX7_worthOf_104 : xd cX7_worthOf 104 (.invokestatic 56) 3 107 := ⟨by decide +kernel, rfl⟩
theorem dX7_worthOf_107 : xd cX7_worthOf 107 (.istore 15) 2 109 := ⟨by decide +kernel, rfl⟩
theorem dX7_worthOf_109 : xd cX7_worthOf 109 (.iload 15) 2 111 := ⟨by decide +kernel, rfl⟩
theorem dX7_worthOf_111 : xd cX7_worthOf 111 (.iconst 2) 1 112 := ⟨by decide +kernel, rfl⟩
theorem dX7_worthOf_112 : xj cX7_worthOf 112 (.if_icmp .lt) 115 164 := ⟨52, by decide +kernel, rfl, by decide⟩
theorem dX7_worthOf_115 : xd cX7_worthOf 115 (.iload 15) 2 117 := ⟨by decide +kernel, rfl⟩
theorem dX7_worthOf_117 : xd cX7_worthOf 117 (.iconst 4) 1 118 := ⟨by decide +kernel, rfl⟩
theorem dX7_worthOf_118 : xj cX7_worthOf 118 (.if_icmp .ne) 121 126 := ⟨8, by decide +kernel, rfl, by decide⟩
theorem dX7_worthOf_121 : xd cX7_worthOf 121 (.lload 6) 2 123 := ⟨by decide +kernel, rfl⟩
theorem dX7_worthOf_123 : xj cX7_worthOf 123 .goto 126 139 := ⟨16, by decide +kernel, rfl, by decide⟩
theorem dX7_worthOf_126 : xd cX7_worthOf 126 (.iload 15) 2 128 := ⟨by decide +kernel, rfl⟩
theorem dX7_worthOf_128 : xd cX7_worthOf 128 (.iconst 3) 1 129 := ⟨by decide +kernel, rfl⟩
theorem dX7_worthOf_129 : xj cX7_worthOf 129 (.if_icmp .ne) 132 137 := ⟨8, by decide +kernel, rfl, by decide⟩
theorem dX7_worthOf_132 : xd cX7_worthOf 132 (.lload 8) 2 134 := ⟨by decide +kernel, rfl⟩
theorem dX7_worthOf_134 : xj cX7_worthOf 134 .goto 137 139 := ⟨5, by decide +kernel, rfl, by decide⟩
theorem dX7_worthOf_137 : xd cX7_worthOf 137 (.lload 10) 2 139 := ⟨by decide +kernel, rfl⟩
theorem dX7_worthOf_139 : xd cX7_worthOf 139 (.lstore 16) 2 141 := ⟨by decide +kernel, rfl⟩
theorem dX7_worthOf_141 : xd cX7_worthOf 141 (.lload 12) 2 143 := ⟨by decide +kernel, rfl⟩
theorem dX7_worthOf_143 : xd cX7_worthOf 143 (.aload_n 0) 1 144 := ⟨by decide +kernel, rfl⟩
theorem dX7_worthOf_144 : xd cX7_worthOf 144 (.lload 16) 2 146 := ⟨by decide +kernel, rfl⟩
theorem dX7_worthOf_146 : xd cX7_worthOf 146 (.aload_n 0) 1 147 := ⟨by decide +kernel, rfl⟩
theorem dX7_worthOf_147 : xd cX7_worthOf 147 (.getfield 27) 3 150 := ⟨by decide +kernel, rfl⟩
theorem dX7_worthOf_150 : xd cX7_worthOf 150 (.iload 15) 2 152 := ⟨by decide +kernel, rfl⟩
theorem dX7_worthOf_152 : xd cX7_worthOf 152 (.iload 14) 2 154 := ⟨by decide +kernel, rfl⟩
theorem dX7_worthOf_154 : xd cX7_worthOf 154 (.invokevirtual 62) 3 157 := ⟨by decide +kernel, rfl⟩
theorem dX7_worthOf_157 : xd cX7_worthOf 157 (.lconst 1) 1 158 := ⟨by decide +kernel, rfl⟩
theorem dX7_worthOf_158 : xd cX7_worthOf 158 (.invokevirtual 66) 3 161 := ⟨by decide +kernel, rfl⟩
theorem dX7_worthOf_161 : xd cX7_worthOf 161 .ladd 1 162 := ⟨by decide +kernel, rfl⟩
theorem dX7_worthOf_162 : xd cX7_worthOf 162 (.lstore 12) 2 164 := ⟨by decide +kernel, rfl⟩
theorem dX7_worthOf_164 : xd cX7_worthOf 164 (.iinc 14 1) 3 167 := ⟨by decide +kernel, rfl⟩
theorem dX7_worthOf_167 : xj cX7_worthOf 167 .goto 170 84 := ⟨(-83), by decide +kernel, rfl, by decide⟩
theorem dX7_worthOf_170 : xd cX7_worthOf 170 (.lload 12) 2 172 := ⟨by decide +kernel, rfl⟩
theorem dX7_worthOf_172 : xd cX7_worthOf 172 (.ldc2_w 70) 3 175 := ⟨by decide +kernel, rfl⟩
theorem dX7_worthOf_175 : xd cX7_worthOf 175 .ldiv 1 176 := ⟨by decide +kernel, rfl⟩
theorem dX7_worthOf_176 : xd cX7_worthOf 176 .lreturn 1 177 := ⟨by decide +kernel, rfl⟩

set_option maxRecDepth 100000 in
set_option maxHeartbeats 4000000 in
theorem ct_X7_worthOf (l : Launch) (g : XG) (aW aS aL aC aO aWs aWt : Nat) (aSk aSm aSp aSt aSc aSr aSe gr br cs wk : Nat) (z : Int32) (ru : Nat → Nat) (aV aCs aCl aCh aCw aCc aCb tot lat : Nat) (se sw : Int32) (cr th tw : Nat → Nat) (aLb aLp : Nat) (p pt : Nat) (hp : p < 495) : Ct l g 3 0 0 yX7_worthOf cX7_worthOf 18 (some .long) [.ref aW, .int (nI p), .int (nI pt)] [(aW, .inr (7, [.ref aS, .ref aL, .ref aC, .ref aO, .ref aWs, .ref aWt])), (aS, .inr (6, [.ref aSk, .ref aSm, .ref aSp, .ref aSt, .ref aSc, .ref aSr, .ref aSe, .int (nI gr), .int (nI br), .int (nI cs), .int (nI wk), .int z])), (aSr, .inl (g.2.1 0, 8, .inl (nIf ru))), (aC, .inr (0, [.ref aS, .ref aL, .ref aV, .ref aO, .ref aCs, .ref aCl, .ref aCh, .ref aCw, .ref aCc, .ref aCb, .int (nI tot), .int (nI lat), .int se, .int sw])), (aCc, .inl (g.2.1 0, 495, .inl (nIf cr))), (aCh, .inl (g.2.1 0, 495, .inl (nIf th))), (aCw, .inl (g.2.1 0, 495, .inl (nIf tw))), (aL, .inr (5, [.ref aLb, .ref aLp])), (aLb, .inl (g.2.1 0, 495, .inl (nIf rowB)))] (xpl (worthL ru tot cr th tw p pt) [(aW, .inr (7, [.ref aS, .ref aL, .ref aC, .ref aO, .ref aWs, .ref aWt])), (aS, .inr (6, [.ref aSk, .ref aSm, .ref aSp, .ref aSt, .ref aSc, .ref aSr, .ref aSe, .int (nI gr), .int (nI br), .int (nI cs), .int (nI wk), .int z])), (aSr, .inl (g.2.1 0, 8, .inl (nIf ru))), (aC, .inr (0, [.ref aS, .ref aL, .ref aV, .ref aO, .ref aCs, .ref aCl, .ref aCh, .ref aCw, .ref aCc, .ref aCb, .int (nI tot), .int (nI lat), .int se, .int sw])), (aCc, .inl (g.2.1 0, 495, .inl (nIf cr))), (aCh, .inl (g.2.1 0, 495, .inl (nIf th))), (aCw, .inl (g.2.1 0, 495, .inl (nIf tw))), (aL, .inr (5, [.ref aLb, .ref aLp])), (aLb, .inl (g.2.1 0, 495, .inl (nIf rowB)))]) := by
  refine Ct.ofX (lv := [some (.ref aW), some (.int (nI p)), some (.int (nI pt)), none, none, none, none, none, none, none, none, none, none, none, none, none, none, none]) (by decide) rfl (Nat.le_of_ble_eq_true rfl) (fun κ => ?_)
  generalize hQ : xQ κ g 0 0 _ = Q
  refine x_iload_n dX7_worthOf_0 rfl ?_
  refine x_if_lt dX7_worthOf_1 (fun c1 => ?_) (fun c1 => ?_)
  · have c1 : (nI p) < 0 := c1
    have c1n := (nI_ltI (a := p) (b := 0) (by omega) (by omega)).mp c1
    exact absurd c1n (by omega)
  · have c1 : ¬ ((nI p) < 0) := c1
    have c1n := mt (nI_ltI (a := p) (b := 0) (by omega) (by omega)).mpr c1
    refine x_iload_n dX7_worthOf_4 rfl ?_
    refine x_sipush 495 dX7_worthOf_5 (by decide) ?_
    refine x_icmp_lt dX7_worthOf_8 (fun c8 => ?_) (fun c8 => ?_)
    · have c8 : (nI p) < 495 := c8
      have c8n := (nI_ltI (a := p) (b := 495) (by omega) (by omega)).mp c8
      refine x_aload_n dX7_worthOf_13 rfl ?_
      refine x_get dX7_worthOf_14 0 1 inX7 fl_X7_23 rfl rfl (by decide) rfl ?_
      refine x_get dX7_worthOf_17 7 0 inX5 fl_X7_35 rfl rfl (by decide) rfl ?_
      refine x_iload_n dX7_worthOf_20 rfl ?_
      refine x_iald dX7_worthOf_21 8 p rfl (rfl) (by omega) (by decide) ?_
      refine x_istore_n (lv' := [some (.ref aW), some (.int (nI p)), some (.int (nI pt)), some (.int (nI (rowB p))), none, none, none, none, none, none, none, none, none, none, none, none, none, none]) dX7_worthOf_22 (xlt rfl) rfl ?_
      refine x_aload_n dX7_worthOf_23 rfl ?_
      refine x_get dX7_worthOf_24 0 0 inX7 fl_X7_19 rfl rfl (by decide) rfl ?_
      refine x_iload_n dX7_worthOf_27 rfl ?_
      refine x_i2l dX7_worthOf_28 ?_
      refine x_aload_n dX7_worthOf_29 rfl ?_
      refine x_get dX7_worthOf_30 0 2 inX7 fl_X7_27 rfl rfl (by decide) rfl ?_
      refine x_get dX7_worthOf_33 3 10 inX0 fl_X7_40 rfl rfl (by decide) rfl ?_
      refine x_i2l dX7_worthOf_36 ?_
      refine x_cVl0 dX7_worthOf_37 ml_X7_46 mX6_potWithIn (ct_X6_potWithIn κ.2.1 g aS aSk aSm aSp aSt aSc aSr aSe gr br cs wk z ru ((nI pt).toInt64) ((nI tot).toInt64)) [1, 2] rfl rfl 1 rfl rfl rfl (Nat.le_of_ble_eq_true rfl) (by decide) (Nat.le_refl _) (Nat.le_refl _) ?_
      refine x_lstore (lv' := [some (.ref aW), some (.int (nI p)), some (.int (nI pt)), some (.int (nI (rowB p))), some (.long (potL ru ((nI pt).toInt64) ((nI tot).toInt64))), none, none, none, none, none, none, none, none, none, none, none, none, none]) dX7_worthOf_40 (xlt rfl) rfl ?_
      refine x_aload_n dX7_worthOf_42 rfl ?_
      refine x_get dX7_worthOf_43 0 0 inX7 fl_X7_19 rfl rfl (by decide) rfl ?_
      refine x_iconst 4 dX7_worthOf_46 (by decide) ?_
      refine x_lload dX7_worthOf_47 rfl ?_
      refine x_cVl0 dX7_worthOf_49 ml_X7_52 mX6_rankPart (ct_X6_rankPart κ.2.1 g aS aSk aSm aSp aSt aSc aSr aSe gr br cs wk z ru 4 (potL ru ((nI pt).toInt64) ((nI tot).toInt64)) (by decide)) [1, 2] rfl rfl 1 rfl rfl rfl (Nat.le_of_ble_eq_true rfl) (by decide) (Nat.le_refl _) (Nat.le_refl _) ?_
      refine x_lstore (lv' := [some (.ref aW), some (.int (nI p)), some (.int (nI pt)), some (.int (nI (rowB p))), some (.long (potL ru ((nI pt).toInt64) ((nI tot).toInt64))), none, some (.long (partL ru 4 (potL ru ((nI pt).toInt64) ((nI tot).toInt64)))), none, none, none, none, none, none, none, none, none, none, none]) dX7_worthOf_52 (xlt rfl) rfl ?_
      refine x_aload_n dX7_worthOf_54 rfl ?_
      refine x_get dX7_worthOf_55 0 0 inX7 fl_X7_19 rfl rfl (by decide) rfl ?_
      refine x_iconst 3 dX7_worthOf_58 (by decide) ?_
      refine x_lload dX7_worthOf_59 rfl ?_
      refine x_cVl0 dX7_worthOf_61 ml_X7_52 mX6_rankPart (ct_X6_rankPart κ.2.1 g aS aSk aSm aSp aSt aSc aSr aSe gr br cs wk z ru 3 (potL ru ((nI pt).toInt64) ((nI tot).toInt64)) (by decide)) [1, 2] rfl rfl 1 rfl rfl rfl (Nat.le_of_ble_eq_true rfl) (by decide) (Nat.le_refl _) (Nat.le_refl _) ?_
      refine x_lstore (lv' := [some (.ref aW), some (.int (nI p)), some (.int (nI pt)), some (.int (nI (rowB p))), some (.long (potL ru ((nI pt).toInt64) ((nI tot).toInt64))), none, some (.long (partL ru 4 (potL ru ((nI pt).toInt64) ((nI tot).toInt64)))), none, some (.long (partL ru 3 (potL ru ((nI pt).toInt64) ((nI tot).toInt64)))), none, none, none, none, none, none, none, none, none]) dX7_worthOf_64 (xlt rfl) rfl ?_
      refine x_aload_n dX7_worthOf_66 rfl ?_
      refine x_get dX7_worthOf_67 0 0 inX7 fl_X7_19 rfl rfl (by decide) rfl ?_
      refine x_iconst 2 dX7_worthOf_70 (by decide) ?_
      refine x_lload dX7_worthOf_71 rfl ?_
      refine x_cVl0 dX7_worthOf_73 ml_X7_52 mX6_rankPart (ct_X6_rankPart κ.2.1 g aS aSk aSm aSp aSt aSc aSr aSe gr br cs wk z ru 2 (potL ru ((nI pt).toInt64) ((nI tot).toInt64)) (by decide)) [1, 2] rfl rfl 1 rfl rfl rfl (Nat.le_of_ble_eq_true rfl) (by decide) (Nat.le_refl _) (Nat.le_refl _) ?_
      refine x_lstore (lv' := [some (.ref aW), some (.int (nI p)), some (.int (nI pt)), some (.int (nI (rowB p))), some (.long (potL ru ((nI pt).toInt64) ((nI tot).toInt64))), none, some (.long (partL ru 4 (potL ru ((nI pt).toInt64) ((nI tot).toInt64)))), none, some (.long (partL ru 3 (potL ru ((nI pt).toInt64) ((nI tot).toInt64)))), none, some (.long (partL ru 2 (potL ru ((nI pt).toInt64) ((nI tot).toInt64)))), none, none, none, none, none, none, none]) dX7_worthOf_76 (xlt rfl) rfl ?_
      refine x_lconst 0 dX7_worthOf_78 (by decide) ?_
      refine x_lstore (lv' := [some (.ref aW), some (.int (nI p)), some (.int (nI pt)), some (.int (nI (rowB p))), some (.long (potL ru ((nI pt).toInt64) ((nI tot).toInt64))), none, some (.long (partL ru 4 (potL ru ((nI pt).toInt64) ((nI tot).toInt64)))), none, some (.long (partL ru 3 (potL ru ((nI pt).toInt64) ((nI tot).toInt64)))), none, some (.long (partL ru 2 (potL ru ((nI pt).toInt64) ((nI tot).toInt64)))), none, some (.long 0), none, none, none, none, none]) dX7_worthOf_79 (xlt rfl) rfl ?_
      refine x_iconst 0 dX7_worthOf_81 (by decide) ?_
      refine x_istore (lv' := [some (.ref aW), some (.int (nI p)), some (.int (nI pt)), some (.int (nI (rowB p))), some (.long (potL ru ((nI pt).toInt64) ((nI tot).toInt64))), none, some (.long (partL ru 4 (potL ru ((nI pt).toInt64) ((nI tot).toInt64)))), none, some (.long (partL ru 3 (potL ru ((nI pt).toInt64) ((nI tot).toInt64)))), none, some (.long (partL ru 2 (potL ru ((nI pt).toInt64) ((nI tot).toInt64)))), none, some (.long 0), none, some (.int 0), none, none, none]) dX7_worthOf_82 (xlt rfl) rfl ?_
      have L84_1 : ∀ (i : Nat), i ≤ 495 → ∀ (al : Int64), al = worthS ru (potL ru (nI pt).toInt64 (nI tot).toInt64) cr th tw p i → Xs κ g 3 0 0 cX7_worthOf yX7_worthOf (some .long) Q 0 0 84 [some (.ref aW), some (.int (nI p)), some (.int (nI pt)), some (.int (nI (rowB p))), some (.long (potL ru ((nI pt).toInt64) ((nI tot).toInt64))), none, some (.long (partL ru 4 (potL ru ((nI pt).toInt64) ((nI tot).toInt64)))), none, some (.long (partL ru 3 (potL ru ((nI pt).toInt64) ((nI tot).toInt64)))), none, some (.long (partL ru 2 (potL ru ((nI pt).toInt64) ((nI tot).toInt64)))), none, some (.long al), none, some (.int (nI i)), none, none, none] [] [(aW, .inr (7, [.ref aS, .ref aL, .ref aC, .ref aO, .ref aWs, .ref aWt])), (aS, .inr (6, [.ref aSk, .ref aSm, .ref aSp, .ref aSt, .ref aSc, .ref aSr, .ref aSe, .int (nI gr), .int (nI br), .int (nI cs), .int (nI wk), .int z])), (aSr, .inl (g.2.1 0, 8, .inl (nIf ru))), (aC, .inr (0, [.ref aS, .ref aL, .ref aV, .ref aO, .ref aCs, .ref aCl, .ref aCh, .ref aCw, .ref aCc, .ref aCb, .int (nI tot), .int (nI lat), .int se, .int sw])), (aCc, .inl (g.2.1 0, 495, .inl (nIf cr))), (aCh, .inl (g.2.1 0, 495, .inl (nIf th))), (aCw, .inl (g.2.1 0, 495, .inl (nIf tw))), (aL, .inr (5, [.ref aLb, .ref aLp])), (aLb, .inl (g.2.1 0, 495, .inl (nIf rowB)))] := by
        refine upTo 495 (fun i hi84 ih84 => ?_)
        intro al eal
        subst eal
        have hpl := popN_le (rowB p &&& rowB i)
        refine x_iload dX7_worthOf_84 rfl ?_
        refine x_sipush 495 dX7_worthOf_86 (by decide) ?_
        refine x_icmp_ge dX7_worthOf_89 (fun c89 => ?_) (fun c89 => ?_)
        · have c89 : 495 ≤ (nI i) := c89
          have c89n := (nI_leI (a := 495) (b := i) (by omega) (by omega)).mp c89
          have hxc89 : i = 495 := by omega
          try rw [hxc89]
          refine x_lload dX7_worthOf_170 rfl ?_
          refine x_ldc2 dX7_worthOf_172 kl_X7_70 ?_
          refine x_ldiv dX7_worthOf_175 (by decide) ?_
          rw [← hQ]
          refine x_lret dX7_worthOf_176 rfl (Nat.le_of_ble_eq_true rfl) (Nat.le_of_ble_eq_true rfl) ?_
          exact ⟨rfl, rfl⟩
        · have c89 : ¬ (495 ≤ (nI i)) := c89
          have c89n := mt (nI_leI (a := 495) (b := i) (by omega) (by omega)).mpr c89
          refine x_iload_n dX7_worthOf_92 rfl ?_
          refine x_aload_n dX7_worthOf_93 rfl ?_
          refine x_get dX7_worthOf_94 0 1 inX7 fl_X7_23 rfl rfl (by decide) rfl ?_
          refine x_get dX7_worthOf_97 7 0 inX5 fl_X7_35 rfl rfl (by decide) rfl ?_
          refine x_iload dX7_worthOf_100 rfl ?_
          refine x_iald dX7_worthOf_102 8 i rfl (rfl) (by omega) (by decide) ?_
          refine x_iand dX7_worthOf_103 ?_
          refine x_rei (nI ((rowB p) &&& (rowB i))) (nI_iand (rowB p) (rowB i)) ?_
          refine x_cSi dX7_worthOf_104 ml_X7_56 mJ6_bitCount_0f7a4 (ct_bitCount_n κ.2.1 g ((rowB p) &&& (rowB i)) (by first | exact and_lt (by decide) | exact and_ltl (rowB_lt _) | exact rowB_lt _ | omega)) rfl (Nat.le_of_ble_eq_true rfl) (by decide) (Nat.le_refl _) (Nat.le_refl _) ?_
          refine x_istore (lv' := [some (.ref aW), some (.int (nI p)), some (.int (nI pt)), some (.int (nI (rowB p))), some (.long (potL ru ((nI pt).toInt64) ((nI tot).toInt64))), none, some (.long (partL ru 4 (potL ru ((nI pt).toInt64) ((nI tot).toInt64)))), none, some (.long (partL ru 3 (potL ru ((nI pt).toInt64) ((nI tot).toInt64)))), none, some (.long (partL ru 2 (potL ru ((nI pt).toInt64) ((nI tot).toInt64)))), none, some (.long (worthS ru (potL ru (nI pt).toInt64 (nI tot).toInt64) cr th tw p i)), none, some (.int (nI i)), some (.int (nI (popN ((rowB p) &&& (rowB i))))), none, none]) dX7_worthOf_107 (xlt rfl) rfl ?_
          refine x_iload dX7_worthOf_109 rfl ?_
          refine x_iconst 2 dX7_worthOf_111 (by decide) ?_
          have J112_10 : ∀ (v9 : Int64), v9 = (if (nI (popN ((rowB p) &&& (rowB i)))) < 2 then worthS ru (potL ru (nI pt).toInt64 (nI tot).toInt64) cr th tw p i else ((worthS ru (potL ru (nI pt).toInt64 (nI tot).toInt64) cr th tw p i) + (oneG ru ((if (nI (popN ((rowB p) &&& (rowB i)))) = 4 then partL ru 4 (potL ru ((nI pt).toInt64) ((nI tot).toInt64)) else ((if (nI (popN ((rowB p) &&& (rowB i)))) = 3 then partL ru 3 (potL ru ((nI pt).toInt64) ((nI tot).toInt64)) else partL ru 2 (potL ru ((nI pt).toInt64) ((nI tot).toInt64)))))) (wnA cr th tw (popN ((rowB p) &&& (rowB i))) i) 1))) → Xs κ g 3 0 0 cX7_worthOf yX7_worthOf (some .long) Q 0 0 164 [some (.ref aW), some (.int (nI p)), some (.int (nI pt)), some (.int (nI (rowB p))), some (.long (potL ru ((nI pt).toInt64) ((nI tot).toInt64))), none, some (.long (partL ru 4 (potL ru ((nI pt).toInt64) ((nI tot).toInt64)))), none, some (.long (partL ru 3 (potL ru ((nI pt).toInt64) ((nI tot).toInt64)))), none, some (.long (partL ru 2 (potL ru ((nI pt).toInt64) ((nI tot).toInt64)))), none, some (.long v9), none, some (.int (nI i)), some (.int (nI (popN ((rowB p) &&& (rowB i))))), none, none] [] [(aW, .inr (7, [.ref aS, .ref aL, .ref aC, .ref aO, .ref aWs, .ref aWt])), (aS, .inr (6, [.ref aSk, .ref aSm, .ref aSp, .ref aSt, .ref aSc, .ref aSr, .ref aSe, .int (nI gr), .int (nI br), .int (nI cs), .int (nI wk), .int z])), (aSr, .inl (g.2.1 0, 8, .inl (nIf ru))), (aC, .inr (0, [.ref aS, .ref aL, .ref aV, .ref aO, .ref aCs, .ref aCl, .ref aCh, .ref aCw, .ref aCc, .ref aCb, .int (nI tot), .int (nI lat), .int se, .int sw])), (aCc, .inl (g.2.1 0, 495, .inl (nIf cr))), (aCh, .inl (g.2.1 0, 495, .inl (nIf th))), (aCw, .inl (g.2.1 0, 495, .inl (nIf tw))), (aL, .inr (5, [.ref aLb, .ref aLp])), (aLb, .inl (g.2.1 0, 495, .inl (nIf rowB)))] := by
            intro v9 ev9
            refine x_iinc (lv' := [some (.ref aW), some (.int (nI p)), some (.int (nI pt)), some (.int (nI (rowB p))), some (.long (potL ru ((nI pt).toInt64) ((nI tot).toInt64))), none, some (.long (partL ru 4 (potL ru ((nI pt).toInt64) ((nI tot).toInt64)))), none, some (.long (partL ru 3 (potL ru ((nI pt).toInt64) ((nI tot).toInt64)))), none, some (.long (partL ru 2 (potL ru ((nI pt).toInt64) ((nI tot).toInt64)))), none, some (.long v9), none, some (.int (nI (i + 1))), some (.int (nI (popN ((rowB p) &&& (rowB i))))), none, none]) (nI (i + 1)) dX7_worthOf_164 rfl (nI_addc i 1 rfl) rfl ?_
            refine x_goto dX7_worthOf_167 ?_
            refine x_fgt (lv' := [some (.ref aW), some (.int (nI p)), some (.int (nI pt)), some (.int (nI (rowB p))), some (.long (potL ru ((nI pt).toInt64) ((nI tot).toInt64))), none, some (.long (partL ru 4 (potL ru ((nI pt).toInt64) ((nI tot).toInt64)))), none, some (.long (partL ru 3 (potL ru ((nI pt).toInt64) ((nI tot).toInt64)))), none, some (.long (partL ru 2 (potL ru ((nI pt).toInt64) ((nI tot).toInt64)))), none, some (.long v9), none, some (.int (nI (i + 1))), none, none, none]) ⟨Or.inr rfl, Or.inr rfl, Or.inr rfl, Or.inr rfl, Or.inr rfl, Or.inl rfl, Or.inr rfl, Or.inl rfl, Or.inr rfl, Or.inl rfl, Or.inr rfl, Or.inl rfl, Or.inr rfl, Or.inl rfl, Or.inr rfl, Or.inl rfl, Or.inl rfl, Or.inl rfl, trivial⟩ ?_
            exact ih84 (by omega) _ (by simp only [ev9]; exact acc_if _ _)
          refine x_icmp_lt dX7_worthOf_112 (fun c112 => ?_) (fun c112 => ?_)
          · have c112 : (nI (popN ((rowB p) &&& (rowB i)))) < 2 := c112
            have c112n := (nI_ltI (a := (popN ((rowB p) &&& (rowB i)))) (b := 2) (by omega) (by omega)).mp c112
            exact J112_10 _ (if_pos c112).symm
          · have c112 : ¬ ((nI (popN ((rowB p) &&& (rowB i)))) < 2) := c112
            have c112n := mt (nI_ltI (a := (popN ((rowB p) &&& (rowB i)))) (b := 2) (by omega) (by omega)).mpr c112
            refine x_iload dX7_worthOf_115 rfl ?_
            refine x_iconst 4 dX7_worthOf_117 (by decide) ?_
            have J118_14 : ∀ (v13 : Int64), v13 = (if (nI (popN ((rowB p) &&& (rowB i)))) = 4 then partL ru 4 (potL ru ((nI pt).toInt64) ((nI tot).toInt64)) else ((if (nI (popN ((rowB p) &&& (rowB i)))) = 3 then partL ru 3 (potL ru ((nI pt).toInt64) ((nI tot).toInt64)) else partL ru 2 (potL ru ((nI pt).toInt64) ((nI tot).toInt64))))) → Xs κ g 3 0 0 cX7_worthOf yX7_worthOf (some .long) Q 0 0 139 [some (.ref aW), some (.int (nI p)), some (.int (nI pt)), some (.int (nI (rowB p))), some (.long (potL ru ((nI pt).toInt64) ((nI tot).toInt64))), none, some (.long (partL ru 4 (potL ru ((nI pt).toInt64) ((nI tot).toInt64)))), none, some (.long (partL ru 3 (potL ru ((nI pt).toInt64) ((nI tot).toInt64)))), none, some (.long (partL ru 2 (potL ru ((nI pt).toInt64) ((nI tot).toInt64)))), none, some (.long (worthS ru (potL ru (nI pt).toInt64 (nI tot).toInt64) cr th tw p i)), none, some (.int (nI i)), some (.int (nI (popN ((rowB p) &&& (rowB i))))), none, none] [.long v13] [(aW, .inr (7, [.ref aS, .ref aL, .ref aC, .ref aO, .ref aWs, .ref aWt])), (aS, .inr (6, [.ref aSk, .ref aSm, .ref aSp, .ref aSt, .ref aSc, .ref aSr, .ref aSe, .int (nI gr), .int (nI br), .int (nI cs), .int (nI wk), .int z])), (aSr, .inl (g.2.1 0, 8, .inl (nIf ru))), (aC, .inr (0, [.ref aS, .ref aL, .ref aV, .ref aO, .ref aCs, .ref aCl, .ref aCh, .ref aCw, .ref aCc, .ref aCb, .int (nI tot), .int (nI lat), .int se, .int sw])), (aCc, .inl (g.2.1 0, 495, .inl (nIf cr))), (aCh, .inl (g.2.1 0, 495, .inl (nIf th))), (aCw, .inl (g.2.1 0, 495, .inl (nIf tw))), (aL, .inr (5, [.ref aLb, .ref aLp])), (aLb, .inl (g.2.1 0, 495, .inl (nIf rowB)))] := by
              intro v13 ev13
              refine x_lstore (lv' := [some (.ref aW), some (.int (nI p)), some (.int (nI pt)), some (.int (nI (rowB p))), some (.long (potL ru ((nI pt).toInt64) ((nI tot).toInt64))), none, some (.long (partL ru 4 (potL ru ((nI pt).toInt64) ((nI tot).toInt64)))), none, some (.long (partL ru 3 (potL ru ((nI pt).toInt64) ((nI tot).toInt64)))), none, some (.long (partL ru 2 (potL ru ((nI pt).toInt64) ((nI tot).toInt64)))), none, some (.long (worthS ru (potL ru (nI pt).toInt64 (nI tot).toInt64) cr th tw p i)), none, some (.int (nI i)), some (.int (nI (popN ((rowB p) &&& (rowB i))))), some (.long v13), none]) dX7_worthOf_139 (xlt rfl) rfl ?_
              refine x_lload dX7_worthOf_141 rfl ?_
              refine x_aload_n dX7_worthOf_143 rfl ?_
              refine x_lload dX7_worthOf_144 rfl ?_
              refine x_aload_n dX7_worthOf_146 rfl ?_
              refine x_get dX7_worthOf_147 0 2 inX7 fl_X7_27 rfl rfl (by decide) rfl ?_
              refine x_iload dX7_worthOf_150 rfl ?_
              refine x_iload dX7_worthOf_152 rfl ?_
              refine x_cVi0 dX7_worthOf_154 ml_X7_62 mX0_winnersAt (ct_X0_winnersAt κ.2.1 g aC aS aL aO aV aCs aCl aCh aCw aCc aCb tot lat se sw cr th tw (popN ((rowB p) &&& (rowB i))) i (by omega) (by omega)) [3, 4, 5, 6] rfl rfl 3 rfl rfl rfl (Nat.le_of_ble_eq_true rfl) (by decide) (Nat.le_refl _) (Nat.le_refl _) ?_
              refine x_lconst 1 dX7_worthOf_157 (by decide) ?_
              refine x_cVl0 dX7_worthOf_158 ml_X7_66 mX7_oneGets (ct_X7_oneGets κ.2.1 g aW aS aL aC aO aWs aWt aSk aSm aSp aSt aSc aSr aSe gr br cs wk z ru v13 1 (wnA cr th tw (popN ((rowB p) &&& (rowB i))) i)) [0, 1, 2] rfl rfl 0 rfl rfl rfl (Nat.le_of_ble_eq_true rfl) (by decide) (Nat.le_refl _) (Nat.le_refl _) ?_
              refine x_ladd dX7_worthOf_161 ?_
              refine x_nml (fun v15 ev15 => ?_)
              refine x_lstore (lv' := [some (.ref aW), some (.int (nI p)), some (.int (nI pt)), some (.int (nI (rowB p))), some (.long (potL ru ((nI pt).toInt64) ((nI tot).toInt64))), none, some (.long (partL ru 4 (potL ru ((nI pt).toInt64) ((nI tot).toInt64)))), none, some (.long (partL ru 3 (potL ru ((nI pt).toInt64) ((nI tot).toInt64)))), none, some (.long (partL ru 2 (potL ru ((nI pt).toInt64) ((nI tot).toInt64)))), none, some (.long v15), none, some (.int (nI i)), some (.int (nI (popN ((rowB p) &&& (rowB i))))), some (.long v13), none]) dX7_worthOf_162 (xlt rfl) rfl ?_
              refine x_fgt (lv' := [some (.ref aW), some (.int (nI p)), some (.int (nI pt)), some (.int (nI (rowB p))), some (.long (potL ru ((nI pt).toInt64) ((nI tot).toInt64))), none, some (.long (partL ru 4 (potL ru ((nI pt).toInt64) ((nI tot).toInt64)))), none, some (.long (partL ru 3 (potL ru ((nI pt).toInt64) ((nI tot).toInt64)))), none, some (.long (partL ru 2 (potL ru ((nI pt).toInt64) ((nI tot).toInt64)))), none, some (.long v15), none, some (.int (nI i)), some (.int (nI (popN ((rowB p) &&& (rowB i))))), none, none]) ⟨Or.inr rfl, Or.inr rfl, Or.inr rfl, Or.inr rfl, Or.inr rfl, Or.inl rfl, Or.inr rfl, Or.inl rfl, Or.inr rfl, Or.inl rfl, Or.inr rfl, Or.inl rfl, Or.inr rfl, Or.inl rfl, Or.inr rfl, Or.inr rfl, Or.inl rfl, Or.inl rfl, trivial⟩ ?_
              exact J112_10 _ (by rw [if_neg c112]; try simp only [ev15, ev13])
            refine x_icmp_ne dX7_worthOf_118 (fun c118 => ?_) (fun c118 => ?_)
            · have c118 : ¬ ((nI (popN ((rowB p) &&& (rowB i)))) = 4) := c118
              have c118n := mt (nI_eq (a := (popN ((rowB p) &&& (rowB i)))) (b := 4) (by omega) (by omega)).mpr c118
              refine x_iload dX7_worthOf_126 rfl ?_
              refine x_iconst 3 dX7_worthOf_128 (by decide) ?_
              have J129_17 : ∀ (v16 : Int64), v16 = (if (nI (popN ((rowB p) &&& (rowB i)))) = 3 then partL ru 3 (potL ru ((nI pt).toInt64) ((nI tot).toInt64)) else partL ru 2 (potL ru ((nI pt).toInt64) ((nI tot).toInt64))) → Xs κ g 3 0 0 cX7_worthOf yX7_worthOf (some .long) Q 0 0 139 [some (.ref aW), some (.int (nI p)), some (.int (nI pt)), some (.int (nI (rowB p))), some (.long (potL ru ((nI pt).toInt64) ((nI tot).toInt64))), none, some (.long (partL ru 4 (potL ru ((nI pt).toInt64) ((nI tot).toInt64)))), none, some (.long (partL ru 3 (potL ru ((nI pt).toInt64) ((nI tot).toInt64)))), none, some (.long (partL ru 2 (potL ru ((nI pt).toInt64) ((nI tot).toInt64)))), none, some (.long (worthS ru (potL ru (nI pt).toInt64 (nI tot).toInt64) cr th tw p i)), none, some (.int (nI i)), some (.int (nI (popN ((rowB p) &&& (rowB i))))), none, none] [.long v16] [(aW, .inr (7, [.ref aS, .ref aL, .ref aC, .ref aO, .ref aWs, .ref aWt])), (aS, .inr (6, [.ref aSk, .ref aSm, .ref aSp, .ref aSt, .ref aSc, .ref aSr, .ref aSe, .int (nI gr), .int (nI br), .int (nI cs), .int (nI wk), .int z])), (aSr, .inl (g.2.1 0, 8, .inl (nIf ru))), (aC, .inr (0, [.ref aS, .ref aL, .ref aV, .ref aO, .ref aCs, .ref aCl, .ref aCh, .ref aCw, .ref aCc, .ref aCb, .int (nI tot), .int (nI lat), .int se, .int sw])), (aCc, .inl (g.2.1 0, 495, .inl (nIf cr))), (aCh, .inl (g.2.1 0, 495, .inl (nIf th))), (aCw, .inl (g.2.1 0, 495, .inl (nIf tw))), (aL, .inr (5, [.ref aLb, .ref aLp])), (aLb, .inl (g.2.1 0, 495, .inl (nIf rowB)))] := by
                intro v16 ev16
                exact J118_14 _ (by rw [if_neg c118]; try simp only [ev16])
              refine x_icmp_ne dX7_worthOf_129 (fun c129 => ?_) (fun c129 => ?_)
              · have c129 : ¬ ((nI (popN ((rowB p) &&& (rowB i)))) = 3) := c129
                have c129n := mt (nI_eq (a := (popN ((rowB p) &&& (rowB i)))) (b := 3) (by omega) (by omega)).mpr c129
                refine x_lload dX7_worthOf_137 rfl ?_
                exact J129_17 _ (if_neg c129).symm
              · have c129 : (nI (popN ((rowB p) &&& (rowB i)))) = 3 := c129
                have c129n := (nI_eq (a := (popN ((rowB p) &&& (rowB i)))) (b := 3) (by omega) (by omega)).mp c129
                refine x_lload dX7_worthOf_132 rfl ?_
                refine x_goto dX7_worthOf_134 ?_
                exact J129_17 _ (if_pos c129).symm
            · have c118 : (nI (popN ((rowB p) &&& (rowB i)))) = 4 := c118
              have c118n := (nI_eq (a := (popN ((rowB p) &&& (rowB i)))) (b := 4) (by omega) (by omega)).mp c118
              refine x_lload dX7_worthOf_121 rfl ?_
              refine x_goto dX7_worthOf_123 ?_
              exact J118_14 _ (if_pos c118).symm
      exact L84_1 0 (Nat.zero_le _) _ (by rfl)
    · have c8 : ¬ ((nI p) < 495) := c8
      have c8n := mt (nI_ltI (a := p) (b := 495) (by omega) (by omega)).mpr c8
      exact absurd c8n (by omega)

-- == X7_countUpTo ==
theorem dX7_countUpTo_0 : xd cX7_countUpTo 0 (.iconst 0) 1 1 := ⟨by decide +kernel, rfl⟩
theorem dX7_countUpTo_1 : xd cX7_countUpTo 1 (.istore_n 2) 1 2 := ⟨by decide +kernel, rfl⟩
theorem dX7_countUpTo_2 : xd cX7_countUpTo 2 (.iconst 0) 1 3 := ⟨by decide +kernel, rfl⟩
theorem dX7_countUpTo_3 : xd cX7_countUpTo 3 (.istore_n 3) 1 4 := ⟨by decide +kernel, rfl⟩
theorem dX7_countUpTo_4 : xd cX7_countUpTo 4 (.iload_n 3) 1 5 := ⟨by decide +kernel, rfl⟩
theorem dX7_countUpTo_5 : xd cX7_countUpTo 5 (.sipush 495) 3 8 := ⟨by decide +kernel, rfl⟩
theorem dX7_countUpTo_8 : xj cX7_countUpTo 8 (.if_icmp .ge) 11 38 := ⟨30, by decide +kernel, rfl, by decide⟩
theorem dX7_countUpTo_11 : xd cX7_countUpTo 11 (.iload_n 2) 1 12 := ⟨by decide +kernel, rfl⟩
theorem dX7_countUpTo_12 : xd cX7_countUpTo 12 (.aload_n 0) 1 13 := ⟨by decide +kernel, rfl⟩
theorem dX7_countUpTo_13 : xd cX7_countUpTo 13 (.getfield 27) 3 16 := ⟨by decide +kernel, rfl⟩
theorem dX7_countUpTo_16 : xd cX7_countUpTo 16 (.getfield 111) 3 19 := ⟨by decide +kernel, rfl⟩
theorem dX7_countUpTo_19 : xd cX7_countUpTo 19 (.iload_n 3) 1 20 := ⟨by decide +kernel, rfl⟩
theorem dX7_countUpTo_20 : xd cX7_countUpTo 20 .iaload 1 21 := ⟨by decide +kernel, rfl⟩
theorem dX7_countUpTo_21 : xd cX7_countUpTo 21 (.iload_n 1) 1 22 := ⟨by decide +kernel, rfl⟩
theorem dX7_countUpTo_22 : xj cX7_countUpTo 22 (.if_icmp .gt) 25 29 := ⟨7, by decide +kernel, rfl, by decide⟩
theorem dX7_countUpTo_25 : xd cX7_countUpTo 25 (.iconst 1) 1 26 := ⟨by decide +kernel, rfl⟩
theorem dX7_countUpTo_26 : xj cX7_countUpTo 26 .goto 29 30 := ⟨4, by decide +kernel, rfl, by decide⟩
theorem dX7_countUpTo_29 : xd cX7_countUpTo 29 (.iconst 0) 1 30 := ⟨by decide +kernel, rfl⟩
theorem dX7_countUpTo_30 : xd cX7_countUpTo 30 .iadd 1 31 := ⟨by decide +kernel, rfl⟩
theorem dX7_countUpTo_31 : xd cX7_countUpTo 31 (.istore_n 2) 1 32 := ⟨by decide +kernel, rfl⟩
theorem dX7_countUpTo_32 : xd cX7_countUpTo 32 (.iinc 3 1) 3 35 := ⟨by decide +kernel, rfl⟩
theorem dX7_countUpTo_35 : xj cX7_countUpTo 35 .goto 38 4 := ⟨(-31), by decide +kernel, rfl, by decide⟩
theorem dX7_countUpTo_38 : xd cX7_countUpTo 38 (.iload_n 2) 1 39 := ⟨by decide +kernel, rfl⟩
theorem dX7_countUpTo_39 : xd cX7_countUpTo 39 .ireturn 1 40 := ⟨by decide +kernel, rfl⟩

set_option maxRecDepth 100000 in
set_option maxHeartbeats 4000000 in
theorem ct_X7_countUpTo (l : Launch) (g : XG) (aW aS aL aC aO aWs aWt : Nat) (aV aCs aCl aCh aCw aCc aCb tot lat : Nat) (se sw : Int32) (cr : Nat → Nat) (most : Int32) : Ct l g 1 0 0 yX7_countUpTo cX7_countUpTo 4 (some .int) [.ref aW, .int most] [(aW, .inr (7, [.ref aS, .ref aL, .ref aC, .ref aO, .ref aWs, .ref aWt])), (aC, .inr (0, [.ref aS, .ref aL, .ref aV, .ref aO, .ref aCs, .ref aCl, .ref aCh, .ref aCw, .ref aCc, .ref aCb, .int (nI tot), .int (nI lat), .int se, .int sw])), (aCc, .inl (g.2.1 0, 495, .inl (nIf cr)))] (xpi (nI (cntU cr most 495)) [(aW, .inr (7, [.ref aS, .ref aL, .ref aC, .ref aO, .ref aWs, .ref aWt])), (aC, .inr (0, [.ref aS, .ref aL, .ref aV, .ref aO, .ref aCs, .ref aCl, .ref aCh, .ref aCw, .ref aCc, .ref aCb, .int (nI tot), .int (nI lat), .int se, .int sw])), (aCc, .inl (g.2.1 0, 495, .inl (nIf cr)))]) := by
  refine Ct.ofX (lv := [some (.ref aW), some (.int most), none, none]) (by decide) rfl (Nat.le_of_ble_eq_true rfl) (fun κ => ?_)
  generalize hQ : xQ κ g 0 0 _ = Q
  refine x_iconst 0 dX7_countUpTo_0 (by decide) ?_
  refine x_istore_n (lv' := [some (.ref aW), some (.int most), some (.int 0), none]) dX7_countUpTo_1 (xlt rfl) rfl ?_
  refine x_iconst 0 dX7_countUpTo_2 (by decide) ?_
  refine x_istore_n (lv' := [some (.ref aW), some (.int most), some (.int 0), some (.int 0)]) dX7_countUpTo_3 (xlt rfl) rfl ?_
  have L4_1 : ∀ (i : Nat), i ≤ 495 → ∀ (rw_ : Nat), rw_ = cntU cr most i → Xs κ g 1 0 0 cX7_countUpTo yX7_countUpTo (some .int) Q 0 0 4 [some (.ref aW), some (.int most), some (.int (nI rw_)), some (.int (nI i))] [] [(aW, .inr (7, [.ref aS, .ref aL, .ref aC, .ref aO, .ref aWs, .ref aWt])), (aC, .inr (0, [.ref aS, .ref aL, .ref aV, .ref aO, .ref aCs, .ref aCl, .ref aCh, .ref aCw, .ref aCc, .ref aCb, .int (nI tot), .int (nI lat), .int se, .int sw])), (aCc, .inl (g.2.1 0, 495, .inl (nIf cr)))] := by
    refine upTo 495 (fun i hi4 ih4 => ?_)
    intro rw_ erw_
    subst erw_
    refine x_iload_n dX7_countUpTo_4 rfl ?_
    refine x_sipush 495 dX7_countUpTo_5 (by decide) ?_
    refine x_icmp_ge dX7_countUpTo_8 (fun c8 => ?_) (fun c8 => ?_)
    · have c8 : 495 ≤ (nI i) := c8
      have c8n := (nI_leI (a := 495) (b := i) (by omega) (by omega)).mp c8
      have hxc8 : i = 495 := by omega
      try rw [hxc8]
      refine x_iload_n dX7_countUpTo_38 rfl ?_
      rw [← hQ]
      refine x_iret dX7_countUpTo_39 rfl (Nat.le_of_ble_eq_true rfl) (Nat.le_of_ble_eq_true rfl) ?_
      exact ⟨rfl, rfl⟩
    · have c8 : ¬ (495 ≤ (nI i)) := c8
      have c8n := mt (nI_leI (a := 495) (b := i) (by omega) (by omega)).mpr c8
      refine x_iload_n dX7_countUpTo_11 rfl ?_
      refine x_aload_n dX7_countUpTo_12 rfl ?_
      refine x_get dX7_countUpTo_13 0 2 inX7 fl_X7_27 rfl rfl (by decide) rfl ?_
      refine x_get dX7_countUpTo_16 1 8 inX0 fl_X7_111 rfl rfl (by decide) rfl ?_
      refine x_iload_n dX7_countUpTo_19 rfl ?_
      refine x_iald dX7_countUpTo_20 2 i rfl (rfl) (by omega) (by decide) ?_
      refine x_iload_n dX7_countUpTo_21 rfl ?_
      have J22_3 : ∀ (v2 : Int32), v2 = (if most < (nI (cr i)) then 0 else 1) → Xs κ g 1 0 0 cX7_countUpTo yX7_countUpTo (some .int) Q 0 0 30 [some (.ref aW), some (.int most), some (.int (nI ((cntU cr most i)))), some (.int (nI i))] [.int v2, .int (nI ((cntU cr most i)))] [(aW, .inr (7, [.ref aS, .ref aL, .ref aC, .ref aO, .ref aWs, .ref aWt])), (aC, .inr (0, [.ref aS, .ref aL, .ref aV, .ref aO, .ref aCs, .ref aCl, .ref aCh, .ref aCw, .ref aCc, .ref aCb, .int (nI tot), .int (nI lat), .int se, .int sw])), (aCc, .inl (g.2.1 0, 495, .inl (nIf cr)))] := by
        intro v2 ev2
        refine x_rei (nI (if most < nI (cr i) then 0 else 1)) (by simp only [ev2]; split <;> rfl) ?_
        refine x_iadd dX7_countUpTo_30 ?_
        refine x_rei (nI ((cntU cr most i) + (if most < nI (cr i) then 0 else 1))) (nI_iadd (cntU cr most i) (if most < nI (cr i) then 0 else 1)) ?_
        refine x_istore_n (lv' := [some (.ref aW), some (.int most), some (.int (nI ((cntU cr most i) + (if most < nI (cr i) then 0 else 1)))), some (.int (nI i))]) dX7_countUpTo_31 (xlt rfl) rfl ?_
        refine x_iinc (lv' := [some (.ref aW), some (.int most), some (.int (nI ((cntU cr most i) + (if most < nI (cr i) then 0 else 1)))), some (.int (nI (i + 1)))]) (nI (i + 1)) dX7_countUpTo_32 rfl (nI_addc i 1 rfl) rfl ?_
        refine x_goto dX7_countUpTo_35 ?_
        exact ih4 (by omega) ((cntU cr most i) + (if most < nI (cr i) then 0 else 1)) (by rfl)
      refine x_icmp_gt dX7_countUpTo_22 (fun c22 => ?_) (fun c22 => ?_)
      · have c22 : most < (nI (cr i)) := c22
        refine x_iconst 0 dX7_countUpTo_29 (by decide) ?_
        exact J22_3 _ (if_pos c22).symm
      · have c22 : ¬ (most < (nI (cr i))) := c22
        refine x_iconst 1 dX7_countUpTo_25 (by decide) ?_
        refine x_goto dX7_countUpTo_26 ?_
        exact J22_3 _ (if_neg c22).symm
  exact L4_1 0 (Nat.zero_le _) 0 (by rfl)

-- == X7_leastTaken ==
theorem dX7_leastTaken_0 : xd cX7_leastTaken 0 (.iconst 0) 1 1 := ⟨by decide +kernel, rfl⟩
theorem dX7_leastTaken_1 : xd cX7_leastTaken 1 (.istore_n 1) 1 2 := ⟨by decide +kernel, rfl⟩
theorem dX7_leastTaken_2 : xd cX7_leastTaken 2 (.iconst 1) 1 3 := ⟨by decide +kernel, rfl⟩
theorem dX7_leastTaken_3 : xd cX7_leastTaken 3 (.istore_n 2) 1 4 := ⟨by decide +kernel, rfl⟩
theorem dX7_leastTaken_4 : xd cX7_leastTaken 4 (.iload_n 2) 1 5 := ⟨by decide +kernel, rfl⟩
theorem dX7_leastTaken_5 : xd cX7_leastTaken 5 (.sipush 495) 3 8 := ⟨by decide +kernel, rfl⟩
theorem dX7_leastTaken_8 : xj cX7_leastTaken 8 (.if_icmp .ge) 11 34 := ⟨26, by decide +kernel, rfl, by decide⟩
theorem dX7_leastTaken_11 : xd cX7_leastTaken 11 (.aload_n 0) 1 12 := ⟨by decide +kernel, rfl⟩
theorem dX7_leastTaken_12 : xd cX7_leastTaken 12 (.getfield 15) 3 15 := ⟨by decide +kernel, rfl⟩
theorem dX7_leastTaken_15 : xd cX7_leastTaken 15 (.iload_n 2) 1 16 := ⟨by decide +kernel, rfl⟩
theorem dX7_leastTaken_16 : xd cX7_leastTaken 16 .iaload 1 17 := ⟨by decide +kernel, rfl⟩
theorem dX7_leastTaken_17 : xd cX7_leastTaken 17 (.aload_n 0) 1 18 := ⟨by decide +kernel, rfl⟩
theorem dX7_leastTaken_18 : xd cX7_leastTaken 18 (.getfield 15) 3 21 := ⟨by decide +kernel, rfl⟩
theorem dX7_leastTaken_21 : xd cX7_leastTaken 21 (.iload_n 1) 1 22 := ⟨by decide +kernel, rfl⟩
theorem dX7_leastTaken_22 : xd cX7_leastTaken 22 .iaload 1 23 := ⟨by decide +kernel, rfl⟩
theorem dX7_leastTaken_23 : xj cX7_leastTaken 23 (.if_icmp .ge) 26 28 := ⟨5, by decide +kernel, rfl, by decide⟩
theorem dX7_leastTaken_26 : xd cX7_leastTaken 26 (.iload_n 2) 1 27 := ⟨by decide +kernel, rfl⟩
theorem dX7_leastTaken_27 : xd cX7_leastTaken 27 (.istore_n 1) 1 28 := ⟨by decide +kernel, rfl⟩
theorem dX7_leastTaken_28 : xd cX7_leastTaken 28 (.iinc 2 1) 3 31 := ⟨by decide +kernel, rfl⟩
theorem dX7_leastTaken_31 : xj cX7_leastTaken 31 .goto 34 4 := ⟨(-27), by decide +kernel, rfl, by decide⟩
theorem dX7_leastTaken_34 : xd cX7_leastTaken 34 (.iload_n 1) 1 35 := ⟨by decide +kernel, rfl⟩
theorem dX7_leastTaken_35 : xd cX7_leastTaken 35 .ireturn 1 36 := ⟨by decide +kernel, rfl⟩

set_option maxRecDepth 100000 in
set_option maxHeartbeats 4000000 in
theorem ct_X7_leastTaken (l : Launch) (g : XG) (aW aS aL aC aO aWs aWt : Nat) (tk : Nat → Nat) : Ct l g 1 0 0 yX7_leastTaken cX7_leastTaken 3 (some .int) [.ref aW] [(aW, .inr (7, [.ref aS, .ref aL, .ref aC, .ref aO, .ref aWs, .ref aWt])), (aWt, .inl (g.2.1 0, 495, .inl (nIf tk)))] (xpi (nI (lsT tk 495)) [(aW, .inr (7, [.ref aS, .ref aL, .ref aC, .ref aO, .ref aWs, .ref aWt])), (aWt, .inl (g.2.1 0, 495, .inl (nIf tk)))]) := by
  refine Ct.ofX (lv := [some (.ref aW), none, none]) (by decide) rfl (Nat.le_of_ble_eq_true rfl) (fun κ => ?_)
  generalize hQ : xQ κ g 0 0 _ = Q
  refine x_iconst 0 dX7_leastTaken_0 (by decide) ?_
  refine x_istore_n (lv' := [some (.ref aW), some (.int 0), none]) dX7_leastTaken_1 (xlt rfl) rfl ?_
  refine x_iconst 1 dX7_leastTaken_2 (by decide) ?_
  refine x_istore_n (lv' := [some (.ref aW), some (.int 0), some (.int 1)]) dX7_leastTaken_3 (xlt rfl) rfl ?_
  have L4_1 : ∀ (i : Nat), i ≤ 495 → ∀ (ls : Nat), ls = lsT tk i → Xs κ g 1 0 0 cX7_leastTaken yX7_leastTaken (some .int) Q 0 0 4 [some (.ref aW), some (.int (nI ls)), some (.int (nI i))] [] [(aW, .inr (7, [.ref aS, .ref aL, .ref aC, .ref aO, .ref aWs, .ref aWt])), (aWt, .inl (g.2.1 0, 495, .inl (nIf tk)))] := by
    refine upTo 495 (fun i hi4 ih4 => ?_)
    intro ls els
    subst els
    have hls := lsT_lt tk (N := 495) (i := i) (by decide) (by omega)
    refine x_iload_n dX7_leastTaken_4 rfl ?_
    refine x_sipush 495 dX7_leastTaken_5 (by decide) ?_
    refine x_icmp_ge dX7_leastTaken_8 (fun c8 => ?_) (fun c8 => ?_)
    · have c8 : 495 ≤ (nI i) := c8
      have c8n := (nI_leI (a := 495) (b := i) (by omega) (by omega)).mp c8
      have hxc8 : i = 495 := by omega
      try rw [hxc8]
      refine x_iload_n dX7_leastTaken_34 rfl ?_
      rw [← hQ]
      refine x_iret dX7_leastTaken_35 rfl (Nat.le_of_ble_eq_true rfl) (Nat.le_of_ble_eq_true rfl) ?_
      exact ⟨rfl, rfl⟩
    · have c8 : ¬ (495 ≤ (nI i)) := c8
      have c8n := mt (nI_leI (a := 495) (b := i) (by omega) (by omega)).mpr c8
      refine x_aload_n dX7_leastTaken_11 rfl ?_
      refine x_get dX7_leastTaken_12 0 5 inX7 fl_X7_15 rfl rfl (by decide) rfl ?_
      refine x_iload_n dX7_leastTaken_15 rfl ?_
      refine x_iald dX7_leastTaken_16 1 i rfl (rfl) (by omega) (by decide) ?_
      refine x_aload_n dX7_leastTaken_17 rfl ?_
      refine x_get dX7_leastTaken_18 0 5 inX7 fl_X7_15 rfl rfl (by decide) rfl ?_
      refine x_iload_n dX7_leastTaken_21 rfl ?_
      refine x_iald dX7_leastTaken_22 1 (lsT tk i) rfl (rfl) (by omega) (by decide) ?_
      have J23_3 : ∀ (v2 : Nat), v2 = (if (nI (tk (lsT tk i))) ≤ (nI (tk i)) then (lsT tk i) else i) → Xs κ g 1 0 0 cX7_leastTaken yX7_leastTaken (some .int) Q 0 0 28 [some (.ref aW), some (.int (nI v2)), some (.int (nI i))] [] [(aW, .inr (7, [.ref aS, .ref aL, .ref aC, .ref aO, .ref aWs, .ref aWt])), (aWt, .inl (g.2.1 0, 495, .inl (nIf tk)))] := by
        intro v2 ev2
        refine x_iinc (lv' := [some (.ref aW), some (.int (nI v2)), some (.int (nI (i + 1)))]) (nI (i + 1)) dX7_leastTaken_28 rfl (nI_addc i 1 rfl) rfl ?_
        refine x_goto dX7_leastTaken_31 ?_
        exact ih4 (by omega) v2 (by simp only [ev2]; rfl)
      refine x_icmp_ge dX7_leastTaken_23 (fun c23 => ?_) (fun c23 => ?_)
      · have c23 : (nI (tk (lsT tk i))) ≤ (nI (tk i)) := c23
        exact J23_3 (lsT tk i) (if_pos c23).symm
      · have c23 : ¬ ((nI (tk (lsT tk i))) ≤ (nI (tk i))) := c23
        refine x_iload_n dX7_leastTaken_26 rfl ?_
        refine x_istore_n (lv' := [some (.ref aW), some (.int (nI i)), some (.int (nI i))]) dX7_leastTaken_27 (xlt rfl) rfl ?_
        exact J23_3 i (if_neg c23).symm
  exact L4_1 1 (by omega) 0 (by simp [lsT])

-- == X7_leastPot ==
theorem dX7_leastPot_0 : xd cX7_leastPot 0 (.aload_n 0) 1 1 := ⟨by decide +kernel, rfl⟩
theorem dX7_leastPot_1 : xd cX7_leastPot 1 (.getfield 19) 3 4 := ⟨by decide +kernel, rfl⟩
theorem dX7_leastPot_4 : xd cX7_leastPot 4 (.getfield 82) 3 7 := ⟨by decide +kernel, rfl⟩
theorem dX7_leastPot_7 : xd cX7_leastPot 7 (.iconst 0) 1 8 := ⟨by decide +kernel, rfl⟩
theorem dX7_leastPot_8 : xd cX7_leastPot 8 .iaload 1 9 := ⟨by decide +kernel, rfl⟩
theorem dX7_leastPot_9 : xd cX7_leastPot 9 (.istore_n 2) 1 10 := ⟨by decide +kernel, rfl⟩
theorem dX7_leastPot_10 : xd cX7_leastPot 10 (.aload_n 0) 1 11 := ⟨by decide +kernel, rfl⟩
theorem dX7_leastPot_11 : xd cX7_leastPot 11 (.iload_n 1) 1 12 := ⟨by decide +kernel, rfl⟩
theorem dX7_leastPot_12 : xd cX7_leastPot 12 (.ldc 97) 2 14 := ⟨by decide +kernel, rfl⟩
theorem dX7_leastPot_14 : xd cX7_leastPot 14 (.invokevirtual 98) 3 17 := ⟨by decide +kernel, rfl⟩
theorem dX7_leastPot_17 : xd cX7_leastPot 17 (.iload_n 2) 1 18 := ⟨by decide +kernel, rfl⟩
theorem dX7_leastPot_18 : xd cX7_leastPot 18 .i2l 1 19 := ⟨by decide +kernel, rfl⟩
theorem dX7_leastPot_19 : xd cX7_leastPot 19 .lcmp 1 20 := ⟨by decide +kernel, rfl⟩
theorem dX7_leastPot_20 : xj cX7_leastPot 20 (.ifCond .ge) 23 25 := ⟨5, by decide +kernel, rfl, by decide⟩
theorem dX7_leastPot_23 : xd cX7_leastPot 23 (.iconst (-1)) 1 24 := ⟨by decide +kernel, rfl⟩
theorem dX7_leastPot_24 : xd cX7_leastPot 24 .ireturn 1 25 := ⟨by decide +kernel, rfl⟩
theorem dX7_leastPot_25 : xd cX7_leastPot 25 (.iconst 0) 1 26 := ⟨by decide +kernel, rfl⟩
theorem dX7_leastPot_26 : xd cX7_leastPot 26 (.istore_n 3) 1 27 := ⟨by decide +kernel, rfl⟩
theorem dX7_leastPot_27 : xd cX7_leastPot 27 (.ldc 97) 2 29 := ⟨by decide +kernel, rfl⟩
theorem dX7_leastPot_29 : xd cX7_leastPot 29 (.istore 4) 2 31 := ⟨by decide +kernel, rfl⟩
theorem dX7_leastPot_31 : xd cX7_leastPot 31 (.iconst 0) 1 32 := ⟨by decide +kernel, rfl⟩
theorem dX7_leastPot_32 : xd cX7_leastPot 32 (.istore 5) 2 34 := ⟨by decide +kernel, rfl⟩
theorem dX7_leastPot_34 : xd cX7_leastPot 34 (.iload 5) 2 36 := ⟨by decide +kernel, rfl⟩
theorem dX7_leastPot_36 : xd cX7_leastPot 36 (.bipush 32) 2 38 := ⟨by decide +kernel, rfl⟩
theorem dX7_leastPot_38 : xj cX7_leastPot 38 (.if_icmp .ge) 41 86 := ⟨48, by decide +kernel, rfl, by decide⟩
theorem dX7_leastPot_41 : xd cX7_leastPot 41 (.iload_n 3) 1 42 := ⟨by decide +kernel, rfl⟩
theorem dX7_leastPot_42 : xd cX7_leastPot 42 (.iload 4) 2 44 := ⟨by decide +kernel, rfl⟩
theorem dX7_leastPot_44 : xj cX7_leastPot 44 (.if_icmp .ge) 47 86 := ⟨42, by decide +kernel, rfl, by decide⟩
theorem dX7_leastPot_47 : xd cX7_leastPot 47 (.iload_n 3) 1 48 := ⟨by decide +kernel, rfl⟩
theorem dX7_leastPot_48 : xd cX7_leastPot 48 (.iload 4) 2 50 := ⟨by decide +kernel, rfl⟩
theorem dX7_leastPot_50 : xd cX7_leastPot 50 .iadd 1 51 := ⟨by decide +kernel, rfl⟩
theorem dX7_leastPot_51 : xd cX7_leastPot 51 (.iconst 2) 1 52 := ⟨by decide +kernel, rfl⟩
theorem dX7_leastPot_52 : xd cX7_leastPot 52 .idiv 1 53 := ⟨by decide +kernel, rfl⟩
theorem dX7_leastPot_53 : xd cX7_leastPot 53 (.istore 6) 2 55 := ⟨by decide +kernel, rfl⟩
theorem dX7_leastPot_55 : xd cX7_leastPot 55 (.aload_n 0) 1 56 := ⟨by decide +kernel, rfl⟩
theorem dX7_leastPot_56 : xd cX7_leastPot 56 (.iload_n 1) 1 57 := ⟨by decide +kernel, rfl⟩
theorem dX7_leastPot_57 : xd cX7_leastPot 57 (.iload 6) 2 59 := ⟨by decide +kernel, rfl⟩
theorem dX7_leastPot_59 : xd cX7_leastPot 59 (.invokevirtual 98) 3 62 := ⟨by decide +kernel, rfl⟩
theorem dX7_leastPot_62 : xd cX7_leastPot 62 (.iload_n 2) 1 63 := ⟨by decide +kernel, rfl⟩
theorem dX7_leastPot_63 : xd cX7_leastPot 63 .i2l 1 64 := ⟨by decide +kernel, rfl⟩
theorem dX7_leastPot_64 : xd cX7_leastPot 64 .lcmp 1 65 := ⟨by decide +kernel, rfl⟩
theorem dX7_leastPot_65 : xj cX7_leastPot 65 (.ifCond .lt) 68 75 := ⟨10, by decide +kernel, rfl, by decide⟩
theorem dX7_leastPot_68 : xd cX7_leastPot 68 (.iload 6) 2 70 := ⟨by decide +kernel, rfl⟩
theorem dX7_leastPot_70 : xd cX7_leastPot 70 (.istore 4) 2 72 := ⟨by decide +kernel, rfl⟩
theorem dX7_leastPot_72 : xj cX7_leastPot 72 .goto 75 80 := ⟨8, by decide +kernel, rfl, by decide⟩
theorem dX7_leastPot_75 : xd cX7_leastPot 75 (.iload 6) 2 77 := ⟨by decide +kernel, rfl⟩
theorem dX7_leastPot_77 : xd cX7_leastPot 77 (.iconst 1) 1 78 := ⟨by decide +kernel, rfl⟩
theorem dX7_leastPot_78 : xd cX7_leastPot 78 .iadd 1 79 := ⟨by decide +kernel, rfl⟩
theorem dX7_leastPot_79 : xd cX7_leastPot 79 (.istore_n 3) 1 80 := ⟨by decide +kernel, rfl⟩
theorem dX7_leastPot_80 : xd cX7_leastPot 80 (.iinc 5 1) 3 83 := ⟨by decide +kernel, rfl⟩
theorem dX7_leastPot_83 : xj cX7_leastPot 83 .goto 86 34 := ⟨(-49), by decide +kernel, rfl, by decide⟩
theorem dX7_leastPot_86 : xd cX7_leastPot 86 (.iload 4) 2 88 := ⟨by decide +kernel, rfl⟩
theorem dX7_leastPot_88 : xd cX7_leastPot 88 .ireturn 1 89 := ⟨by decide +kernel, rfl⟩

set_option maxRecDepth 100000 in
set_option maxHeartbeats 4000000 in
theorem ct_X7_leastPot (l : Launch) (g : XG) (aW aS aL aC aO aWs aWt : Nat) (aSk aSm aSp aSt aSc aSr aSe gr br cs wk : Nat) (z : Int32) (ru : Nat → Nat) (aV aCs aCl aCh aCw aCc aCb tot lat : Nat) (se sw : Int32) (cr th tw : Nat → Nat) (aLb aLp : Nat) (p : Nat) (hp : p < 495) : Ct l g 4 0 0 yX7_leastPot cX7_leastPot 7 (some .int) [.ref aW, .int (nI p)] [(aW, .inr (7, [.ref aS, .ref aL, .ref aC, .ref aO, .ref aWs, .ref aWt])), (aS, .inr (6, [.ref aSk, .ref aSm, .ref aSp, .ref aSt, .ref aSc, .ref aSr, .ref aSe, .int (nI gr), .int (nI br), .int (nI cs), .int (nI wk), .int z])), (aSr, .inl (g.2.1 0, 8, .inl (nIf ru))), (aC, .inr (0, [.ref aS, .ref aL, .ref aV, .ref aO, .ref aCs, .ref aCl, .ref aCh, .ref aCw, .ref aCc, .ref aCb, .int (nI tot), .int (nI lat), .int se, .int sw])), (aCc, .inl (g.2.1 0, 495, .inl (nIf cr))), (aCh, .inl (g.2.1 0, 495, .inl (nIf th))), (aCw, .inl (g.2.1 0, 495, .inl (nIf tw))), (aL, .inr (5, [.ref aLb, .ref aLp])), (aLb, .inl (g.2.1 0, 495, .inl (nIf rowB)))] (xpi (if lg_cmp (worthL ru tot cr th tw p 99999999) (nI (ru 0)).toInt64 < 0 then (-1) else nI (lpB ru tot cr th tw p)) [(aW, .inr (7, [.ref aS, .ref aL, .ref aC, .ref aO, .ref aWs, .ref aWt])), (aS, .inr (6, [.ref aSk, .ref aSm, .ref aSp, .ref aSt, .ref aSc, .ref aSr, .ref aSe, .int (nI gr), .int (nI br), .int (nI cs), .int (nI wk), .int z])), (aSr, .inl (g.2.1 0, 8, .inl (nIf ru))), (aC, .inr (0, [.ref aS, .ref aL, .ref aV, .ref aO, .ref aCs, .ref aCl, .ref aCh, .ref aCw, .ref aCc, .ref aCb, .int (nI tot), .int (nI lat), .int se, .int sw])), (aCc, .inl (g.2.1 0, 495, .inl (nIf cr))), (aCh, .inl (g.2.1 0, 495, .inl (nIf th))), (aCw, .inl (g.2.1 0, 495, .inl (nIf tw))), (aL, .inr (5, [.ref aLb, .ref aLp])), (aLb, .inl (g.2.1 0, 495, .inl (nIf rowB)))]) := by
  refine Ct.ofX (lv := [some (.ref aW), some (.int (nI p)), none, none, none, none, none]) (by decide) rfl (Nat.le_of_ble_eq_true rfl) (fun κ => ?_)
  generalize hQ : xQ κ g 0 0 _ = Q
  refine x_aload_n dX7_leastPot_0 rfl ?_
  refine x_get dX7_leastPot_1 0 0 inX7 fl_X7_19 rfl rfl (by decide) rfl ?_
  refine x_get dX7_leastPot_4 1 5 inX6 fl_X7_82 rfl rfl (by decide) rfl ?_
  refine x_iconst 0 dX7_leastPot_7 (by decide) ?_
  refine x_iald dX7_leastPot_8 2 0 rfl (rfl) (by decide) (by decide) ?_
  refine x_istore_n (lv' := [some (.ref aW), some (.int (nI p)), some (.int (nI (ru 0))), none, none, none, none]) dX7_leastPot_9 (xlt rfl) rfl ?_
  refine x_aload_n dX7_leastPot_10 rfl ?_
  refine x_iload_n dX7_leastPot_11 rfl ?_
  refine x_ldc dX7_leastPot_12 k_X7_97 ?_
  refine x_cVl0 dX7_leastPot_14 ml_X7_98 mX7_worthOf (ct_X7_worthOf κ.2.1 g aW aS aL aC aO aWs aWt aSk aSm aSp aSt aSc aSr aSe gr br cs wk z ru aV aCs aCl aCh aCw aCc aCb tot lat se sw cr th tw aLb aLp p 99999999 (hp)) [0, 1, 2, 3, 4, 5, 6, 7, 8] rfl rfl 0 rfl rfl rfl (Nat.le_of_ble_eq_true rfl) (by decide) (Nat.le_refl _) (Nat.le_refl _) ?_
  refine x_iload_n dX7_leastPot_17 rfl ?_
  refine x_i2l dX7_leastPot_18 ?_
  refine x_lcmp dX7_leastPot_19 ?_
  refine x_if_ge dX7_leastPot_20 (fun c20 => ?_) (fun c20 => ?_)
  · have c20 : 0 ≤ (lg_cmp (worthL ru tot cr th tw p 99999999) ((nI (ru 0)).toInt64)) := c20
    refine x_iconst 0 dX7_leastPot_25 (by decide) ?_
    refine x_istore_n (lv' := [some (.ref aW), some (.int (nI p)), some (.int (nI (ru 0))), some (.int 0), none, none, none]) dX7_leastPot_26 (xlt rfl) rfl ?_
    refine x_ldc dX7_leastPot_27 k_X7_97 ?_
    refine x_istore (lv' := [some (.ref aW), some (.int (nI p)), some (.int (nI (ru 0))), some (.int 0), some (.int 99999999), none, none]) dX7_leastPot_29 (xlt rfl) rfl ?_
    refine x_iconst 0 dX7_leastPot_31 (by decide) ?_
    refine x_istore (lv' := [some (.ref aW), some (.int (nI p)), some (.int (nI (ru 0))), some (.int 0), some (.int 99999999), some (.int 0), none]) dX7_leastPot_32 (xlt rfl) rfl ?_
    have L34_1 : ∀ (i : Nat), i ≤ 32 → ∀ (lo : Nat), lo = (hvI (lpP ru tot cr th tw p) (0, 99999999) i).1 → ∀ (hg : Nat), hg = (hvI (lpP ru tot cr th tw p) (0, 99999999) i).2 → Xs κ g 4 0 0 cX7_leastPot yX7_leastPot (some .int) Q 0 0 34 [some (.ref aW), some (.int (nI p)), some (.int (nI (ru 0))), some (.int (nI lo)), some (.int (nI hg)), some (.int (nI i)), none] [] [(aW, .inr (7, [.ref aS, .ref aL, .ref aC, .ref aO, .ref aWs, .ref aWt])), (aS, .inr (6, [.ref aSk, .ref aSm, .ref aSp, .ref aSt, .ref aSc, .ref aSr, .ref aSe, .int (nI gr), .int (nI br), .int (nI cs), .int (nI wk), .int z])), (aSr, .inl (g.2.1 0, 8, .inl (nIf ru))), (aC, .inr (0, [.ref aS, .ref aL, .ref aV, .ref aO, .ref aCs, .ref aCl, .ref aCh, .ref aCw, .ref aCc, .ref aCb, .int (nI tot), .int (nI lat), .int se, .int sw])), (aCc, .inl (g.2.1 0, 495, .inl (nIf cr))), (aCh, .inl (g.2.1 0, 495, .inl (nIf th))), (aCw, .inl (g.2.1 0, 495, .inl (nIf tw))), (aL, .inr (5, [.ref aLb, .ref aLp])), (aLb, .inl (g.2.1 0, 495, .inl (nIf rowB)))] := by
      refine upTo 32 (fun i hi34 ih34 => ?_)
      intro lo elo
      subst elo
      intro hg ehg
      subst ehg
      have hle := hvI_le (lpP ru tot cr th tw p) (0, 99999999) 99999999 ⟨by decide, Nat.le_refl _⟩ i
      refine x_iload dX7_leastPot_34 rfl ?_
      refine x_bipush 32 dX7_leastPot_36 (by decide) ?_
      refine x_icmp_ge dX7_leastPot_38 (fun c38 => ?_) (fun c38 => ?_)
      · have c38 : 32 ≤ (nI i) := c38
        have c38n := (nI_leI (a := 32) (b := i) (by omega) (by omega)).mp c38
        have hxc38 : i = 32 := by omega
        try rw [hxc38]
        refine x_iload dX7_leastPot_86 rfl ?_
        rw [← hQ]
        refine x_iret dX7_leastPot_88 rfl (Nat.le_of_ble_eq_true rfl) (Nat.le_of_ble_eq_true rfl) ?_
        exact ⟨by rw [if_neg (fun q => (fa_of_lt q).2.1 c20), lpB]; try rw [hv_end (i := i) (by omega) (by omega)], rfl⟩
      · have c38 : ¬ (32 ≤ (nI i)) := c38
        have c38n := mt (nI_leI (a := 32) (b := i) (by omega) (by omega)).mpr c38
        refine x_iload_n dX7_leastPot_41 rfl ?_
        refine x_iload dX7_leastPot_42 rfl ?_
        refine x_icmp_ge dX7_leastPot_44 (fun c44 => ?_) (fun c44 => ?_)
        · have c44 : (nI (((hvI (lpP ru tot cr th tw p) (0, 99999999) i).2))) ≤ (nI (((hvI (lpP ru tot cr th tw p) (0, 99999999) i).1))) := c44
          have c44n := (nI_leI (a := ((hvI (lpP ru tot cr th tw p) (0, 99999999) i).2)) (b := ((hvI (lpP ru tot cr th tw p) (0, 99999999) i).1)) (by omega) (by omega)).mp c44
          refine x_iload dX7_leastPot_86 rfl ?_
          rw [← hQ]
          refine x_iret dX7_leastPot_88 rfl (Nat.le_of_ble_eq_true rfl) (Nat.le_of_ble_eq_true rfl) ?_
          exact ⟨by rw [if_neg (fun q => (fa_of_lt q).2.1 c20), lpB]; try rw [hv_end (i := i) (by omega) (by omega)], rfl⟩
        · have c44 : ¬ ((nI (((hvI (lpP ru tot cr th tw p) (0, 99999999) i).2))) ≤ (nI (((hvI (lpP ru tot cr th tw p) (0, 99999999) i).1)))) := c44
          have c44n := mt (nI_leI (a := ((hvI (lpP ru tot cr th tw p) (0, 99999999) i).2)) (b := ((hvI (lpP ru tot cr th tw p) (0, 99999999) i).1)) (by omega) (by omega)).mpr c44
          refine x_iload_n dX7_leastPot_47 rfl ?_
          refine x_iload dX7_leastPot_48 rfl ?_
          refine x_iadd dX7_leastPot_50 ?_
          refine x_rei (nI (((hvI (lpP ru tot cr th tw p) (0, 99999999) i).1) + ((hvI (lpP ru tot cr th tw p) (0, 99999999) i).2))) (nI_iadd ((hvI (lpP ru tot cr th tw p) (0, 99999999) i).1) ((hvI (lpP ru tot cr th tw p) (0, 99999999) i).2)) ?_
          refine x_iconst 2 dX7_leastPot_51 (by decide) ?_
          refine x_idiv dX7_leastPot_52 (by decide) ?_
          refine x_rei (nI (((hvI (lpP ru tot cr th tw p) (0, 99999999) i).1 + (hvI (lpP ru tot cr th tw p) (0, 99999999) i).2) / 2)) (nI_idiv (b := 2) (by omega) (by decide)) ?_
          refine x_istore (lv' := [some (.ref aW), some (.int (nI p)), some (.int (nI (ru 0))), some (.int (nI (((hvI (lpP ru tot cr th tw p) (0, 99999999) i).1)))), some (.int (nI (((hvI (lpP ru tot cr th tw p) (0, 99999999) i).2)))), some (.int (nI i)), some (.int (nI (((hvI (lpP ru tot cr th tw p) (0, 99999999) i).1 + (hvI (lpP ru tot cr th tw p) (0, 99999999) i).2) / 2)))]) dX7_leastPot_53 (xlt rfl) rfl ?_
          refine x_aload_n dX7_leastPot_55 rfl ?_
          refine x_iload_n dX7_leastPot_56 rfl ?_
          refine x_iload dX7_leastPot_57 rfl ?_
          refine x_cVl0 dX7_leastPot_59 ml_X7_98 mX7_worthOf (ct_X7_worthOf κ.2.1 g aW aS aL aC aO aWs aWt aSk aSm aSp aSt aSc aSr aSe gr br cs wk z ru aV aCs aCl aCh aCw aCc aCb tot lat se sw cr th tw aLb aLp p (((hvI (lpP ru tot cr th tw p) (0, 99999999) i).1 + (hvI (lpP ru tot cr th tw p) (0, 99999999) i).2) / 2) (hp)) [0, 1, 2, 3, 4, 5, 6, 7, 8] rfl rfl 0 rfl rfl rfl (Nat.le_of_ble_eq_true rfl) (by decide) (Nat.le_refl _) (Nat.le_refl _) ?_
          refine x_iload_n dX7_leastPot_62 rfl ?_
          refine x_i2l dX7_leastPot_63 ?_
          refine x_lcmp dX7_leastPot_64 ?_
          have J65_7 : ∀ (v5 : Nat), v5 = (if (lg_cmp (worthL ru tot cr th tw p (((hvI (lpP ru tot cr th tw p) (0, 99999999) i).1 + (hvI (lpP ru tot cr th tw p) (0, 99999999) i).2) / 2)) ((nI (ru 0)).toInt64)) < 0 then (((hvI (lpP ru tot cr th tw p) (0, 99999999) i).1 + (hvI (lpP ru tot cr th tw p) (0, 99999999) i).2) / 2) + 1 else ((hvI (lpP ru tot cr th tw p) (0, 99999999) i).1)) → ∀ (v6 : Nat), v6 = (if (lg_cmp (worthL ru tot cr th tw p (((hvI (lpP ru tot cr th tw p) (0, 99999999) i).1 + (hvI (lpP ru tot cr th tw p) (0, 99999999) i).2) / 2)) ((nI (ru 0)).toInt64)) < 0 then ((hvI (lpP ru tot cr th tw p) (0, 99999999) i).2) else ((hvI (lpP ru tot cr th tw p) (0, 99999999) i).1 + (hvI (lpP ru tot cr th tw p) (0, 99999999) i).2) / 2) → Xs κ g 4 0 0 cX7_leastPot yX7_leastPot (some .int) Q 0 0 80 [some (.ref aW), some (.int (nI p)), some (.int (nI (ru 0))), some (.int (nI v5)), some (.int (nI v6)), some (.int (nI i)), some (.int (nI (((hvI (lpP ru tot cr th tw p) (0, 99999999) i).1 + (hvI (lpP ru tot cr th tw p) (0, 99999999) i).2) / 2)))] [] [(aW, .inr (7, [.ref aS, .ref aL, .ref aC, .ref aO, .ref aWs, .ref aWt])), (aS, .inr (6, [.ref aSk, .ref aSm, .ref aSp, .ref aSt, .ref aSc, .ref aSr, .ref aSe, .int (nI gr), .int (nI br), .int (nI cs), .int (nI wk), .int z])), (aSr, .inl (g.2.1 0, 8, .inl (nIf ru))), (aC, .inr (0, [.ref aS, .ref aL, .ref aV, .ref aO, .ref aCs, .ref aCl, .ref aCh, .ref aCw, .ref aCc, .ref aCb, .int (nI tot), .int (nI lat), .int se, .int sw])), (aCc, .inl (g.2.1 0, 495, .inl (nIf cr))), (aCh, .inl (g.2.1 0, 495, .inl (nIf th))), (aCw, .inl (g.2.1 0, 495, .inl (nIf tw))), (aL, .inr (5, [.ref aLb, .ref aLp])), (aLb, .inl (g.2.1 0, 495, .inl (nIf rowB)))] := by
            intro v5 ev5 v6 ev6
            refine x_iinc (lv' := [some (.ref aW), some (.int (nI p)), some (.int (nI (ru 0))), some (.int (nI v5)), some (.int (nI v6)), some (.int (nI (i + 1))), some (.int (nI (((hvI (lpP ru tot cr th tw p) (0, 99999999) i).1 + (hvI (lpP ru tot cr th tw p) (0, 99999999) i).2) / 2)))]) (nI (i + 1)) dX7_leastPot_80 rfl (nI_addc i 1 rfl) rfl ?_
            refine x_goto dX7_leastPot_83 ?_
            refine x_fgt (lv' := [some (.ref aW), some (.int (nI p)), some (.int (nI (ru 0))), some (.int (nI v5)), some (.int (nI v6)), some (.int (nI (i + 1))), none]) ⟨Or.inr rfl, Or.inr rfl, Or.inr rfl, Or.inr rfl, Or.inr rfl, Or.inr rfl, Or.inl rfl, trivial⟩ ?_
            exact ih34 (by omega) v5 (by simp only [ev5]; exact hv_lo (by omega) rfl) v6 (by simp only [ev6]; exact hv_hi (by omega) rfl)
          refine x_if_lt dX7_leastPot_65 (fun c65 => ?_) (fun c65 => ?_)
          · have c65 : (lg_cmp (worthL ru tot cr th tw p (((hvI (lpP ru tot cr th tw p) (0, 99999999) i).1 + (hvI (lpP ru tot cr th tw p) (0, 99999999) i).2) / 2)) ((nI (ru 0)).toInt64)) < 0 := c65
            refine x_iload dX7_leastPot_75 rfl ?_
            refine x_iconst 1 dX7_leastPot_77 (by decide) ?_
            refine x_iadd dX7_leastPot_78 ?_
            refine x_rei (nI ((((hvI (lpP ru tot cr th tw p) (0, 99999999) i).1 + (hvI (lpP ru tot cr th tw p) (0, 99999999) i).2) / 2) + 1)) (nI_addc (((hvI (lpP ru tot cr th tw p) (0, 99999999) i).1 + (hvI (lpP ru tot cr th tw p) (0, 99999999) i).2) / 2) 1 rfl) ?_
            refine x_istore_n (lv' := [some (.ref aW), some (.int (nI p)), some (.int (nI (ru 0))), some (.int (nI ((((hvI (lpP ru tot cr th tw p) (0, 99999999) i).1 + (hvI (lpP ru tot cr th tw p) (0, 99999999) i).2) / 2) + 1))), some (.int (nI (((hvI (lpP ru tot cr th tw p) (0, 99999999) i).2)))), some (.int (nI i)), some (.int (nI (((hvI (lpP ru tot cr th tw p) (0, 99999999) i).1 + (hvI (lpP ru tot cr th tw p) (0, 99999999) i).2) / 2)))]) dX7_leastPot_79 (xlt rfl) rfl ?_
            exact J65_7 ((((hvI (lpP ru tot cr th tw p) (0, 99999999) i).1 + (hvI (lpP ru tot cr th tw p) (0, 99999999) i).2) / 2) + 1) (if_pos c65).symm ((hvI (lpP ru tot cr th tw p) (0, 99999999) i).2) (if_pos c65).symm
          · have c65 : ¬ ((lg_cmp (worthL ru tot cr th tw p (((hvI (lpP ru tot cr th tw p) (0, 99999999) i).1 + (hvI (lpP ru tot cr th tw p) (0, 99999999) i).2) / 2)) ((nI (ru 0)).toInt64)) < 0) := c65
            refine x_iload dX7_leastPot_68 rfl ?_
            refine x_istore (lv' := [some (.ref aW), some (.int (nI p)), some (.int (nI (ru 0))), some (.int (nI (((hvI (lpP ru tot cr th tw p) (0, 99999999) i).1)))), some (.int (nI (((hvI (lpP ru tot cr th tw p) (0, 99999999) i).1 + (hvI (lpP ru tot cr th tw p) (0, 99999999) i).2) / 2))), some (.int (nI i)), some (.int (nI (((hvI (lpP ru tot cr th tw p) (0, 99999999) i).1 + (hvI (lpP ru tot cr th tw p) (0, 99999999) i).2) / 2)))]) dX7_leastPot_70 (xlt rfl) rfl ?_
            refine x_goto dX7_leastPot_72 ?_
            exact J65_7 ((hvI (lpP ru tot cr th tw p) (0, 99999999) i).1) (if_neg c65).symm (((hvI (lpP ru tot cr th tw p) (0, 99999999) i).1 + (hvI (lpP ru tot cr th tw p) (0, 99999999) i).2) / 2) (if_neg c65).symm
    exact L34_1 0 (Nat.zero_le _) 0 (by rfl) 99999999 (by rfl)
  · have c20 : ¬ (0 ≤ (lg_cmp (worthL ru tot cr th tw p 99999999) ((nI (ru 0)).toInt64))) := c20
    refine x_iconst (-1) dX7_leastPot_23 (by decide) ?_
    rw [← hQ]
    refine x_iret dX7_leastPot_24 rfl (Nat.le_of_ble_eq_true rfl) (Nat.le_of_ble_eq_true rfl) ?_
    exact ⟨by rw [if_pos (fa_of_nle c20)], rfl⟩

-- == X7_leastBound ==
theorem dX7_leastBound_0 : xd cX7_leastBound 0 (.iconst 0) 1 1 := ⟨by decide +kernel, rfl⟩
theorem dX7_leastBound_1 : xd cX7_leastBound 1 (.istore_n 2) 1 2 := ⟨by decide +kernel, rfl⟩
theorem dX7_leastBound_2 : xd cX7_leastBound 2 (.aload_n 0) 1 3 := ⟨by decide +kernel, rfl⟩
theorem dX7_leastBound_3 : xd cX7_leastBound 3 (.getfield 27) 3 6 := ⟨by decide +kernel, rfl⟩
theorem dX7_leastBound_6 : xd cX7_leastBound 6 (.getfield 40) 3 9 := ⟨by decide +kernel, rfl⟩
theorem dX7_leastBound_9 : xd cX7_leastBound 9 (.istore_n 3) 1 10 := ⟨by decide +kernel, rfl⟩
theorem dX7_leastBound_10 : xd cX7_leastBound 10 (.iconst 0) 1 11 := ⟨by decide +kernel, rfl⟩
theorem dX7_leastBound_11 : xd cX7_leastBound 11 (.istore 4) 2 13 := ⟨by decide +kernel, rfl⟩
theorem dX7_leastBound_13 : xd cX7_leastBound 13 (.iload 4) 2 15 := ⟨by decide +kernel, rfl⟩
theorem dX7_leastBound_15 : xd cX7_leastBound 15 (.bipush 32) 2 17 := ⟨by decide +kernel, rfl⟩
theorem dX7_leastBound_17 : xj cX7_leastBound 17 (.if_icmp .ge) 20 59 := ⟨42, by decide +kernel, rfl, by decide⟩
theorem dX7_leastBound_20 : xd cX7_leastBound 20 (.iload_n 2) 1 21 := ⟨by decide +kernel, rfl⟩
theorem dX7_leastBound_21 : xd cX7_leastBound 21 (.iload_n 3) 1 22 := ⟨by decide +kernel, rfl⟩
theorem dX7_leastBound_22 : xj cX7_leastBound 22 (.if_icmp .ge) 25 59 := ⟨37, by decide +kernel, rfl, by decide⟩
theorem dX7_leastBound_25 : xd cX7_leastBound 25 (.iload_n 2) 1 26 := ⟨by decide +kernel, rfl⟩
theorem dX7_leastBound_26 : xd cX7_leastBound 26 (.iload_n 3) 1 27 := ⟨by decide +kernel, rfl⟩
theorem dX7_leastBound_27 : xd cX7_leastBound 27 .iadd 1 28 := ⟨by decide +kernel, rfl⟩
theorem dX7_leastBound_28 : xd cX7_leastBound 28 (.iconst 2) 1 29 := ⟨by decide +kernel, rfl⟩
theorem dX7_leastBound_29 : xd cX7_leastBound 29 .idiv 1 30 := ⟨by decide +kernel, rfl⟩
theorem dX7_leastBound_30 : xd cX7_leastBound 30 (.istore 5) 2 32 := ⟨by decide +kernel, rfl⟩
theorem dX7_leastBound_32 : xd cX7_leastBound 32 (.aload_n 0) 1 33 := ⟨by decide +kernel, rfl⟩
theorem dX7_leastBound_33 : xd cX7_leastBound 33 (.iload 5) 2 35 := ⟨by decide +kernel, rfl⟩
theorem dX7_leastBound_35 : xd cX7_leastBound 35 (.invokevirtual 108) 3 38 := ⟨by decide +kernel, rfl⟩
theorem dX7_leastBound_38 : xd cX7_leastBound 38 (.iload_n 1) 1 39 := ⟨by decide +kernel, rfl⟩
theorem dX7_leastBound_39 : xj cX7_leastBound 39 (.if_icmp .lt) 42 48 := ⟨9, by decide +kernel, rfl, by decide⟩
theorem dX7_leastBound_42 : xd cX7_leastBound 42 (.iload 5) 2 44 := ⟨by decide +kernel, rfl⟩
theorem dX7_leastBound_44 : xd cX7_leastBound 44 (.istore_n 3) 1 45 := ⟨by decide +kernel, rfl⟩
theorem dX7_leastBound_45 : xj cX7_leastBound 45 .goto 48 53 := ⟨8, by decide +kernel, rfl, by decide⟩
theorem dX7_leastBound_48 : xd cX7_leastBound 48 (.iload 5) 2 50 := ⟨by decide +kernel, rfl⟩
theorem dX7_leastBound_50 : xd cX7_leastBound 50 (.iconst 1) 1 51 := ⟨by decide +kernel, rfl⟩
theorem dX7_leastBound_51 : xd cX7_leastBound 51 .iadd 1 52 := ⟨by decide +kernel, rfl⟩
theorem dX7_leastBound_52 : xd cX7_leastBound 52 (.istore_n 2) 1 53 := ⟨by decide +kernel, rfl⟩
theorem dX7_leastBound_53 : xd cX7_leastBound 53 (.iinc 4 1) 3 56 := ⟨by decide +kernel, rfl⟩
theorem dX7_leastBound_56 : xj cX7_leastBound 56 .goto 59 13 := ⟨(-43), by decide +kernel, rfl, by decide⟩
theorem dX7_leastBound_59 : xd cX7_leastBound 59 (.iload_n 3) 1 60 := ⟨by decide +kernel, rfl⟩
theorem dX7_leastBound_60 : xd cX7_leastBound 60 .ireturn 1 61 := ⟨by decide +kernel, rfl⟩

set_option maxRecDepth 100000 in
set_option maxHeartbeats 4000000 in
theorem ct_X7_leastBound (l : Launch) (g : XG) (aW aS aL aC aO aWs aWt : Nat) (aV aCs aCl aCh aCw aCc aCb tot lat : Nat) (se sw : Int32) (cr : Nat → Nat) (n : Nat) (htot : tot < 2 ^ 30) (hn : n ≤ 495) : Ct l g 2 0 0 yX7_leastBound cX7_leastBound 6 (some .int) [.ref aW, .int (nI n)] [(aW, .inr (7, [.ref aS, .ref aL, .ref aC, .ref aO, .ref aWs, .ref aWt])), (aC, .inr (0, [.ref aS, .ref aL, .ref aV, .ref aO, .ref aCs, .ref aCl, .ref aCh, .ref aCw, .ref aCc, .ref aCb, .int (nI tot), .int (nI lat), .int se, .int sw])), (aCc, .inl (g.2.1 0, 495, .inl (nIf cr)))] (xpi (nI (lbB cr n tot)) [(aW, .inr (7, [.ref aS, .ref aL, .ref aC, .ref aO, .ref aWs, .ref aWt])), (aC, .inr (0, [.ref aS, .ref aL, .ref aV, .ref aO, .ref aCs, .ref aCl, .ref aCh, .ref aCw, .ref aCc, .ref aCb, .int (nI tot), .int (nI lat), .int se, .int sw])), (aCc, .inl (g.2.1 0, 495, .inl (nIf cr)))]) := by
  refine Ct.ofX (lv := [some (.ref aW), some (.int (nI n)), none, none, none, none]) (by decide) rfl (Nat.le_of_ble_eq_true rfl) (fun κ => ?_)
  generalize hQ : xQ κ g 0 0 _ = Q
  refine x_iconst 0 dX7_leastBound_0 (by decide) ?_
  refine x_istore_n (lv' := [some (.ref aW), some (.int (nI n)), some (.int 0), none, none, none]) dX7_leastBound_1 (xlt rfl) rfl ?_
  refine x_aload_n dX7_leastBound_2 rfl ?_
  refine x_get dX7_leastBound_3 0 2 inX7 fl_X7_27 rfl rfl (by decide) rfl ?_
  refine x_get dX7_leastBound_6 1 10 inX0 fl_X7_40 rfl rfl (by decide) rfl ?_
  refine x_istore_n (lv' := [some (.ref aW), some (.int (nI n)), some (.int 0), some (.int (nI tot)), none, none]) dX7_leastBound_9 (xlt rfl) rfl ?_
  refine x_iconst 0 dX7_leastBound_10 (by decide) ?_
  refine x_istore (lv' := [some (.ref aW), some (.int (nI n)), some (.int 0), some (.int (nI tot)), some (.int 0), none]) dX7_leastBound_11 (xlt rfl) rfl ?_
  have L13_1 : ∀ (i : Nat), i ≤ 32 → ∀ (lo : Nat), lo = (hvI (lbP cr n) (0, tot) i).1 → ∀ (hg : Nat), hg = (hvI (lbP cr n) (0, tot) i).2 → Xs κ g 2 0 0 cX7_leastBound yX7_leastBound (some .int) Q 0 0 13 [some (.ref aW), some (.int (nI n)), some (.int (nI lo)), some (.int (nI hg)), some (.int (nI i)), none] [] [(aW, .inr (7, [.ref aS, .ref aL, .ref aC, .ref aO, .ref aWs, .ref aWt])), (aC, .inr (0, [.ref aS, .ref aL, .ref aV, .ref aO, .ref aCs, .ref aCl, .ref aCh, .ref aCw, .ref aCc, .ref aCb, .int (nI tot), .int (nI lat), .int se, .int sw])), (aCc, .inl (g.2.1 0, 495, .inl (nIf cr)))] := by
    refine upTo 32 (fun i hi13 ih13 => ?_)
    intro lo elo
    subst elo
    intro hg ehg
    subst ehg
    have hle := hvI_le (lbP cr n) (0, tot) tot ⟨Nat.zero_le _, Nat.le_refl _⟩ i
    refine x_iload dX7_leastBound_13 rfl ?_
    refine x_bipush 32 dX7_leastBound_15 (by decide) ?_
    refine x_icmp_ge dX7_leastBound_17 (fun c17 => ?_) (fun c17 => ?_)
    · have c17 : 32 ≤ (nI i) := c17
      have c17n := (nI_leI (a := 32) (b := i) (by omega) (by omega)).mp c17
      have hxc17 : i = 32 := by omega
      try rw [hxc17]
      refine x_iload_n dX7_leastBound_59 rfl ?_
      rw [← hQ]
      refine x_iret dX7_leastBound_60 rfl (Nat.le_of_ble_eq_true rfl) (Nat.le_of_ble_eq_true rfl) ?_
      exact ⟨by rw [lbB]; try rw [hv_end (i := i) (by omega) (by omega)], rfl⟩
    · have c17 : ¬ (32 ≤ (nI i)) := c17
      have c17n := mt (nI_leI (a := 32) (b := i) (by omega) (by omega)).mpr c17
      refine x_iload_n dX7_leastBound_20 rfl ?_
      refine x_iload_n dX7_leastBound_21 rfl ?_
      refine x_icmp_ge dX7_leastBound_22 (fun c22 => ?_) (fun c22 => ?_)
      · have c22 : (nI (((hvI (lbP cr n) (0, tot) i).2))) ≤ (nI (((hvI (lbP cr n) (0, tot) i).1))) := c22
        have c22n := (nI_leI (a := ((hvI (lbP cr n) (0, tot) i).2)) (b := ((hvI (lbP cr n) (0, tot) i).1)) (by omega) (by omega)).mp c22
        refine x_iload_n dX7_leastBound_59 rfl ?_
        rw [← hQ]
        refine x_iret dX7_leastBound_60 rfl (Nat.le_of_ble_eq_true rfl) (Nat.le_of_ble_eq_true rfl) ?_
        exact ⟨by rw [lbB]; try rw [hv_end (i := i) (by omega) (by omega)], rfl⟩
      · have c22 : ¬ ((nI (((hvI (lbP cr n) (0, tot) i).2))) ≤ (nI (((hvI (lbP cr n) (0, tot) i).1)))) := c22
        have c22n := mt (nI_leI (a := ((hvI (lbP cr n) (0, tot) i).2)) (b := ((hvI (lbP cr n) (0, tot) i).1)) (by omega) (by omega)).mpr c22
        refine x_iload_n dX7_leastBound_25 rfl ?_
        refine x_iload_n dX7_leastBound_26 rfl ?_
        refine x_iadd dX7_leastBound_27 ?_
        refine x_rei (nI (((hvI (lbP cr n) (0, tot) i).1) + ((hvI (lbP cr n) (0, tot) i).2))) (nI_iadd ((hvI (lbP cr n) (0, tot) i).1) ((hvI (lbP cr n) (0, tot) i).2)) ?_
        refine x_iconst 2 dX7_leastBound_28 (by decide) ?_
        refine x_idiv dX7_leastBound_29 (by decide) ?_
        refine x_rei (nI (((hvI (lbP cr n) (0, tot) i).1 + (hvI (lbP cr n) (0, tot) i).2) / 2)) (nI_idiv (b := 2) (by omega) (by decide)) ?_
        refine x_istore (lv' := [some (.ref aW), some (.int (nI n)), some (.int (nI (((hvI (lbP cr n) (0, tot) i).1)))), some (.int (nI (((hvI (lbP cr n) (0, tot) i).2)))), some (.int (nI i)), some (.int (nI (((hvI (lbP cr n) (0, tot) i).1 + (hvI (lbP cr n) (0, tot) i).2) / 2)))]) dX7_leastBound_30 (xlt rfl) rfl ?_
        refine x_aload_n dX7_leastBound_32 rfl ?_
        refine x_iload dX7_leastBound_33 rfl ?_
        refine x_cVi0 dX7_leastBound_35 ml_X7_108 mX7_countUpTo (ct_X7_countUpTo κ.2.1 g aW aS aL aC aO aWs aWt aV aCs aCl aCh aCw aCc aCb tot lat se sw cr (nI (((hvI (lbP cr n) (0, tot) i).1 + (hvI (lbP cr n) (0, tot) i).2) / 2))) [0, 1, 2] rfl rfl 0 rfl rfl rfl (Nat.le_of_ble_eq_true rfl) (by decide) (Nat.le_refl _) (Nat.le_refl _) ?_
        refine x_iload_n dX7_leastBound_38 rfl ?_
        have J39_7 : ∀ (v5 : Nat), v5 = (if (nI (cntU cr (nI (((hvI (lbP cr n) (0, tot) i).1 + (hvI (lbP cr n) (0, tot) i).2) / 2)) 495)) < (nI n) then (((hvI (lbP cr n) (0, tot) i).1 + (hvI (lbP cr n) (0, tot) i).2) / 2) + 1 else ((hvI (lbP cr n) (0, tot) i).1)) → ∀ (v6 : Nat), v6 = (if (nI (cntU cr (nI (((hvI (lbP cr n) (0, tot) i).1 + (hvI (lbP cr n) (0, tot) i).2) / 2)) 495)) < (nI n) then ((hvI (lbP cr n) (0, tot) i).2) else ((hvI (lbP cr n) (0, tot) i).1 + (hvI (lbP cr n) (0, tot) i).2) / 2) → Xs κ g 2 0 0 cX7_leastBound yX7_leastBound (some .int) Q 0 0 53 [some (.ref aW), some (.int (nI n)), some (.int (nI v5)), some (.int (nI v6)), some (.int (nI i)), some (.int (nI (((hvI (lbP cr n) (0, tot) i).1 + (hvI (lbP cr n) (0, tot) i).2) / 2)))] [] [(aW, .inr (7, [.ref aS, .ref aL, .ref aC, .ref aO, .ref aWs, .ref aWt])), (aC, .inr (0, [.ref aS, .ref aL, .ref aV, .ref aO, .ref aCs, .ref aCl, .ref aCh, .ref aCw, .ref aCc, .ref aCb, .int (nI tot), .int (nI lat), .int se, .int sw])), (aCc, .inl (g.2.1 0, 495, .inl (nIf cr)))] := by
          intro v5 ev5 v6 ev6
          refine x_iinc (lv' := [some (.ref aW), some (.int (nI n)), some (.int (nI v5)), some (.int (nI v6)), some (.int (nI (i + 1))), some (.int (nI (((hvI (lbP cr n) (0, tot) i).1 + (hvI (lbP cr n) (0, tot) i).2) / 2)))]) (nI (i + 1)) dX7_leastBound_53 rfl (nI_addc i 1 rfl) rfl ?_
          refine x_goto dX7_leastBound_56 ?_
          refine x_fgt (lv' := [some (.ref aW), some (.int (nI n)), some (.int (nI v5)), some (.int (nI v6)), some (.int (nI (i + 1))), none]) ⟨Or.inr rfl, Or.inr rfl, Or.inr rfl, Or.inr rfl, Or.inr rfl, Or.inl rfl, trivial⟩ ?_
          exact ih13 (by omega) v5 (by simp only [ev5]; exact hv_lo (by omega) rfl) v6 (by simp only [ev6]; exact hv_hi (by omega) rfl)
        refine x_icmp_lt dX7_leastBound_39 (fun c39 => ?_) (fun c39 => ?_)
        · have c39 : (nI (cntU cr (nI (((hvI (lbP cr n) (0, tot) i).1 + (hvI (lbP cr n) (0, tot) i).2) / 2)) 495)) < (nI n) := c39
          refine x_iload dX7_leastBound_48 rfl ?_
          refine x_iconst 1 dX7_leastBound_50 (by decide) ?_
          refine x_iadd dX7_leastBound_51 ?_
          refine x_rei (nI ((((hvI (lbP cr n) (0, tot) i).1 + (hvI (lbP cr n) (0, tot) i).2) / 2) + 1)) (nI_addc (((hvI (lbP cr n) (0, tot) i).1 + (hvI (lbP cr n) (0, tot) i).2) / 2) 1 rfl) ?_
          refine x_istore_n (lv' := [some (.ref aW), some (.int (nI n)), some (.int (nI ((((hvI (lbP cr n) (0, tot) i).1 + (hvI (lbP cr n) (0, tot) i).2) / 2) + 1))), some (.int (nI (((hvI (lbP cr n) (0, tot) i).2)))), some (.int (nI i)), some (.int (nI (((hvI (lbP cr n) (0, tot) i).1 + (hvI (lbP cr n) (0, tot) i).2) / 2)))]) dX7_leastBound_52 (xlt rfl) rfl ?_
          exact J39_7 ((((hvI (lbP cr n) (0, tot) i).1 + (hvI (lbP cr n) (0, tot) i).2) / 2) + 1) (if_pos c39).symm ((hvI (lbP cr n) (0, tot) i).2) (if_pos c39).symm
        · have c39 : ¬ ((nI (cntU cr (nI (((hvI (lbP cr n) (0, tot) i).1 + (hvI (lbP cr n) (0, tot) i).2) / 2)) 495)) < (nI n)) := c39
          refine x_iload dX7_leastBound_42 rfl ?_
          refine x_istore_n (lv' := [some (.ref aW), some (.int (nI n)), some (.int (nI (((hvI (lbP cr n) (0, tot) i).1)))), some (.int (nI (((hvI (lbP cr n) (0, tot) i).1 + (hvI (lbP cr n) (0, tot) i).2) / 2))), some (.int (nI i)), some (.int (nI (((hvI (lbP cr n) (0, tot) i).1 + (hvI (lbP cr n) (0, tot) i).2) / 2)))]) dX7_leastBound_44 (xlt rfl) rfl ?_
          refine x_goto dX7_leastBound_45 ?_
          exact J39_7 ((hvI (lbP cr n) (0, tot) i).1) (if_neg c39).symm (((hvI (lbP cr n) (0, tot) i).1 + (hvI (lbP cr n) (0, tot) i).2) / 2) (if_neg c39).symm
  exact L13_1 0 (Nat.zero_le _) 0 (by rfl) tot (by rfl)

-- == X7_takeLeastCrossed ==
theorem dX7_takeLeastCrossed_0 : xd cX7_takeLeastCrossed 0 (.aload_n 0) 1 1 := ⟨by decide +kernel, rfl⟩
theorem dX7_takeLeastCrossed_1 : xd cX7_takeLeastCrossed 1 (.iload_n 1) 1 2 := ⟨by decide +kernel, rfl⟩
theorem dX7_takeLeastCrossed_2 : xd cX7_takeLeastCrossed 2 (.invokevirtual 105) 3 5 := ⟨by decide +kernel, rfl⟩
theorem dX7_takeLeastCrossed_5 : xd cX7_takeLeastCrossed 5 (.istore_n 2) 1 6 := ⟨by decide +kernel, rfl⟩
theorem dX7_takeLeastCrossed_6 : xd cX7_takeLeastCrossed 6 (.aload_n 0) 1 7 := ⟨by decide +kernel, rfl⟩
theorem dX7_takeLeastCrossed_7 : xd cX7_takeLeastCrossed 7 (.iload_n 2) 1 8 := ⟨by decide +kernel, rfl⟩
theorem dX7_takeLeastCrossed_8 : xd cX7_takeLeastCrossed 8 (.iconst 1) 1 9 := ⟨by decide +kernel, rfl⟩
theorem dX7_takeLeastCrossed_9 : xd cX7_takeLeastCrossed 9 .isub 1 10 := ⟨by decide +kernel, rfl⟩
theorem dX7_takeLeastCrossed_10 : xd cX7_takeLeastCrossed 10 (.invokevirtual 108) 3 13 := ⟨by decide +kernel, rfl⟩
theorem dX7_takeLeastCrossed_13 : xd cX7_takeLeastCrossed 13 (.istore_n 3) 1 14 := ⟨by decide +kernel, rfl⟩
theorem dX7_takeLeastCrossed_14 : xd cX7_takeLeastCrossed 14 (.iload_n 1) 1 15 := ⟨by decide +kernel, rfl⟩
theorem dX7_takeLeastCrossed_15 : xd cX7_takeLeastCrossed 15 (.iload_n 3) 1 16 := ⟨by decide +kernel, rfl⟩
theorem dX7_takeLeastCrossed_16 : xd cX7_takeLeastCrossed 16 .isub 1 17 := ⟨by decide +kernel, rfl⟩
theorem dX7_takeLeastCrossed_17 : xd cX7_takeLeastCrossed 17 (.istore 4) 2 19 := ⟨by decide +kernel, rfl⟩
theorem dX7_takeLeastCrossed_19 : xd cX7_takeLeastCrossed 19 (.iconst 0) 1 20 := ⟨by decide +kernel, rfl⟩
theorem dX7_takeLeastCrossed_20 : xd cX7_takeLeastCrossed 20 (.istore 5) 2 22 := ⟨by decide +kernel, rfl⟩
theorem dX7_takeLeastCrossed_22 : xd cX7_takeLeastCrossed 22 (.iload 5) 2 24 := ⟨by decide +kernel, rfl⟩
theorem dX7_takeLeastCrossed_24 : xd cX7_takeLeastCrossed 24 (.sipush 495) 3 27 := ⟨by decide +kernel, rfl⟩
theorem dX7_takeLeastCrossed_27 : xj cX7_takeLeastCrossed 27 (.if_icmp .ge) 30 110 := ⟨83, by decide +kernel, rfl, by decide⟩
theorem dX7_takeLeastCrossed_30 : xd cX7_takeLeastCrossed 30 (.aload_n 0) 1 31 := ⟨by decide +kernel, rfl⟩
theorem dX7_takeLeastCrossed_31 : xd cX7_takeLeastCrossed 31 (.getfield 27) 3 34 := ⟨by decide +kernel, rfl⟩
theorem dX7_takeLeastCrossed_34 : xd cX7_takeLeastCrossed 34 (.getfield 111) 3 37 := ⟨by decide +kernel, rfl⟩
theorem dX7_takeLeastCrossed_37 : xd cX7_takeLeastCrossed 37 (.iload 5) 2 39 := ⟨by decide +kernel, rfl⟩
theorem dX7_takeLeastCrossed_39 : xd cX7_takeLeastCrossed 39 .iaload 1 40 := ⟨by decide +kernel, rfl⟩
theorem dX7_takeLeastCrossed_40 : xd cX7_takeLeastCrossed 40 (.iload_n 2) 1 41 := ⟨by decide +kernel, rfl⟩
theorem dX7_takeLeastCrossed_41 : xj cX7_takeLeastCrossed 41 (.if_icmp .lt) 44 63 := ⟨22, by decide +kernel, rfl, by decide⟩
theorem dX7_takeLeastCrossed_44 : xd cX7_takeLeastCrossed 44 (.aload_n 0) 1 45 := ⟨by decide +kernel, rfl⟩
theorem dX7_takeLeastCrossed_45 : xd cX7_takeLeastCrossed 45 (.getfield 27) 3 48 := ⟨by decide +kernel, rfl⟩
theorem dX7_takeLeastCrossed_48 : xd cX7_takeLeastCrossed 48 (.getfield 111) 3 51 := ⟨by decide +kernel, rfl⟩
theorem dX7_takeLeastCrossed_51 : xd cX7_takeLeastCrossed 51 (.iload 5) 2 53 := ⟨by decide +kernel, rfl⟩
theorem dX7_takeLeastCrossed_53 : xd cX7_takeLeastCrossed 53 .iaload 1 54 := ⟨by decide +kernel, rfl⟩
theorem dX7_takeLeastCrossed_54 : xd cX7_takeLeastCrossed 54 (.iload_n 2) 1 55 := ⟨by decide +kernel, rfl⟩
theorem dX7_takeLeastCrossed_55 : xj cX7_takeLeastCrossed 55 (.if_icmp .ne) 58 67 := ⟨12, by decide +kernel, rfl, by decide⟩
theorem dX7_takeLeastCrossed_58 : xd cX7_takeLeastCrossed 58 (.iload 4) 2 60 := ⟨by decide +kernel, rfl⟩
theorem dX7_takeLeastCrossed_60 : xj cX7_takeLeastCrossed 60 (.ifCond .le) 63 67 := ⟨7, by decide +kernel, rfl, by decide⟩
theorem dX7_takeLeastCrossed_63 : xd cX7_takeLeastCrossed 63 (.iconst 1) 1 64 := ⟨by decide +kernel, rfl⟩
theorem dX7_takeLeastCrossed_64 : xj cX7_takeLeastCrossed 64 .goto 67 68 := ⟨4, by decide +kernel, rfl, by decide⟩
theorem dX7_takeLeastCrossed_67 : xd cX7_takeLeastCrossed 67 (.iconst 0) 1 68 := ⟨by decide +kernel, rfl⟩
theorem dX7_takeLeastCrossed_68 : xd cX7_takeLeastCrossed 68 (.istore 6) 2 70 := ⟨by decide +kernel, rfl⟩
theorem dX7_takeLeastCrossed_70 : xd cX7_takeLeastCrossed 70 (.aload_n 0) 1 71 := ⟨by decide +kernel, rfl⟩
theorem dX7_takeLeastCrossed_71 : xd cX7_takeLeastCrossed 71 (.getfield 27) 3 74 := ⟨by decide +kernel, rfl⟩
theorem dX7_takeLeastCrossed_74 : xd cX7_takeLeastCrossed 74 (.getfield 111) 3 77 := ⟨by decide +kernel, rfl⟩
theorem dX7_takeLeastCrossed_77 : xd cX7_takeLeastCrossed 77 (.iload 5) 2 79 := ⟨by decide +kernel, rfl⟩
theorem dX7_takeLeastCrossed_79 : xd cX7_takeLeastCrossed 79 .iaload 1 80 := ⟨by decide +kernel, rfl⟩
theorem dX7_takeLeastCrossed_80 : xd cX7_takeLeastCrossed 80 (.iload_n 2) 1 81 := ⟨by decide +kernel, rfl⟩
theorem dX7_takeLeastCrossed_81 : xj cX7_takeLeastCrossed 81 (.if_icmp .ne) 84 87 := ⟨6, by decide +kernel, rfl, by decide⟩
theorem dX7_takeLeastCrossed_84 : xd cX7_takeLeastCrossed 84 (.iinc 4 (-1)) 3 87 := ⟨by decide +kernel, rfl⟩
theorem dX7_takeLeastCrossed_87 : xd cX7_takeLeastCrossed 87 (.aload_n 0) 1 88 := ⟨by decide +kernel, rfl⟩
theorem dX7_takeLeastCrossed_88 : xd cX7_takeLeastCrossed 88 (.getfield 15) 3 91 := ⟨by decide +kernel, rfl⟩
theorem dX7_takeLeastCrossed_91 : xd cX7_takeLeastCrossed 91 (.iload 5) 2 93 := ⟨by decide +kernel, rfl⟩
theorem dX7_takeLeastCrossed_93 : xd cX7_takeLeastCrossed 93 (.iload 6) 2 95 := ⟨by decide +kernel, rfl⟩
theorem dX7_takeLeastCrossed_95 : xj cX7_takeLeastCrossed 95 (.ifCond .eq) 98 102 := ⟨7, by decide +kernel, rfl, by decide⟩
theorem dX7_takeLeastCrossed_98 : xd cX7_takeLeastCrossed 98 (.iconst 1) 1 99 := ⟨by decide +kernel, rfl⟩
theorem dX7_takeLeastCrossed_99 : xj cX7_takeLeastCrossed 99 .goto 102 103 := ⟨4, by decide +kernel, rfl, by decide⟩
theorem dX7_takeLeastCrossed_102 : xd cX7_takeLeastCrossed 102 (.iconst 0) 1 103 := ⟨by decide +kernel, rfl⟩
theorem dX7_takeLeastCrossed_103 : xd cX7_takeLeastCrossed 103 .iastore 1 104 := ⟨by decide +kernel, rfl⟩
theorem dX7_takeLeastCrossed_104 : xd cX7_takeLeastCrossed 104 (.iinc 5 1) 3 107 := ⟨by decide +kernel, rfl⟩
theorem dX7_takeLeastCrossed_107 : xj cX7_takeLeastCrossed 107 .goto 110 22 := ⟨(-85), by decide +kernel, rfl, by decide⟩
theorem dX7_takeLeastCrossed_110 : xd cX7_takeLeastCrossed 110 .return_ 1 111 := ⟨by decide +kernel, rfl⟩

set_option maxRecDepth 100000 in
set_option maxHeartbeats 4000000 in
theorem ct_X7_takeLeastCrossed (l : Launch) (g : XG) (aW aS aL aC aO aWs aWt : Nat) (aV aCs aCl aCh aCw aCc aCb tot lat : Nat) (se sw : Int32) (cr tk : Nat → Nat) (n : Nat) (htot : tot < 2 ^ 30) (hn : n ≤ 495) : Ct l g 3 0 0 yX7_takeLeastCrossed cX7_takeLeastCrossed 7 none [.ref aW, .int (nI n)] [(aW, .inr (7, [.ref aS, .ref aL, .ref aC, .ref aO, .ref aWs, .ref aWt])), (aC, .inr (0, [.ref aS, .ref aL, .ref aV, .ref aO, .ref aCs, .ref aCl, .ref aCh, .ref aCw, .ref aCc, .ref aCb, .int (nI tot), .int (nI lat), .int se, .int sw])), (aCc, .inl (g.2.1 0, 495, .inl (nIf cr))), (aWt, .inl (g.2.1 0, 495, .inl (nIf tk)))] (xpv [(aW, .inr (7, [.ref aS, .ref aL, .ref aC, .ref aO, .ref aWs, .ref aWt])), (aC, .inr (0, [.ref aS, .ref aL, .ref aV, .ref aO, .ref aCs, .ref aCl, .ref aCh, .ref aCw, .ref aCc, .ref aCb, .int (nI tot), .int (nI lat), .int se, .int sw])), (aCc, .inl (g.2.1 0, 495, .inl (nIf cr))), (aWt, .inl (g.2.1 0, 495, .inl (nIf (tkF cr n tot))))]) := by
  refine Ct.ofX (lv := [some (.ref aW), some (.int (nI n)), none, none, none, none, none]) (by decide) rfl (Nat.le_of_ble_eq_true rfl) (fun κ => ?_)
  generalize hQ : xQ κ g 0 0 _ = Q
  refine x_aload_n dX7_takeLeastCrossed_0 rfl ?_
  refine x_iload_n dX7_takeLeastCrossed_1 rfl ?_
  refine x_cVi0 dX7_takeLeastCrossed_2 ml_X7_105 mX7_leastBound (ct_X7_leastBound κ.2.1 g aW aS aL aC aO aWs aWt aV aCs aCl aCh aCw aCc aCb tot lat se sw cr n (htot) (hn)) [0, 1, 2] rfl rfl 0 rfl rfl rfl (Nat.le_of_ble_eq_true rfl) (by decide) (Nat.le_refl _) (Nat.le_refl _) ?_
  refine x_istore_n (lv' := [some (.ref aW), some (.int (nI n)), some (.int (nI (lbB cr n tot))), none, none, none, none]) dX7_takeLeastCrossed_5 (xlt rfl) rfl ?_
  refine x_aload_n dX7_takeLeastCrossed_6 rfl ?_
  refine x_iload_n dX7_takeLeastCrossed_7 rfl ?_
  refine x_iconst 1 dX7_takeLeastCrossed_8 (by decide) ?_
  refine x_isub dX7_takeLeastCrossed_9 ?_
  refine x_cVi0 dX7_takeLeastCrossed_10 ml_X7_108 mX7_countUpTo (ct_X7_countUpTo κ.2.1 g aW aS aL aC aO aWs aWt aV aCs aCl aCh aCw aCc aCb tot lat se sw cr ((nI (lbB cr n tot)) - 1)) [0, 1, 2] rfl rfl 0 rfl rfl rfl (Nat.le_of_ble_eq_true rfl) (by decide) (Nat.le_refl _) (Nat.le_refl _) ?_
  refine x_istore_n (lv' := [some (.ref aW), some (.int (nI n)), some (.int (nI (lbB cr n tot))), some (.int (nI (cntU cr ((nI (lbB cr n tot)) - 1) 495))), none, none, none]) dX7_takeLeastCrossed_13 (xlt rfl) rfl ?_
  refine x_iload_n dX7_takeLeastCrossed_14 rfl ?_
  refine x_iload_n dX7_takeLeastCrossed_15 rfl ?_
  refine x_isub dX7_takeLeastCrossed_16 ?_
  refine x_istore (lv' := [some (.ref aW), some (.int (nI n)), some (.int (nI (lbB cr n tot))), some (.int (nI (cntU cr ((nI (lbB cr n tot)) - 1) 495))), some (.int ((nI n) - (nI (cntU cr ((nI (lbB cr n tot)) - 1) 495)))), none, none]) dX7_takeLeastCrossed_17 (xlt rfl) rfl ?_
  refine x_iconst 0 dX7_takeLeastCrossed_19 (by decide) ?_
  refine x_istore (lv' := [some (.ref aW), some (.int (nI n)), some (.int (nI (lbB cr n tot))), some (.int (nI (cntU cr ((nI (lbB cr n tot)) - 1) 495))), some (.int ((nI n) - (nI (cntU cr ((nI (lbB cr n tot)) - 1) 495)))), some (.int 0), none]) dX7_takeLeastCrossed_20 (xlt rfl) rfl ?_
  have L22_1 : ∀ (i : Nat), i ≤ 495 → ∀ (lf : Int32), lf = tkL cr n tot i → ∀ (tq : Nat → Nat), tq = fillT i (tkF cr n tot) tk → Xs κ g 3 0 0 cX7_takeLeastCrossed yX7_takeLeastCrossed none Q 0 0 22 [some (.ref aW), some (.int (nI n)), some (.int (nI (lbB cr n tot))), some (.int (nI (cntU cr ((nI (lbB cr n tot)) - 1) 495))), some (.int lf), some (.int (nI i)), none] [] [(aW, .inr (7, [.ref aS, .ref aL, .ref aC, .ref aO, .ref aWs, .ref aWt])), (aC, .inr (0, [.ref aS, .ref aL, .ref aV, .ref aO, .ref aCs, .ref aCl, .ref aCh, .ref aCw, .ref aCc, .ref aCb, .int (nI tot), .int (nI lat), .int se, .int sw])), (aCc, .inl (g.2.1 0, 495, .inl (nIf cr))), (aWt, .inl (g.2.1 0, 495, .inl (nIf tq)))] := by
    refine upTo 495 (fun i hi22 ih22 => ?_)
    intro lf elf
    subst elf
    intro tq etq
    subst etq
    refine x_iload dX7_takeLeastCrossed_22 rfl ?_
    refine x_sipush 495 dX7_takeLeastCrossed_24 (by decide) ?_
    refine x_icmp_ge dX7_takeLeastCrossed_27 (fun c27 => ?_) (fun c27 => ?_)
    · have c27 : 495 ≤ (nI i) := c27
      have c27n := (nI_leI (a := 495) (b := i) (by omega) (by omega)).mp c27
      have hxc27 : i = 495 := by omega
      try rw [hxc27]
      refine x_funi (ws' := [(aW, .inr (7, [.ref aS, .ref aL, .ref aC, .ref aO, .ref aWs, .ref aWt])), (aC, .inr (0, [.ref aS, .ref aL, .ref aV, .ref aO, .ref aCs, .ref aCl, .ref aCh, .ref aCw, .ref aCc, .ref aCb, .int (nI tot), .int (nI lat), .int se, .int sw])), (aCc, .inl (g.2.1 0, 495, .inl (nIf cr))), (aWt, .inl (g.2.1 0, 495, .inl (nIf (tkF cr n tot))))]) (q0 := 3) rfl (fun j hj => congrArg nI (fillT_in _ _ hj)) rfl ?_
      rw [← hQ]
      refine x_vret dX7_takeLeastCrossed_110 rfl (Nat.le_of_ble_eq_true rfl) (Nat.le_of_ble_eq_true rfl) ?_
      exact ⟨rfl, rfl⟩
    · have c27 : ¬ (495 ≤ (nI i)) := c27
      have c27n := mt (nI_leI (a := 495) (b := i) (by omega) (by omega)).mpr c27
      refine x_aload_n dX7_takeLeastCrossed_30 rfl ?_
      refine x_get dX7_takeLeastCrossed_31 0 2 inX7 fl_X7_27 rfl rfl (by decide) rfl ?_
      refine x_get dX7_takeLeastCrossed_34 1 8 inX0 fl_X7_111 rfl rfl (by decide) rfl ?_
      refine x_iload dX7_takeLeastCrossed_37 rfl ?_
      refine x_iald dX7_takeLeastCrossed_39 2 i rfl (rfl) (by omega) (by decide) ?_
      refine x_iload_n dX7_takeLeastCrossed_40 rfl ?_
      have J41_9 : ∀ (v8 : Int32), v8 = (if (nI (cr i)) < (nI (lbB cr n tot)) then 1 else ((if (nI (cr i)) = (nI (lbB cr n tot)) then ((if (tkL cr n tot i) ≤ 0 then 0 else 1)) else 0))) → Xs κ g 3 0 0 cX7_takeLeastCrossed yX7_takeLeastCrossed none Q 0 0 68 [some (.ref aW), some (.int (nI n)), some (.int (nI (lbB cr n tot))), some (.int (nI (cntU cr ((nI (lbB cr n tot)) - 1) 495))), some (.int (tkL cr n tot i)), some (.int (nI i)), none] [.int v8] [(aW, .inr (7, [.ref aS, .ref aL, .ref aC, .ref aO, .ref aWs, .ref aWt])), (aC, .inr (0, [.ref aS, .ref aL, .ref aV, .ref aO, .ref aCs, .ref aCl, .ref aCh, .ref aCw, .ref aCc, .ref aCb, .int (nI tot), .int (nI lat), .int se, .int sw])), (aCc, .inl (g.2.1 0, 495, .inl (nIf cr))), (aWt, .inl (g.2.1 0, 495, .inl (nIf (fillT i (tkF cr n tot) tk))))] := by
        intro v8 ev8
        refine x_istore (lv' := [some (.ref aW), some (.int (nI n)), some (.int (nI (lbB cr n tot))), some (.int (nI (cntU cr ((nI (lbB cr n tot)) - 1) 495))), some (.int (tkL cr n tot i)), some (.int (nI i)), some (.int v8)]) dX7_takeLeastCrossed_68 (xlt rfl) rfl ?_
        refine x_aload_n dX7_takeLeastCrossed_70 rfl ?_
        refine x_get dX7_takeLeastCrossed_71 0 2 inX7 fl_X7_27 rfl rfl (by decide) rfl ?_
        refine x_get dX7_takeLeastCrossed_74 1 8 inX0 fl_X7_111 rfl rfl (by decide) rfl ?_
        refine x_iload dX7_takeLeastCrossed_77 rfl ?_
        refine x_iald dX7_takeLeastCrossed_79 2 i rfl (rfl) (by omega) (by decide) ?_
        refine x_iload_n dX7_takeLeastCrossed_80 rfl ?_
        have J81_11 : ∀ (v10 : Int32), v10 = (if (nI (cr i)) = (nI (lbB cr n tot)) then (tkL cr n tot i) + (-1) else tkL cr n tot i) → Xs κ g 3 0 0 cX7_takeLeastCrossed yX7_takeLeastCrossed none Q 0 0 87 [some (.ref aW), some (.int (nI n)), some (.int (nI (lbB cr n tot))), some (.int (nI (cntU cr ((nI (lbB cr n tot)) - 1) 495))), some (.int v10), some (.int (nI i)), some (.int v8)] [] [(aW, .inr (7, [.ref aS, .ref aL, .ref aC, .ref aO, .ref aWs, .ref aWt])), (aC, .inr (0, [.ref aS, .ref aL, .ref aV, .ref aO, .ref aCs, .ref aCl, .ref aCh, .ref aCw, .ref aCc, .ref aCb, .int (nI tot), .int (nI lat), .int se, .int sw])), (aCc, .inl (g.2.1 0, 495, .inl (nIf cr))), (aWt, .inl (g.2.1 0, 495, .inl (nIf (fillT i (tkF cr n tot) tk))))] := by
          intro v10 ev10
          refine x_aload_n dX7_takeLeastCrossed_87 rfl ?_
          refine x_get dX7_takeLeastCrossed_88 0 5 inX7 fl_X7_15 rfl rfl (by decide) rfl ?_
          refine x_iload dX7_takeLeastCrossed_91 rfl ?_
          refine x_iload dX7_takeLeastCrossed_93 rfl ?_
          have J95_13 : ∀ (v12 : Int32), v12 = (if v8 = 0 then 0 else 1) → Xs κ g 3 0 0 cX7_takeLeastCrossed yX7_takeLeastCrossed none Q 0 0 103 [some (.ref aW), some (.int (nI n)), some (.int (nI (lbB cr n tot))), some (.int (nI (cntU cr ((nI (lbB cr n tot)) - 1) 495))), some (.int v10), some (.int (nI i)), some (.int v8)] [.int v12, .int (nI i), .ref aWt] [(aW, .inr (7, [.ref aS, .ref aL, .ref aC, .ref aO, .ref aWs, .ref aWt])), (aC, .inr (0, [.ref aS, .ref aL, .ref aV, .ref aO, .ref aCs, .ref aCl, .ref aCh, .ref aCw, .ref aCc, .ref aCb, .int (nI tot), .int (nI lat), .int se, .int sw])), (aCc, .inl (g.2.1 0, 495, .inl (nIf cr))), (aWt, .inl (g.2.1 0, 495, .inl (nIf (fillT i (tkF cr n tot) tk))))] := by
            intro v12 ev12
            refine x_rei (nI (tkF cr n tot i)) (by simp only [ev12, ev8]; exact tk_if _ _ _) ?_
            refine x_iast (ws' := [(aW, .inr (7, [.ref aS, .ref aL, .ref aC, .ref aO, .ref aWs, .ref aWt])), (aC, .inr (0, [.ref aS, .ref aL, .ref aV, .ref aO, .ref aCs, .ref aCl, .ref aCh, .ref aCw, .ref aCc, .ref aCb, .int (nI tot), .int (nI lat), .int se, .int sw])), (aCc, .inl (g.2.1 0, 495, .inl (nIf cr))), (aWt, .inl (g.2.1 0, 495, .inl (nIf (updN (fillT i (tkF cr n tot) tk) i (tkF cr n tot i)))))]) dX7_takeLeastCrossed_103 3 i rfl (rfl) (by omega) (by decide) (by rw [upd_nIf]; rfl) ?_
            refine x_iinc (lv' := [some (.ref aW), some (.int (nI n)), some (.int (nI (lbB cr n tot))), some (.int (nI (cntU cr ((nI (lbB cr n tot)) - 1) 495))), some (.int v10), some (.int (nI (i + 1))), some (.int v8)]) (nI (i + 1)) dX7_takeLeastCrossed_104 rfl (nI_addc i 1 rfl) rfl ?_
            refine x_goto dX7_takeLeastCrossed_107 ?_
            refine x_fgt (lv' := [some (.ref aW), some (.int (nI n)), some (.int (nI (lbB cr n tot))), some (.int (nI (cntU cr ((nI (lbB cr n tot)) - 1) 495))), some (.int v10), some (.int (nI (i + 1))), none]) ⟨Or.inr rfl, Or.inr rfl, Or.inr rfl, Or.inr rfl, Or.inr rfl, Or.inr rfl, Or.inl rfl, trivial⟩ ?_
            exact ih22 (by omega) _ (by simp only [ev10]; exact tkL_step cr n tot i) (updN (fillT i (tkF cr n tot) tk) i (tkF cr n tot i)) (by exact fillT_updN i (tkF cr n tot) tk)
          refine x_if_eq dX7_takeLeastCrossed_95 (fun c95 => ?_) (fun c95 => ?_)
          · have c95 : v8 = 0 := c95
            refine x_iconst 0 dX7_takeLeastCrossed_102 (by decide) ?_
            exact J95_13 _ (if_pos c95).symm
          · have c95 : ¬ (v8 = 0) := c95
            refine x_iconst 1 dX7_takeLeastCrossed_98 (by decide) ?_
            refine x_goto dX7_takeLeastCrossed_99 ?_
            exact J95_13 _ (if_neg c95).symm
        refine x_icmp_ne dX7_takeLeastCrossed_81 (fun c81 => ?_) (fun c81 => ?_)
        · have c81 : ¬ ((nI (cr i)) = (nI (lbB cr n tot))) := c81
          exact J81_11 _ (if_neg c81).symm
        · have c81 : (nI (cr i)) = (nI (lbB cr n tot)) := c81
          refine x_iinc (lv' := [some (.ref aW), some (.int (nI n)), some (.int (nI (lbB cr n tot))), some (.int (nI (cntU cr ((nI (lbB cr n tot)) - 1) 495))), some (.int ((tkL cr n tot i) + (-1))), some (.int (nI i)), some (.int v8)]) ((tkL cr n tot i) + (-1)) dX7_takeLeastCrossed_84 rfl (rfl) rfl ?_
          exact J81_11 _ (if_pos c81).symm
      refine x_icmp_lt dX7_takeLeastCrossed_41 (fun c41 => ?_) (fun c41 => ?_)
      · have c41 : (nI (cr i)) < (nI (lbB cr n tot)) := c41
        refine x_iconst 1 dX7_takeLeastCrossed_63 (by decide) ?_
        refine x_goto dX7_takeLeastCrossed_64 ?_
        exact J41_9 _ (if_pos c41).symm
      · have c41 : ¬ ((nI (cr i)) < (nI (lbB cr n tot))) := c41
        refine x_aload_n dX7_takeLeastCrossed_44 rfl ?_
        refine x_get dX7_takeLeastCrossed_45 0 2 inX7 fl_X7_27 rfl rfl (by decide) rfl ?_
        refine x_get dX7_takeLeastCrossed_48 1 8 inX0 fl_X7_111 rfl rfl (by decide) rfl ?_
        refine x_iload dX7_takeLeastCrossed_51 rfl ?_
        refine x_iald dX7_takeLeastCrossed_53 2 i rfl (rfl) (by omega) (by decide) ?_
        refine x_iload_n dX7_takeLeastCrossed_54 rfl ?_
        have J55_17 : ∀ (v16 : Int32), v16 = (if (nI (cr i)) = (nI (lbB cr n tot)) then ((if (tkL cr n tot i) ≤ 0 then 0 else 1)) else 0) → Xs κ g 3 0 0 cX7_takeLeastCrossed yX7_takeLeastCrossed none Q 0 0 68 [some (.ref aW), some (.int (nI n)), some (.int (nI (lbB cr n tot))), some (.int (nI (cntU cr ((nI (lbB cr n tot)) - 1) 495))), some (.int (tkL cr n tot i)), some (.int (nI i)), none] [.int v16] [(aW, .inr (7, [.ref aS, .ref aL, .ref aC, .ref aO, .ref aWs, .ref aWt])), (aC, .inr (0, [.ref aS, .ref aL, .ref aV, .ref aO, .ref aCs, .ref aCl, .ref aCh, .ref aCw, .ref aCc, .ref aCb, .int (nI tot), .int (nI lat), .int se, .int sw])), (aCc, .inl (g.2.1 0, 495, .inl (nIf cr))), (aWt, .inl (g.2.1 0, 495, .inl (nIf (fillT i (tkF cr n tot) tk))))] := by
          intro v16 ev16
          exact J41_9 _ (by rw [if_neg c41]; try simp only [ev16])
        refine x_icmp_ne dX7_takeLeastCrossed_55 (fun c55 => ?_) (fun c55 => ?_)
        · have c55 : ¬ ((nI (cr i)) = (nI (lbB cr n tot))) := c55
          refine x_iconst 0 dX7_takeLeastCrossed_67 (by decide) ?_
          exact J55_17 _ (if_neg c55).symm
        · have c55 : (nI (cr i)) = (nI (lbB cr n tot)) := c55
          refine x_iload dX7_takeLeastCrossed_58 rfl ?_
          have J60_19 : ∀ (v18 : Int32), v18 = (if (tkL cr n tot i) ≤ 0 then 0 else 1) → Xs κ g 3 0 0 cX7_takeLeastCrossed yX7_takeLeastCrossed none Q 0 0 68 [some (.ref aW), some (.int (nI n)), some (.int (nI (lbB cr n tot))), some (.int (nI (cntU cr ((nI (lbB cr n tot)) - 1) 495))), some (.int (tkL cr n tot i)), some (.int (nI i)), none] [.int v18] [(aW, .inr (7, [.ref aS, .ref aL, .ref aC, .ref aO, .ref aWs, .ref aWt])), (aC, .inr (0, [.ref aS, .ref aL, .ref aV, .ref aO, .ref aCs, .ref aCl, .ref aCh, .ref aCw, .ref aCc, .ref aCb, .int (nI tot), .int (nI lat), .int se, .int sw])), (aCc, .inl (g.2.1 0, 495, .inl (nIf cr))), (aWt, .inl (g.2.1 0, 495, .inl (nIf (fillT i (tkF cr n tot) tk))))] := by
            intro v18 ev18
            exact J55_17 _ (by rw [if_pos c55]; try simp only [ev18])
          refine x_if_le dX7_takeLeastCrossed_60 (fun c60 => ?_) (fun c60 => ?_)
          · have c60 : (tkL cr n tot i) ≤ 0 := c60
            refine x_iconst 0 dX7_takeLeastCrossed_67 (by decide) ?_
            exact J60_19 _ (if_pos c60).symm
          · have c60 : ¬ ((tkL cr n tot i) ≤ 0) := c60
            refine x_iconst 1 dX7_takeLeastCrossed_63 (by decide) ?_
            refine x_goto dX7_takeLeastCrossed_64 ?_
            exact J60_19 _ (if_neg c60).symm
  exact L22_1 0 (Nat.zero_le _) _ (by exact (tkL_0 cr n tot).symm) tk (by exact (fillT_0 _ _).symm)

-- == X7_afterSeekers ==
theorem dX7_afterSeekers_0 : xd cX7_afterSeekers 0 (.aload_n 0) 1 1 := ⟨by decide +kernel, rfl⟩
theorem dX7_afterSeekers_1 : xd cX7_afterSeekers 1 (.getfield 27) 3 4 := ⟨by decide +kernel, rfl⟩
theorem dX7_afterSeekers_4 : xd cX7_afterSeekers 4 (.getfield 111) 3 7 := ⟨by decide +kernel, rfl⟩
theorem dX7_afterSeekers_7 : xd cX7_afterSeekers 7 (.iconst 0) 1 8 := ⟨by decide +kernel, rfl⟩
theorem dX7_afterSeekers_8 : xd cX7_afterSeekers 8 (.aload_n 0) 1 9 := ⟨by decide +kernel, rfl⟩
theorem dX7_afterSeekers_9 : xd cX7_afterSeekers 9 (.getfield 15) 3 12 := ⟨by decide +kernel, rfl⟩
theorem dX7_afterSeekers_12 : xd cX7_afterSeekers 12 (.iconst 0) 1 13 := ⟨by decide +kernel, rfl⟩
theorem dX7_afterSeekers_13 : xd cX7_afterSeekers 13 (.sipush 495) 3 16 := ⟨by decide +kernel, rfl⟩
theorem dX7_afterSeekers_16 : xd cX7_afterSeekers 16 (.invokestatic 114) 3 19 := ⟨by decide +kernel, rfl⟩
theorem dX7_afterSeekers_19 : xd cX7_afterSeekers 19 (.iconst 0) 1 20 := ⟨by decide +kernel, rfl⟩
theorem dX7_afterSeekers_20 : xd cX7_afterSeekers 20 (.istore_n 3) 1 21 := ⟨by decide +kernel, rfl⟩
theorem dX7_afterSeekers_21 : xd cX7_afterSeekers 21 (.iconst 0) 1 22 := ⟨by decide +kernel, rfl⟩
theorem dX7_afterSeekers_22 : xd cX7_afterSeekers 22 (.istore 4) 2 24 := ⟨by decide +kernel, rfl⟩
theorem dX7_afterSeekers_24 : xd cX7_afterSeekers 24 (.iload 4) 2 26 := ⟨by decide +kernel, rfl⟩
theorem dX7_afterSeekers_26 : xd cX7_afterSeekers 26 (.iload_n 1) 1 27 := ⟨by decide +kernel, rfl⟩
theorem dX7_afterSeekers_27 : xj cX7_afterSeekers 27 (.if_icmp .ge) 30 89 := ⟨62, by decide +kernel, rfl, by decide⟩
theorem dX7_afterSeekers_30 : xd cX7_afterSeekers 30 (.iload 4) 2 32 := ⟨by decide +kernel, rfl⟩
theorem dX7_afterSeekers_32 : xd cX7_afterSeekers 32 (.sipush 200) 3 35 := ⟨by decide +kernel, rfl⟩
theorem dX7_afterSeekers_35 : xj cX7_afterSeekers 35 (.if_icmp .ge) 38 89 := ⟨54, by decide +kernel, rfl, by decide⟩
theorem dX7_afterSeekers_38 : xd cX7_afterSeekers 38 (.aload_n 0) 1 39 := ⟨by decide +kernel, rfl⟩
theorem dX7_afterSeekers_39 : xd cX7_afterSeekers 39 (.invokevirtual 120) 3 42 := ⟨by decide +kernel, rfl⟩
theorem dX7_afterSeekers_42 : xd cX7_afterSeekers 42 (.istore 5) 2 44 := ⟨by decide +kernel, rfl⟩
theorem dX7_afterSeekers_44 : xd cX7_afterSeekers 44 (.iload_n 3) 1 45 := ⟨by decide +kernel, rfl⟩
theorem dX7_afterSeekers_45 : xd cX7_afterSeekers 45 (.aload_n 0) 1 46 := ⟨by decide +kernel, rfl⟩
theorem dX7_afterSeekers_46 : xd cX7_afterSeekers 46 (.getfield 15) 3 49 := ⟨by decide +kernel, rfl⟩
theorem dX7_afterSeekers_49 : xd cX7_afterSeekers 49 (.iload 5) 2 51 := ⟨by decide +kernel, rfl⟩
theorem dX7_afterSeekers_51 : xd cX7_afterSeekers 51 .iaload 1 52 := ⟨by decide +kernel, rfl⟩
theorem dX7_afterSeekers_52 : xd cX7_afterSeekers 52 (.aload_n 0) 1 53 := ⟨by decide +kernel, rfl⟩
theorem dX7_afterSeekers_53 : xd cX7_afterSeekers 53 (.getfield 27) 3 56 := ⟨by decide +kernel, rfl⟩
theorem dX7_afterSeekers_56 : xd cX7_afterSeekers 56 (.getfield 111) 3 59 := ⟨by decide +kernel, rfl⟩
theorem dX7_afterSeekers_59 : xd cX7_afterSeekers 59 (.iload 5) 2 61 := ⟨by decide +kernel, rfl⟩
theorem dX7_afterSeekers_61 : xd cX7_afterSeekers 61 .iaload 1 62 := ⟨by decide +kernel, rfl⟩
theorem dX7_afterSeekers_62 : xj cX7_afterSeekers 62 (.if_icmp .ne) 65 69 := ⟨7, by decide +kernel, rfl, by decide⟩
theorem dX7_afterSeekers_65 : xd cX7_afterSeekers 65 (.iconst 1) 1 66 := ⟨by decide +kernel, rfl⟩
theorem dX7_afterSeekers_66 : xj cX7_afterSeekers 66 .goto 69 70 := ⟨4, by decide +kernel, rfl, by decide⟩
theorem dX7_afterSeekers_69 : xd cX7_afterSeekers 69 (.iconst 0) 1 70 := ⟨by decide +kernel, rfl⟩
theorem dX7_afterSeekers_70 : xd cX7_afterSeekers 70 .iadd 1 71 := ⟨by decide +kernel, rfl⟩
theorem dX7_afterSeekers_71 : xd cX7_afterSeekers 71 (.istore_n 3) 1 72 := ⟨by decide +kernel, rfl⟩
theorem dX7_afterSeekers_72 : xd cX7_afterSeekers 72 (.aload_n 0) 1 73 := ⟨by decide +kernel, rfl⟩
theorem dX7_afterSeekers_73 : xd cX7_afterSeekers 73 (.getfield 15) 3 76 := ⟨by decide +kernel, rfl⟩
theorem dX7_afterSeekers_76 : xd cX7_afterSeekers 76 (.iload 5) 2 78 := ⟨by decide +kernel, rfl⟩
theorem dX7_afterSeekers_78 : xd cX7_afterSeekers 78 .dup2 1 79 := ⟨by decide +kernel, rfl⟩
theorem dX7_afterSeekers_79 : xd cX7_afterSeekers 79 .iaload 1 80 := ⟨by decide +kernel, rfl⟩
theorem dX7_afterSeekers_80 : xd cX7_afterSeekers 80 (.iconst 1) 1 81 := ⟨by decide +kernel, rfl⟩
theorem dX7_afterSeekers_81 : xd cX7_afterSeekers 81 .iadd 1 82 := ⟨by decide +kernel, rfl⟩
theorem dX7_afterSeekers_82 : xd cX7_afterSeekers 82 .iastore 1 83 := ⟨by decide +kernel, rfl⟩
theorem dX7_afterSeekers_83 : xd cX7_afterSeekers 83 (.iinc 4 1) 3 86 := ⟨by decide +kernel, rfl⟩
theorem dX7_afterSeekers_86 : xj cX7_afterSeekers 86 .goto 89 24 := ⟨(-62), by decide +kernel, rfl, by decide⟩
theorem dX7_afterSeekers_89 : xd cX7_afterSeekers 89 (.iload_n 2) 1 90 := ⟨by decide +kernel, rfl⟩
theorem dX7_afterSeekers_90 : xj cX7_afterSeekers 90 (.ifCond .eq) 93 97 := ⟨7, by decide +kernel, rfl, by decide⟩
theorem dX7_afterSeekers_93 : xd cX7_afterSeekers 93 (.iload_n 3) 1 94 := ⟨by decide +kernel, rfl⟩
theorem dX7_afterSeekers_94 : xj cX7_afterSeekers 94 .goto 97 106 := ⟨12, by decide +kernel, rfl, by decide⟩
theorem dX7_afterSeekers_97 : xd cX7_afterSeekers 97 (.aload_n 0) 1 98 := ⟨by decide +kernel, rfl⟩
theorem dX7_afterSeekers_98 : xd cX7_afterSeekers 98 (.getfield 15) 3 101 := ⟨by decide +kernel, rfl⟩
theorem dX7_afterSeekers_101 : xd cX7_afterSeekers 101 (.aload_n 0) 1 102 := ⟨by decide +kernel, rfl⟩
theorem dX7_afterSeekers_102 : xd cX7_afterSeekers 102 (.invokevirtual 120) 3 105 := ⟨by decide +kernel, rfl⟩
theorem dX7_afterSeekers_105 : xd cX7_afterSeekers 105 .iaload 1 106 := ⟨by decide +kernel, rfl⟩
theorem dX7_afterSeekers_106 : xd cX7_afterSeekers 106 .ireturn 1 107 := ⟨by decide +kernel, rfl⟩

set_option maxRecDepth 100000 in
set_option maxHeartbeats 4000000 in
theorem ct_X7_afterSeekers (l : Launch) (g : XG) (aW aS aL aC aO aWs aWt : Nat) (aV aCs aCl aCh aCw aCc aCb tot lat : Nat) (se sw : Int32) (cr tk : Nat → Nat) (m : Nat) (fl : Int32) (hm : m ≤ 200) : Ct l g 2 0 0 yX7_afterSeekers cX7_afterSeekers 6 (some .int) [.ref aW, .int (nI m), .int fl] [(aW, .inr (7, [.ref aS, .ref aL, .ref aC, .ref aO, .ref aWs, .ref aWt])), (aC, .inr (0, [.ref aS, .ref aL, .ref aV, .ref aO, .ref aCs, .ref aCl, .ref aCh, .ref aCw, .ref aCc, .ref aCb, .int (nI tot), .int (nI lat), .int se, .int sw])), (aCc, .inl (g.2.1 0, 495, .inl (nIf cr))), (aWt, .inl (g.2.1 0, 495, .inl (nIf tk)))] (xpi (nI (if fl = 0 then skT cr m (lsT (skT cr m) 495) else dfN cr m)) [(aW, .inr (7, [.ref aS, .ref aL, .ref aC, .ref aO, .ref aWs, .ref aWt])), (aC, .inr (0, [.ref aS, .ref aL, .ref aV, .ref aO, .ref aCs, .ref aCl, .ref aCh, .ref aCw, .ref aCc, .ref aCb, .int (nI tot), .int (nI lat), .int se, .int sw])), (aCc, .inl (g.2.1 0, 495, .inl (nIf cr))), (aWt, .inl (g.2.1 0, 495, .inl (nIf (skT cr m))))]) := by
  refine Ct.ofX (lv := [some (.ref aW), some (.int (nI m)), some (.int fl), none, none, none]) (by decide) rfl (Nat.le_of_ble_eq_true rfl) (fun κ => ?_)
  generalize hQ : xQ κ g 0 0 _ = Q
  refine x_aload_n dX7_afterSeekers_0 rfl ?_
  refine x_get dX7_afterSeekers_1 0 2 inX7 fl_X7_27 rfl rfl (by decide) rfl ?_
  refine x_get dX7_afterSeekers_4 1 8 inX0 fl_X7_111 rfl rfl (by decide) rfl ?_
  refine x_iconst 0 dX7_afterSeekers_7 (by decide) ?_
  refine x_aload_n dX7_afterSeekers_8 rfl ?_
  refine x_get dX7_afterSeekers_9 0 5 inX7 fl_X7_15 rfl rfl (by decide) rfl ?_
  refine x_iconst 0 dX7_afterSeekers_12 (by decide) ?_
  refine x_sipush 495 dX7_afterSeekers_13 (by decide) ?_
  refine x_copyi (ti := 0) (ws' := [(aW, .inr (7, [.ref aS, .ref aL, .ref aC, .ref aO, .ref aWs, .ref aWt])), (aC, .inr (0, [.ref aS, .ref aL, .ref aV, .ref aO, .ref aCs, .ref aCl, .ref aCh, .ref aCw, .ref aCc, .ref aCb, .int (nI tot), .int (nI lat), .int se, .int sw])), (aCc, .inl (g.2.1 0, 495, .inl (nIf cr))), (aWt, .inl (g.2.1 0, 495, .inl (va_cpy (nIf cr) (nIf tk) 0 0 495)))]) (sp := 0) (dp := 0) (n := 495) dX7_afterSeekers_16 ml_X7_114 2 3 rfl rfl rfl rfl rfl (rfl) (rfl) (rfl) (by omega) (by omega) ⟨by decide, by decide⟩ (fun _ _ => rfl) (Nat.le_of_ble_eq_true rfl) (by decide) rfl ?_
  refine x_funi (ws' := [(aW, .inr (7, [.ref aS, .ref aL, .ref aC, .ref aO, .ref aWs, .ref aWt])), (aC, .inr (0, [.ref aS, .ref aL, .ref aV, .ref aO, .ref aCs, .ref aCl, .ref aCh, .ref aCw, .ref aCc, .ref aCb, .int (nI tot), .int (nI lat), .int se, .int sw])), (aCc, .inl (g.2.1 0, 495, .inl (nIf cr))), (aWt, .inl (g.2.1 0, 495, .inl (nIf cr)))]) (q0 := 3) rfl (fun j hj => cpy_all _ _ hj) rfl ?_
  refine x_iconst 0 dX7_afterSeekers_19 (by decide) ?_
  refine x_istore_n (lv' := [some (.ref aW), some (.int (nI m)), some (.int fl), some (.int 0), none, none]) dX7_afterSeekers_20 (xlt rfl) rfl ?_
  refine x_iconst 0 dX7_afterSeekers_21 (by decide) ?_
  refine x_istore (lv' := [some (.ref aW), some (.int (nI m)), some (.int fl), some (.int 0), some (.int 0), none]) dX7_afterSeekers_22 (xlt rfl) rfl ?_
  have L24_1 : ∀ (i : Nat), i ≤ m → ∀ (df : Nat), df = dfN cr i → ∀ (tq : Nat → Nat), tq = skT cr i → Xs κ g 2 0 0 cX7_afterSeekers yX7_afterSeekers (some .int) Q 0 0 24 [some (.ref aW), some (.int (nI m)), some (.int fl), some (.int (nI df)), some (.int (nI i)), none] [] [(aW, .inr (7, [.ref aS, .ref aL, .ref aC, .ref aO, .ref aWs, .ref aWt])), (aC, .inr (0, [.ref aS, .ref aL, .ref aV, .ref aO, .ref aCs, .ref aCl, .ref aCh, .ref aCw, .ref aCc, .ref aCb, .int (nI tot), .int (nI lat), .int se, .int sw])), (aCc, .inl (g.2.1 0, 495, .inl (nIf cr))), (aWt, .inl (g.2.1 0, 495, .inl (nIf tq)))] := by
    refine upTo m (fun i hi24 ih24 => ?_)
    intro df edf
    subst edf
    intro tq etq
    subst etq
    refine x_iload dX7_afterSeekers_24 rfl ?_
    refine x_iload_n dX7_afterSeekers_26 rfl ?_
    refine x_icmp_ge dX7_afterSeekers_27 (fun c27 => ?_) (fun c27 => ?_)
    · have c27 : (nI m) ≤ (nI i) := c27
      have c27n := (nI_leI (a := m) (b := i) (by omega) (by omega)).mp c27
      have hxc27 : i = m := by omega
      try rw [hxc27]
      refine x_iload_n dX7_afterSeekers_89 rfl ?_
      have J90_3 : ∀ (v2 : Nat), v2 = (if fl = 0 then (skT cr m) (lsT (skT cr m) 495) else (dfN cr m)) → Xs κ g 2 0 0 cX7_afterSeekers yX7_afterSeekers (some .int) Q 0 0 106 [some (.ref aW), some (.int (nI m)), some (.int fl), some (.int (nI ((dfN cr m)))), some (.int (nI m)), none] [.int (nI v2)] [(aW, .inr (7, [.ref aS, .ref aL, .ref aC, .ref aO, .ref aWs, .ref aWt])), (aC, .inr (0, [.ref aS, .ref aL, .ref aV, .ref aO, .ref aCs, .ref aCl, .ref aCh, .ref aCw, .ref aCc, .ref aCb, .int (nI tot), .int (nI lat), .int se, .int sw])), (aCc, .inl (g.2.1 0, 495, .inl (nIf cr))), (aWt, .inl (g.2.1 0, 495, .inl (nIf (skT cr m))))] := by
        intro v2 ev2
        rw [← hQ]
        refine x_iret dX7_afterSeekers_106 rfl (Nat.le_of_ble_eq_true rfl) (Nat.le_of_ble_eq_true rfl) ?_
        exact ⟨by simp only [ev2], rfl⟩
      refine x_if_eq dX7_afterSeekers_90 (fun c90 => ?_) (fun c90 => ?_)
      · have c90 : fl = 0 := c90
        refine x_aload_n dX7_afterSeekers_97 rfl ?_
        refine x_get dX7_afterSeekers_98 0 5 inX7 fl_X7_15 rfl rfl (by decide) rfl ?_
        refine x_aload_n dX7_afterSeekers_101 rfl ?_
        refine x_cVi0 dX7_afterSeekers_102 ml_X7_120 mX7_leastTaken (ct_X7_leastTaken κ.2.1 g aW aS aL aC aO aWs aWt (skT cr m)) [0, 3] rfl rfl 0 rfl rfl rfl (Nat.le_of_ble_eq_true rfl) (by decide) (Nat.le_refl _) (Nat.le_refl _) ?_
        refine x_iald dX7_afterSeekers_105 3 (lsT (skT cr m) 495) rfl (rfl) (lsT_lt _ (by decide) (Nat.le_refl _)) (by decide) ?_
        exact J90_3 ((skT cr m) (lsT (skT cr m) 495)) (if_pos c90).symm
      · have c90 : ¬ (fl = 0) := c90
        refine x_iload_n dX7_afterSeekers_93 rfl ?_
        refine x_goto dX7_afterSeekers_94 ?_
        exact J90_3 (dfN cr m) (if_neg c90).symm
    · have c27 : ¬ ((nI m) ≤ (nI i)) := c27
      have c27n := mt (nI_leI (a := m) (b := i) (by omega) (by omega)).mpr c27
      refine x_iload dX7_afterSeekers_30 rfl ?_
      refine x_sipush 200 dX7_afterSeekers_32 (by decide) ?_
      refine x_icmp_ge dX7_afterSeekers_35 (fun c35 => ?_) (fun c35 => ?_)
      · have c35 : 200 ≤ (nI i) := c35
        have c35n := (nI_leI (a := 200) (b := i) (by omega) (by omega)).mp c35
        exact absurd c35n (by omega)
      · have c35 : ¬ (200 ≤ (nI i)) := c35
        have c35n := mt (nI_leI (a := 200) (b := i) (by omega) (by omega)).mpr c35
        refine x_aload_n dX7_afterSeekers_38 rfl ?_
        refine x_cVi0 dX7_afterSeekers_39 ml_X7_120 mX7_leastTaken (ct_X7_leastTaken κ.2.1 g aW aS aL aC aO aWs aWt (skT cr i)) [0, 3] rfl rfl 0 rfl rfl rfl (Nat.le_of_ble_eq_true rfl) (by decide) (Nat.le_refl _) (Nat.le_refl _) ?_
        refine x_istore (lv' := [some (.ref aW), some (.int (nI m)), some (.int fl), some (.int (nI ((dfN cr i)))), some (.int (nI i)), some (.int (nI (lsT (skT cr i) 495)))]) dX7_afterSeekers_42 (xlt rfl) rfl ?_
        refine x_iload_n dX7_afterSeekers_44 rfl ?_
        refine x_aload_n dX7_afterSeekers_45 rfl ?_
        refine x_get dX7_afterSeekers_46 0 5 inX7 fl_X7_15 rfl rfl (by decide) rfl ?_
        refine x_iload dX7_afterSeekers_49 rfl ?_
        refine x_iald dX7_afterSeekers_51 3 (lsT (skT cr i) 495) rfl (rfl) (lsT_lt _ (by decide) (Nat.le_refl _)) (by decide) ?_
        refine x_aload_n dX7_afterSeekers_52 rfl ?_
        refine x_get dX7_afterSeekers_53 0 2 inX7 fl_X7_27 rfl rfl (by decide) rfl ?_
        refine x_get dX7_afterSeekers_56 1 8 inX0 fl_X7_111 rfl rfl (by decide) rfl ?_
        refine x_iload dX7_afterSeekers_59 rfl ?_
        refine x_iald dX7_afterSeekers_61 2 (lsT (skT cr i) 495) rfl (rfl) (lsT_lt _ (by decide) (Nat.le_refl _)) (by decide) ?_
        have J62_7 : ∀ (v6 : Int32), v6 = (if (nI ((skT cr i) (lsT (skT cr i) 495))) = (nI (cr (lsT (skT cr i) 495))) then 1 else 0) → Xs κ g 2 0 0 cX7_afterSeekers yX7_afterSeekers (some .int) Q 0 0 70 [some (.ref aW), some (.int (nI m)), some (.int fl), some (.int (nI ((dfN cr i)))), some (.int (nI i)), some (.int (nI (lsT (skT cr i) 495)))] [.int v6, .int (nI ((dfN cr i)))] [(aW, .inr (7, [.ref aS, .ref aL, .ref aC, .ref aO, .ref aWs, .ref aWt])), (aC, .inr (0, [.ref aS, .ref aL, .ref aV, .ref aO, .ref aCs, .ref aCl, .ref aCh, .ref aCw, .ref aCc, .ref aCb, .int (nI tot), .int (nI lat), .int se, .int sw])), (aCc, .inl (g.2.1 0, 495, .inl (nIf cr))), (aWt, .inl (g.2.1 0, 495, .inl (nIf (skT cr i))))] := by
          intro v6 ev6
          refine x_rei (nI (if nI (skT cr i (lsT (skT cr i) 495)) = nI (cr (lsT (skT cr i) 495)) then 1 else 0)) (by simp only [ev6]; split <;> rfl) ?_
          refine x_iadd dX7_afterSeekers_70 ?_
          refine x_rei (nI ((dfN cr i) + (if nI (skT cr i (lsT (skT cr i) 495)) = nI (cr (lsT (skT cr i) 495)) then 1 else 0))) (nI_iadd (dfN cr i) (if nI (skT cr i (lsT (skT cr i) 495)) = nI (cr (lsT (skT cr i) 495)) then 1 else 0)) ?_
          refine x_istore_n (lv' := [some (.ref aW), some (.int (nI m)), some (.int fl), some (.int (nI ((dfN cr i) + (if nI (skT cr i (lsT (skT cr i) 495)) = nI (cr (lsT (skT cr i) 495)) then 1 else 0)))), some (.int (nI i)), some (.int (nI (lsT (skT cr i) 495)))]) dX7_afterSeekers_71 (xlt rfl) rfl ?_
          refine x_aload_n dX7_afterSeekers_72 rfl ?_
          refine x_get dX7_afterSeekers_73 0 5 inX7 fl_X7_15 rfl rfl (by decide) rfl ?_
          refine x_iload dX7_afterSeekers_76 rfl ?_
          refine x_dup2 dX7_afterSeekers_78 rfl rfl ?_
          refine x_iald dX7_afterSeekers_79 3 (lsT (skT cr i) 495) rfl (rfl) (lsT_lt _ (by decide) (Nat.le_refl _)) (by decide) ?_
          refine x_iconst 1 dX7_afterSeekers_80 (by decide) ?_
          refine x_iadd dX7_afterSeekers_81 ?_
          refine x_rei (nI (((skT cr i) (lsT (skT cr i) 495)) + 1)) (nI_addc ((skT cr i) (lsT (skT cr i) 495)) 1 rfl) ?_
          refine x_iast (ws' := [(aW, .inr (7, [.ref aS, .ref aL, .ref aC, .ref aO, .ref aWs, .ref aWt])), (aC, .inr (0, [.ref aS, .ref aL, .ref aV, .ref aO, .ref aCs, .ref aCl, .ref aCh, .ref aCw, .ref aCc, .ref aCb, .int (nI tot), .int (nI lat), .int se, .int sw])), (aCc, .inl (g.2.1 0, 495, .inl (nIf cr))), (aWt, .inl (g.2.1 0, 495, .inl (nIf (updN (skT cr i) (lsT (skT cr i) 495) (((skT cr i) (lsT (skT cr i) 495)) + 1)))))]) dX7_afterSeekers_82 3 (lsT (skT cr i) 495) rfl (rfl) (lsT_lt _ (by decide) (Nat.le_refl _)) (by decide) (by rw [upd_nIf]; rfl) ?_
          refine x_iinc (lv' := [some (.ref aW), some (.int (nI m)), some (.int fl), some (.int (nI ((dfN cr i) + (if nI (skT cr i (lsT (skT cr i) 495)) = nI (cr (lsT (skT cr i) 495)) then 1 else 0)))), some (.int (nI (i + 1))), some (.int (nI (lsT (skT cr i) 495)))]) (nI (i + 1)) dX7_afterSeekers_83 rfl (nI_addc i 1 rfl) rfl ?_
          refine x_goto dX7_afterSeekers_86 ?_
          refine x_fgt (lv' := [some (.ref aW), some (.int (nI m)), some (.int fl), some (.int (nI ((dfN cr i) + (if nI (skT cr i (lsT (skT cr i) 495)) = nI (cr (lsT (skT cr i) 495)) then 1 else 0)))), some (.int (nI (i + 1))), none]) ⟨Or.inr rfl, Or.inr rfl, Or.inr rfl, Or.inr rfl, Or.inr rfl, Or.inl rfl, trivial⟩ ?_
          exact ih24 (by omega) ((dfN cr i) + (if nI (skT cr i (lsT (skT cr i) 495)) = nI (cr (lsT (skT cr i) 495)) then 1 else 0)) (by rfl) (updN (skT cr i) (lsT (skT cr i) 495) (((skT cr i) (lsT (skT cr i) 495)) + 1)) (by rfl)
        refine x_icmp_ne dX7_afterSeekers_62 (fun c62 => ?_) (fun c62 => ?_)
        · have c62 : ¬ ((nI ((skT cr i) (lsT (skT cr i) 495))) = (nI (cr (lsT (skT cr i) 495)))) := c62
          refine x_iconst 0 dX7_afterSeekers_69 (by decide) ?_
          exact J62_7 _ (if_neg c62).symm
        · have c62 : (nI ((skT cr i) (lsT (skT cr i) 495))) = (nI (cr (lsT (skT cr i) 495))) := c62
          refine x_iconst 1 dX7_afterSeekers_65 (by decide) ?_
          refine x_goto dX7_afterSeekers_66 ?_
          exact J62_7 _ (if_pos c62).symm
  exact L24_1 0 (Nat.zero_le _) 0 (by rfl) cr (by rfl)

