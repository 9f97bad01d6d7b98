theorem lt_1 {w : Cond} (i : Nat) (h : tables_1_1[i]? = some w) : w ∈ lw_tbl := List.mem_append_right _ (List.mem_append_left _ (List.mem_of_getElem? h))
theorem lt_2 {w : Cond} (i : Nat) (h : tables_1_2[i]? = some w) : w ∈ lw_tbl := List.mem_append_right _ (List.mem_append_right _ (List.mem_append_left _ (List.mem_of_getElem? h)))
theorem lt_3 {w : Cond} (i : Nat) (h : tables_1_3[i]? = some w) : w ∈ lw_tbl := List.mem_append_right _ (List.mem_append_right _ (List.mem_append_right _ (List.mem_append_left _ (List.mem_of_getElem? h))))
theorem tt_lw {w : Cond} (h : w ∈ TT) : w ∈ lw_tbl := (List.mem_filter.mp h).1
theorem arr_prim {s : State} {args : Array Value} {ty : FieldType} (h : (Cond.arrayClass ty).before args s = true) (hp : ∀ C, ty ≠ .object C) : ∃ cA, ArrOfT s cA ty ∧ va_RA s cA ty := by
  obtain ⟨c, k, comp, h1, h2, h3⟩ := Cond.arrayClass_spec h
  refine ⟨c, fun n z => ⟨fun k h => (by cases h), k, h2, comp, h3⟩, ?_⟩
  cases ty with
  | object C => exact absurd rfl (hp C)
  | _ => exact h1
theorem arr_obj {s : State} {args : Array Value} {C : String} (h : (Cond.arrayOver (.object C)).before args s = true) : ∃ cA, ArrOfT s cA (.object C) ∧ va_RA s cA (.object C) := by
  obtain ⟨comp, cA, kA, f1, f2, f3, f4, f5⟩ := Cond.arrayOver_spec h
  exact ⟨cA, fun n z => ⟨fun k h => (by cases h), kA, f3, comp, f4⟩, kA, comp, f3, f4, f1, f5⟩
theorem st_RULE_FIRST {s : State} {b : Nat} {A : Nat → Prop} (hts : ∀ w ∈ lw_tbl, w.before #[Value.ref b] s = true) (hgv : (Jvm.Cond.and given_1 narrow_1).before #[Value.ref b] s = true) (hA : ∀ a : Nat, a < s.heap.size → ¬ A a) : ∃ t, xSA "RULE_FIRST" t 8 tRF A s s.heap := by
  have hs := flat_of_before _ hgv
  obtain ⟨t, e, hT⟩ := va_Tof (tm := .static "SlipWeeks" "RULE_FIRST" "[I") (ty := .int) (N := 8) (f := fun j => .int (tRF j)) (A := A) (by decide) (hs _ (by decide +kernel)) (va_eqt (hs _ (by decide +kernel))) (fun j hj => va_eqt (by
    rcases (by omega : j = 0 ∨ j = 1 ∨ j = 2 ∨ j = 3 ∨ j = 4 ∨ j = 5 ∨ j = 6 ∨ j = 7) with rfl | rfl | rfl | rfl | rfl | rfl | rfl | rfl <;> exact hs _ (by decide +kernel))) hA
  exact ⟨t, va_Zref (hts _ (lt_1 35 rfl)) (hts _ (tt_lw ini_X8)) e hA, hT⟩
theorem st_KIND_ABOVE {s : State} {b : Nat} {A : Nat → Prop} (hts : ∀ w ∈ lw_tbl, w.before #[Value.ref b] s = true) (hgv : (Jvm.Cond.and given_1 narrow_1).before #[Value.ref b] s = true) (hA : ∀ a : Nat, a < s.heap.size → ¬ A a) : ∃ t, xSA "KIND_ABOVE" t 8 tKA A s s.heap := by
  have hs := flat_of_before _ hgv
  obtain ⟨t, e, hT⟩ := va_Tof (tm := .static "SlipWeeks" "KIND_ABOVE" "[I") (ty := .int) (N := 8) (f := fun j => .int (tKA j)) (A := A) (by decide) (hs _ (by decide +kernel)) (va_eqt (hs _ (by decide +kernel))) (fun j hj => va_eqt (by
    rcases (by omega : j = 0 ∨ j = 1 ∨ j = 2 ∨ j = 3 ∨ j = 4 ∨ j = 5 ∨ j = 6 ∨ j = 7) with rfl | rfl | rfl | rfl | rfl | rfl | rfl | rfl <;> exact hs _ (by decide +kernel))) hA
  exact ⟨t, va_Zref (hts _ (lt_2 135 rfl)) (hts _ (tt_lw ini_X8)) e hA, hT⟩
theorem st_RULE_LEAST {s : State} {b : Nat} {A : Nat → Prop} (hts : ∀ w ∈ lw_tbl, w.before #[Value.ref b] s = true) (hgv : (Jvm.Cond.and given_1 narrow_1).before #[Value.ref b] s = true) (hA : ∀ a : Nat, a < s.heap.size → ¬ A a) : ∃ t, xSA "RULE_LEAST" t 8 tRL A s s.heap := by
  have hs := flat_of_before _ hgv
  obtain ⟨t, e, hT⟩ := va_Tof (tm := .static "SlipWeeks" "RULE_LEAST" "[I") (ty := .int) (N := 8) (f := fun j => .int (tRL j)) (A := A) (by decide) (hs _ (by decide +kernel)) (va_eqt (hs _ (by decide +kernel))) (fun j hj => va_eqt (by
    rcases (by omega : j = 0 ∨ j = 1 ∨ j = 2 ∨ j = 3 ∨ j = 4 ∨ j = 5 ∨ j = 6 ∨ j = 7) with rfl | rfl | rfl | rfl | rfl | rfl | rfl | rfl <;> exact hs _ (by decide +kernel))) hA
  exact ⟨t, va_Zref (hts _ (lt_3 143 rfl)) (hts _ (tt_lw ini_X8)) e hA, hT⟩
theorem st_RULE_MOST {s : State} {b : Nat} {A : Nat → Prop} (hts : ∀ w ∈ lw_tbl, w.before #[Value.ref b] s = true) (hgv : (Jvm.Cond.and given_1 narrow_1).before #[Value.ref b] s = true) (hA : ∀ a : Nat, a < s.heap.size → ¬ A a) : ∃ t, xSA "RULE_MOST" t 8 tRM A s s.heap := by
  have hs := flat_of_before _ hgv
  obtain ⟨t, e, hT⟩ := va_Tof (tm := .static "SlipWeeks" "RULE_MOST" "[I") (ty := .int) (N := 8) (f := fun j => .int (tRM j)) (A := A) (by decide) (hs _ (by decide +kernel)) (va_eqt (hs _ (by decide +kernel))) (fun j hj => va_eqt (by
    rcases (by omega : j = 0 ∨ j = 1 ∨ j = 2 ∨ j = 3 ∨ j = 4 ∨ j = 5 ∨ j = 6 ∨ j = 7) with rfl | rfl | rfl | rfl | rfl | rfl | rfl | rfl <;> exact hs _ (by decide +kernel))) hA
  exact ⟨t, va_Zref (hts _ (lt_3 145 rfl)) (hts _ (tt_lw ini_X8)) e hA, hT⟩
theorem st_PAIRS_BELOW {s : State} {b : Nat} {A : Nat → Prop} (hts : ∀ w ∈ lw_tbl, w.before #[Value.ref b] s = true) (hgv : (Jvm.Cond.and given_1 narrow_1).before #[Value.ref b] s = true) (hA : ∀ a : Nat, a < s.heap.size → ¬ A a) : ∃ t, xSA "PAIRS_BELOW" t 12 tPB A s s.heap := by
  have hs := flat_of_before _ hgv
  obtain ⟨t, e, hT⟩ := va_Tof (tm := .static "SlipWeeks" "PAIRS_BELOW" "[I") (ty := .int) (N := 12) (f := fun j => .int (tPB j)) (A := A) (by decide) (hs _ (by decide +kernel)) (va_eqt (hs _ (by decide +kernel))) (fun j hj => va_eqt (by
    rcases (by omega : j = 0 ∨ j = 1 ∨ j = 2 ∨ j = 3 ∨ j = 4 ∨ j = 5 ∨ j = 6 ∨ j = 7 ∨ j = 8 ∨ j = 9 ∨ j = 10 ∨ j = 11) with rfl | rfl | rfl | rfl | rfl | rfl | rfl | rfl | rfl | rfl | rfl | rfl <;> exact hs _ (by decide +kernel))) hA
  exact ⟨t, va_Zref (hts _ (lt_3 228 rfl)) (hts _ (tt_lw ini_X8)) e hA, hT⟩
theorem st_TRIPLES_BELOW {s : State} {b : Nat} {A : Nat → Prop} (hts : ∀ w ∈ lw_tbl, w.before #[Value.ref b] s = true) (hgv : (Jvm.Cond.and given_1 narrow_1).before #[Value.ref b] s = true) (hA : ∀ a : Nat, a < s.heap.size → ¬ A a) : ∃ t, xSA "TRIPLES_BELOW" t 12 tTB A s s.heap := by
  have hs := flat_of_before _ hgv
  obtain ⟨t, e, hT⟩ := va_Tof (tm := .static "SlipWeeks" "TRIPLES_BELOW" "[I") (ty := .int) (N := 12) (f := fun j => .int (tTB j)) (A := A) (by decide) (hs _ (by decide +kernel)) (va_eqt (hs _ (by decide +kernel))) (fun j hj => va_eqt (by
    rcases (by omega : j = 0 ∨ j = 1 ∨ j = 2 ∨ j = 3 ∨ j = 4 ∨ j = 5 ∨ j = 6 ∨ j = 7 ∨ j = 8 ∨ j = 9 ∨ j = 10 ∨ j = 11) with rfl | rfl | rfl | rfl | rfl | rfl | rfl | rfl | rfl | rfl | rfl | rfl <;> exact hs _ (by decide +kernel))) hA
  exact ⟨t, va_Zref (hts _ (lt_3 230 rfl)) (hts _ (tt_lw ini_X8)) e hA, hT⟩
theorem st_str {s : State} {b : Nat} {A : Nat → Prop} (hts : ∀ w ∈ lw_tbl, w.before #[Value.ref b] s = true) (hgv : (Jvm.Cond.and given_1 narrow_1).before #[Value.ref b] s = true) (hA : ∀ a : Nat, a < s.heap.size → ¬ A a) : ∃ t6 t7 : Nat, vk_S 1 [7] [[115, 108, 103, 101, 99, 100, 119]] (fun _ => t6) (fun _ => t7) A s s.heap ∧ vk_R RX1 81 "slgecdw" t6 s ∧ va_Z "java/lang/String" "COMPACT_STRINGS" "Z" (.int 1) A s s.heap := by
  have hs := flat_of_before _ hgv
  obtain ⟨adK, adV, h1, h2⟩ := vk_Sof (s := s) (args := #[Value.ref b]) (N := 1) (tm := fun _ => .string "SlipWeeks$LikingReader" 81) (len := [7]) (byt := [[115, 108, 103, 101, 99, 100, 119]]) (A := A)
    (fun i hi => by cases (show i = 0 from Nat.lt_one_iff.mp hi); decide) (fun i hi => by cases (show i = 0 from Nat.lt_one_iff.mp hi); exact hs _ (by decide +kernel)) (fun i hi => by cases (show i = 0 from Nat.lt_one_iff.mp hi); exact hs _ (by decide +kernel)) (fun i hi => by cases (show i = 0 from Nat.lt_one_iff.mp hi); exact hs _ (by decide +kernel)) (fun i hi => by cases (show i = 0 from Nat.lt_one_iff.mp hi); exact hs _ (by decide +kernel))
    (fun i hi j hj => by
      have e0 : i = 0 := by omega
      subst e0
      have hj : j < 7 := hj
      rcases (by omega : j = 0 ∨ j = 1 ∨ j = 2 ∨ j = 3 ∨ j = 4 ∨ j = 5 ∨ j = 6) with rfl | rfl | rfl | rfl | rfl | rfl | rfl <;> exact hs _ (by decide +kernel))
    (fun i j hi hj hne => absurd (by omega) hne) hA
  refine ⟨adK 0, adV 0, ⟨fun i hi => ?_, fun i j hi hj _ => by omega⟩, vk_R.of (hts _ (lt_3 34 rfl)) (h2 0 (by decide)), va_Zof (hts _ (lt_3 48 rfl)) (hts _ (tt_lw ini_J0)) (va_eqi (hs _ (by decide +kernel))) hA⟩
  have := h1.1 i hi
  rw [show i = 0 by omega] at this ⊢
  exact this
set_option maxRecDepth 100000 in
set_option maxHeartbeats 4000000 in
theorem start_g {s : State} {b : Nat} {A : Nat → Prop} (hts : ∀ w ∈ lw_tbl, w.before #[Value.ref b] s = true) (hgv : (Jvm.Cond.and given_1 narrow_1).before #[Value.ref b] s = true) (hA : ∀ a : Nat, a < s.heap.size → ¬ A a) : ∃ g : XG, va_K g.1 vwCl (xTy g) s ∧ xSF g A s s.heap := by
  have hTT : ∀ w ∈ TT, w.before #[Value.ref b] s = true := fun w h => hts w (tt_lw h)
  obtain ⟨c0, i0, h0⟩ := u_known (C := RX0) (T := TX0) (N := 14) (n := 14) (s := s) (args := #[Value.ref b]) hTT inX0 (hTT _ inst_X0)
  obtain ⟨c1, i1, h1⟩ := u_known (C := RX1) (T := TX1) (N := 6) (n := 6) (s := s) (args := #[Value.ref b]) hTT inX1 (hTT _ inst_X1)
  obtain ⟨c2, i2, h2⟩ := u_known (C := RX2) (T := TX2) (N := 2) (n := 2) (s := s) (args := #[Value.ref b]) hTT inX2 (hTT _ inst_X2)
  obtain ⟨c3, i3, h3⟩ := u_known (C := RX3) (T := TX3) (N := 4) (n := 4) (s := s) (args := #[Value.ref b]) hTT inX3 (hTT _ inst_X3)
  obtain ⟨c4, i4, h4⟩ := u_known (C := RX4) (T := TX4) (N := 3) (n := 3) (s := s) (args := #[Value.ref b]) hTT inX4 (hTT _ inst_X4)
  obtain ⟨c5, i5, h5⟩ := u_known (C := RX5) (T := TX5) (N := 2) (n := 2) (s := s) (args := #[Value.ref b]) hTT inX5 (hTT _ inst_X5)
  obtain ⟨c6, i6, h6⟩ := u_known (C := RX6) (T := TX6) (N := 12) (n := 12) (s := s) (args := #[Value.ref b]) hTT inX6 (hTT _ inst_X6)
  obtain ⟨c7, i7, h7⟩ := u_known (C := RX7) (T := TX7) (N := 6) (n := 6) (s := s) (args := #[Value.ref b]) hTT inX7 (hTT _ inst_X7)
  obtain ⟨c8, i8, h8⟩ := u_known (C := RX8) (T := TX8) (N := 11) (n := 11) (s := s) (args := #[Value.ref b]) hTT inX8 (hTT _ inst_X8)
  obtain ⟨c9, i9, h9⟩ := u_known (C := RX9) (T := TX9) (N := 30) (n := 30) (s := s) (args := #[Value.ref b]) hTT inX9 (hTT _ inst_X9)
  obtain ⟨a0, ha0⟩ := arr_prim (hTT _ ac_int) (fun C h => by cases h)
  obtain ⟨a1, ha1⟩ := arr_prim (hTT _ ac_byte) (fun C h => by cases h)
  obtain ⟨a2, ha2⟩ := arr_prim (hTT _ ac_long) (fun C h => by cases h)
  obtain ⟨a3, ha3⟩ := arr_prim (hTT _ ac_boolean) (fun C h => by cases h)
  obtain ⟨a4, ha4⟩ := arr_obj (hts _ (lt_2 18 rfl))
  obtain ⟨t0, ht0⟩ := st_RULE_FIRST hts hgv hA
  obtain ⟨t1, ht1⟩ := st_KIND_ABOVE hts hgv hA
  obtain ⟨t2, ht2⟩ := st_RULE_LEAST hts hgv hA
  obtain ⟨t3, ht3⟩ := st_RULE_MOST hts hgv hA
  obtain ⟨t4, ht4⟩ := st_PAIRS_BELOW hts hgv hA
  obtain ⟨t5, ht5⟩ := st_TRIPLES_BELOW hts hgv hA
  obtain ⟨t6, t7, hs1, hs2, hs3⟩ := st_str hts hgv hA
  refine ⟨((fun k => if k = 0 then c0 else if k = 1 then c1 else if k = 2 then c2 else if k = 3 then c3 else if k = 4 then c4 else if k = 5 then c5 else if k = 6 then c6 else if k = 7 then c7 else if k = 8 then c8 else c9, fun k => if k = 0 then i0 else if k = 1 then i1 else if k = 2 then i2 else if k = 3 then i3 else if k = 4 then i4 else if k = 5 then i5 else if k = 6 then i6 else if k = 7 then i7 else if k = 8 then i8 else i9), fun k => if k = 0 then a0 else if k = 1 then a1 else if k = 2 then a2 else if k = 3 then a3 else a4, fun k => if k = 0 then t0 else if k = 1 then t1 else if k = 2 then t2 else if k = 3 then t3 else if k = 4 then t4 else if k = 5 then t5 else if k = 6 then t6 else t7), ⟨fun k q hq => ?_, fun k q hq => ?_⟩, ht0, ht1, ht2, ht3, ht4, ht5, ?_, hs1, hs2, hs3⟩
  · match k, hq with
    | 0, hq => cases hq; exact h0
    | 1, hq => cases hq; exact h1
    | 2, hq => cases hq; exact h2
    | 3, hq => cases hq; exact h3
    | 4, hq => cases hq; exact h4
    | 5, hq => cases hq; exact h5
    | 6, hq => cases hq; exact h6
    | 7, hq => cases hq; exact h7
    | 8, hq => cases hq; exact h8
    | 9, hq => cases hq; exact h9
    | k + 10, hq => simp [vwCl] at hq
  · match k, hq with
    | 0, hq => cases hq; exact ha0
    | 1, hq => cases hq; exact ha1
    | 2, hq => cases hq; exact ha2
    | 3, hq => cases hq; exact ha3
    | 4, hq => cases hq; exact ha4
    | k + 5, hq => simp [xTy] at hq
  · exact ⟨va_Nw.of rfl (hts _ (lt_1 34 rfl)), va_Nw.of rfl (hts _ (lt_3 227 rfl)), va_Nw.of rfl (hts _ (lt_3 229 rfl)), va_Nw.of rfl (hts _ (lt_1 233 rfl)), va_Nw.of rfl (hts _ (lt_2 20 rfl)), va_Nw.of rfl (hts _ (lt_2 152 rfl)), va_Nw.of rfl (hts _ (lt_2 204 rfl)), va_AO.of (hts _ (lt_2 18 rfl))⟩
