theorem tr_if {c : Prop} [Decidable c] {α : Type} (x y : α) : (if c then x else y) = if c then x else y := rfl
def potL (ru : Nat → Nat) (pot all : Int64) : Int64 := pot + all * (nI (ru 0)).toInt64 * (nI (ru 1)).toInt64 / 100
def partL (ru : Nat → Nat) (r : Nat) (pot : Int64) : Int64 := pot * (nI (ru (6 - r))).toInt64 / 100
def taxL (ru : Nat → Nat) (gets : Int64) : Int64 := if lg_cmp (gets - (nI (ru 6)).toInt64) 0 ≤ 0 then gets else gets - (gets - (nI (ru 6)).toInt64) * (nI (ru 5)).toInt64 / 100
def chN (f : Nat) : Nat → Nat
  | 0 => 1
  | i + 1 => chN f i * (f - i) / (i + 1)
theorem chN_stepA : ∀ f : Fin 12, ∀ i : Fin 4, nI (chN f i) * (nI f - nI i) / nI (i + 1) = nI (chN f (i + 1)) := by decide +kernel
theorem chN_step (f i : Nat) (hf : f < 12) (hi : i < 4) : nI (chN f i) * (nI f - nI i) / nI (i + 1) = nI (chN f (i + 1)) := chN_stepA ⟨f, hf⟩ ⟨i, hi⟩
def szB (r i : Nat) : Nat := sumN (bitN r) i
def plB (r i : Nat) : Nat := sumN (fun n => if bitN r n = 1 then chN n (szB r n + 1) else 0) i
theorem szB_mono (r i : Nat) : ∀ n, szB r i ≤ szB r (i + n)
  | 0 => Nat.le_refl _
  | n + 1 => Nat.le_trans (szB_mono r i n) (by show sumN _ _ ≤ sumN _ (i + n) + _; exact Nat.le_add_right _ _)
theorem szB_12 (r : Nat) : szB r 12 = popN r := by
  simp [szB, sumN, bitN, popN]
theorem szB_le {r i : Nat} (hi : i < 12) (h : bitN r i = 1) : szB r i + 1 ≤ popN r := by
  have h1 : szB r (i + 1) = szB r i + bitN r i := rfl
  have h2 := szB_mono r (i + 1) (12 - (i + 1))
  rw [show i + 1 + (12 - (i + 1)) = 12 by omega, szB_12] at h2
  omega
def colT (r k : Nat) : Bool := decide ((nI r &&& ((273 : Int32) <<< (nI k &&& 31))) = (273 : Int32) <<< (nI k &&& 31))
def lineF (r : Nat) : Nat := if r &&& 15 = r ∨ r &&& 240 = r ∨ r &&& 3840 = r then 1 else 0
def colF (r : Nat) : Nat := if r &&& 273 = 273 ∨ r &&& 546 = 546 ∨ r &&& 1092 = 1092 ∨ r &&& 2184 = 2184 then 1 else 0
theorem lineF_lt (r : Nat) : lineF r < 2 := by unfold lineF; split <;> decide
theorem colF_lt (r : Nat) : colF r < 2 := by unfold colF; split <;> decide
theorem line_eq {r : Nat} (hr : r < 4096) : (if nI (r &&& 15) = nI r then (1 : Int32) else (if nI (r &&& 240) = nI r then 1 else (if nI (r &&& 3840) = nI r then 1 else 0))) = nI (lineF r) := by
  have h (m : Nat) : (nI (r &&& m) = nI r) ↔ (r &&& m = r) := nI_eq (Nat.lt_trans (and_ltl hr) (by decide)) (Nat.lt_trans hr (by decide))
  simp only [h, lineF]
  by_cases h1 : r &&& 15 = r
  · simp [h1]; rfl
  · by_cases h2 : r &&& 240 = r
    · simp [h1, h2]; rfl
    · by_cases h3 : r &&& 3840 = r
      · simp [h1, h2, h3]; rfl
      · simp [h1, h2, h3]; rfl
theorem col_eqA : (List.range 4096).all (fun r => (if fa_first (colT r) 4 < 4 then (1 : Int32) else 0) == nI (colF r)) = true := by decide +kernel
theorem col_eq {r : Nat} (hr : r < 4096) : (if fa_first (colT r) 4 < 4 then (1 : Int32) else 0) = nI (colF r) := eq_of_beq (List.all_eq_true.mp col_eqA r (List.mem_range.mpr hr))
theorem bitI1 (r n : Nat) : nI (bitN r n) = 1 ↔ bitN r n = 1 := nI_eq (b := 1) (Nat.lt_trans (bitN_lt r n) (by decide)) (by decide)
theorem bitI0 (r n : Nat) : nI (bitN r n) = 0 ↔ bitN r n = 0 := nI_eq (b := 0) (Nat.lt_trans (bitN_lt r n) (by decide)) (by decide)
theorem nar01 {n : Nat} (h : n < 2) : narrow .boolean (.int (nI n)) = .int (nI n) := by
  rcases (by omega : n = 0 ∨ n = 1) with rfl | rfl <;> rfl

-- == latestDraw_0 ==
theorem dX6_latestDraw_0 : xd cX6_latestDraw 0 (.aload_n 0) 1 1 := ⟨by decide +kernel, rfl⟩
theorem dX6_latestDraw_1 : xd cX6_latestDraw 1 (.aload_n 0) 1 2 := ⟨by decide +kernel, rfl⟩
theorem dX6_latestDraw_2 : xd cX6_latestDraw 2 (.getfield 55) 3 5 := ⟨by decide +kernel, rfl⟩
theorem dX6_latestDraw_5 : xd cX6_latestDraw 5 (.iconst 1) 1 6 := ⟨by decide +kernel, rfl⟩
theorem dX6_latestDraw_6 : xd cX6_latestDraw 6 .isub 1 7 := ⟨by decide +kernel, rfl⟩
theorem dX6_latestDraw_7 : xd cX6_latestDraw 7 (.iconst 0) 1 8 := ⟨by decide +kernel, rfl⟩
theorem dX6_latestDraw_8 : xd cX6_latestDraw 8 (.invokevirtual 62) 3 11 := ⟨by decide +kernel, rfl⟩
theorem dX6_latestDraw_11 : xd cX6_latestDraw 11 .ireturn 1 12 := ⟨by decide +kernel, rfl⟩

set_option maxRecDepth 100000 in
set_option maxHeartbeats 4000000 in
theorem ct_latestDraw_0 (l : Launch) (g : XG) (aS aSk aSm aSp aSt aSc aSr aSe gr br cs : Nat) (z : Int32) (ce : Nat → Int32) : Ct l g 3 0 0 yX6_latestDraw cX6_latestDraw 1 (some .int) [.ref aS] [(aS, .inr (6, [.ref aSk, .ref aSm, .ref aSp, .ref aSt, .ref aSc, .ref aSr, .ref aSe, .int (nI gr), .int (nI br), .int (nI cs), .int 0, .int z])), (aSe, .inl (g.2.1 0, 320, .inl ce))] (xpi (0) [(aS, .inr (6, [.ref aSk, .ref aSm, .ref aSp, .ref aSt, .ref aSc, .ref aSr, .ref aSe, .int (nI gr), .int (nI br), .int (nI cs), .int 0, .int z])), (aSe, .inl (g.2.1 0, 320, .inl ce))]) := by
  refine Ct.ofX (lv := [some (.ref aS)]) (by decide) rfl (Nat.le_of_ble_eq_true rfl) (fun κ => ?_)
  generalize hQ : xQ κ g 0 0 _ = Q
  refine x_aload_n dX6_latestDraw_0 rfl ?_
  refine x_aload_n dX6_latestDraw_1 rfl ?_
  refine x_get dX6_latestDraw_2 0 10 inX6 fl_X6_55 rfl rfl (by decide) rfl ?_
  refine x_iconst 1 dX6_latestDraw_5 (by decide) ?_
  refine x_isub dX6_latestDraw_6 ?_
  refine x_rei (-1) (by decide) ?_
  refine x_iconst 0 dX6_latestDraw_7 (by decide) ?_
  refine x_cVi0 dX6_latestDraw_8 ml_X6_62 mX6_bookCell (ct_bookCell_m κ.2.1 g aS aSk aSm aSp aSt aSc aSr aSe gr br cs 0 z ce) [0, 1] rfl rfl 0 rfl rfl rfl (Nat.le_of_ble_eq_true rfl) (by decide) (Nat.le_refl _) (Nat.le_refl _) ?_
  rw [← hQ]
  refine x_iret dX6_latestDraw_11 rfl (Nat.le_of_ble_eq_true rfl) (Nat.le_of_ble_eq_true rfl) ?_
  exact ⟨rfl, rfl⟩

-- == latestDraw_1 ==
set_option maxRecDepth 100000 in
set_option maxHeartbeats 4000000 in
theorem ct_latestDraw_1 (l : Launch) (g : XG) (aS aSk aSm aSp aSt aSc aSr aSe gr br cs n : Nat) (z : Int32) (ce : Nat → Int32) (hwk : n + 1 ≤ 40) : Ct l g 3 0 0 yX6_latestDraw cX6_latestDraw 1 (some .int) [.ref aS] [(aS, .inr (6, [.ref aSk, .ref aSm, .ref aSp, .ref aSt, .ref aSc, .ref aSr, .ref aSe, .int (nI gr), .int (nI br), .int (nI cs), .int (nI (n + 1)), .int z])), (aSe, .inl (g.2.1 0, 320, .inl ce))] (xpi (ce ((n + 1 - 1) * 8 + 0)) [(aS, .inr (6, [.ref aSk, .ref aSm, .ref aSp, .ref aSt, .ref aSc, .ref aSr, .ref aSe, .int (nI gr), .int (nI br), .int (nI cs), .int (nI (n + 1)), .int z])), (aSe, .inl (g.2.1 0, 320, .inl ce))]) := by
  refine Ct.ofX (lv := [some (.ref aS)]) (by decide) rfl (Nat.le_of_ble_eq_true rfl) (fun κ => ?_)
  generalize hQ : xQ κ g 0 0 _ = Q
  refine x_aload_n dX6_latestDraw_0 rfl ?_
  refine x_aload_n dX6_latestDraw_1 rfl ?_
  refine x_get dX6_latestDraw_2 0 10 inX6 fl_X6_55 rfl rfl (by decide) rfl ?_
  refine x_iconst 1 dX6_latestDraw_5 (by decide) ?_
  refine x_isub dX6_latestDraw_6 ?_
  refine x_rei (nI ((n + 1) - 1)) (nI_isub (n + 1) 1 (by omega)) ?_
  refine x_iconst 0 dX6_latestDraw_7 (by decide) ?_
  refine x_cVi0 dX6_latestDraw_8 ml_X6_62 mX6_bookCell (ct_X6_bookCell κ.2.1 g aS aSk aSm aSp aSt aSc aSr aSe gr br cs (n + 1) z ce ((n + 1) - 1) 0 (by omega) (by decide)) [0, 1] rfl rfl 0 rfl rfl rfl (Nat.le_of_ble_eq_true rfl) (by decide) (Nat.le_refl _) (Nat.le_refl _) ?_
  rw [← hQ]
  refine x_iret dX6_latestDraw_11 rfl (Nat.le_of_ble_eq_true rfl) (Nat.le_of_ble_eq_true rfl) ?_
  exact ⟨rfl, rfl⟩

-- == X6_latestDraw ==
theorem ct_X6_latestDraw (l : Launch) (g : XG) (aS aSk aSm aSp aSt aSc aSr aSe gr br cs wk : Nat) (z : Int32) (ce : Nat → Int32) (lat : Nat) (hwk : wk ≤ 40) (hlat : latI ce wk = nI lat) : Ct l g 3 0 0 yX6_latestDraw cX6_latestDraw 1 (some .int) [.ref aS] [(aS, .inr (6, [.ref aSk, .ref aSm, .ref aSp, .ref aSt, .ref aSc, .ref aSr, .ref aSe, .int (nI gr), .int (nI br), .int (nI cs), .int (nI wk), .int z])), (aSe, .inl (g.2.1 0, 320, .inl ce))] (xpi (nI (lat)) [(aS, .inr (6, [.ref aSk, .ref aSm, .ref aSp, .ref aSt, .ref aSc, .ref aSr, .ref aSe, .int (nI gr), .int (nI br), .int (nI cs), .int (nI wk), .int z])), (aSe, .inl (g.2.1 0, 320, .inl ce))]) := by
  rw [← hlat]
  cases wk with
  | zero => exact ct_latestDraw_0 l g aS aSk aSm aSp aSt aSc aSr aSe gr br cs z ce
  | succ n =>
    rw [latI, if_neg (Nat.succ_ne_zero n)]
    exact ct_latestDraw_1 l g aS aSk aSm aSp aSt aSc aSr aSe gr br cs n z ce hwk

-- == X6_cameIn ==
theorem dX6_cameIn_0 : xd cX6_cameIn 0 (.aload_n 0) 1 1 := ⟨by decide +kernel, rfl⟩
theorem dX6_cameIn_1 : xd cX6_cameIn 1 (.iload_n 1) 1 2 := ⟨by decide +kernel, rfl⟩
theorem dX6_cameIn_2 : xd cX6_cameIn 2 (.iconst 0) 1 3 := ⟨by decide +kernel, rfl⟩
theorem dX6_cameIn_3 : xd cX6_cameIn 3 (.invokevirtual 62) 3 6 := ⟨by decide +kernel, rfl⟩
theorem dX6_cameIn_6 : xd cX6_cameIn 6 (.iload_n 2) 1 7 := ⟨by decide +kernel, rfl⟩
theorem dX6_cameIn_7 : xd cX6_cameIn 7 .ishr 1 8 := ⟨by decide +kernel, rfl⟩
theorem dX6_cameIn_8 : xd cX6_cameIn 8 (.iconst 1) 1 9 := ⟨by decide +kernel, rfl⟩
theorem dX6_cameIn_9 : xd cX6_cameIn 9 .iand 1 10 := ⟨by decide +kernel, rfl⟩
theorem dX6_cameIn_10 : xd cX6_cameIn 10 (.iconst 1) 1 11 := ⟨by decide +kernel, rfl⟩
theorem dX6_cameIn_11 : xj cX6_cameIn 11 (.if_icmp .ne) 14 18 := ⟨7, by decide +kernel, rfl, by decide⟩
theorem dX6_cameIn_14 : xd cX6_cameIn 14 (.iconst 1) 1 15 := ⟨by decide +kernel, rfl⟩
theorem dX6_cameIn_15 : xj cX6_cameIn 15 .goto 18 19 := ⟨4, by decide +kernel, rfl, by decide⟩
theorem dX6_cameIn_18 : xd cX6_cameIn 18 (.iconst 0) 1 19 := ⟨by decide +kernel, rfl⟩
theorem dX6_cameIn_19 : xd cX6_cameIn 19 .ireturn 1 20 := ⟨by decide +kernel, rfl⟩

set_option maxRecDepth 100000 in
set_option maxHeartbeats 4000000 in
theorem ct_X6_cameIn (l : Launch) (g : XG) (aS aSk aSm aSp aSt aSc aSr aSe gr br cs wk : Nat) (z : Int32) (ce : Nat → Int32) (w n d : Nat) (hw : w < 40) (hn : n < 12) (hd : ce (w * 8 + 0) = nI d) : Ct l g 3 0 0 yX6_cameIn cX6_cameIn 3 (some .boolean) [.ref aS, .int (nI w), .int (nI n)] [(aS, .inr (6, [.ref aSk, .ref aSm, .ref aSp, .ref aSt, .ref aSc, .ref aSr, .ref aSe, .int (nI gr), .int (nI br), .int (nI cs), .int (nI wk), .int z])), (aSe, .inl (g.2.1 0, 320, .inl ce))] (xpi (nI (bitN d n)) [(aS, .inr (6, [.ref aSk, .ref aSm, .ref aSp, .ref aSt, .ref aSc, .ref aSr, .ref aSe, .int (nI gr), .int (nI br), .int (nI cs), .int (nI wk), .int z])), (aSe, .inl (g.2.1 0, 320, .inl ce))]) := by
  refine Ct.ofX (lv := [some (.ref aS), some (.int (nI w)), some (.int (nI n))]) (by decide) rfl (Nat.le_of_ble_eq_true rfl) (fun κ => ?_)
  generalize hQ : xQ κ g 0 0 _ = Q
  refine x_aload_n dX6_cameIn_0 rfl ?_
  refine x_iload_n dX6_cameIn_1 rfl ?_
  refine x_iconst 0 dX6_cameIn_2 (by decide) ?_
  refine x_cVi0 dX6_cameIn_3 ml_X6_62 mX6_bookCell (ct_X6_bookCell κ.2.1 g aS aSk aSm aSp aSt aSc aSr aSe gr br cs wk z ce w 0 (hw) (by decide)) [0, 1] rfl rfl 0 rfl rfl rfl (Nat.le_of_ble_eq_true rfl) (by decide) (Nat.le_refl _) (Nat.le_refl _) ?_
  refine x_rei (nI d) (hd) ?_
  refine x_iload_n dX6_cameIn_6 rfl ?_
  refine x_ishr dX6_cameIn_7 ?_
  refine x_iconst 1 dX6_cameIn_8 (by decide) ?_
  refine x_iand dX6_cameIn_9 ?_
  refine x_rei (nI (bitN d n)) (shr_bit (by omega)) ?_
  refine x_iconst 1 dX6_cameIn_10 (by decide) ?_
  have J11_2 : ∀ (v1 : Int32), v1 = (if (nI (bitN d n)) = 1 then 1 else 0) → Xs κ g 3 0 0 cX6_cameIn yX6_cameIn (some .boolean) Q 0 0 19 [some (.ref aS), some (.int (nI w)), some (.int (nI n))] [.int v1] [(aS, .inr (6, [.ref aSk, .ref aSm, .ref aSp, .ref aSt, .ref aSc, .ref aSr, .ref aSe, .int (nI gr), .int (nI br), .int (nI cs), .int (nI wk), .int z])), (aSe, .inl (g.2.1 0, 320, .inl ce))] := by
    intro v1 ev1
    rw [← hQ]
    refine x_zret dX6_cameIn_19 rfl (by simp only [ev1, bit_if]; exact z01 (bit01 _ _)) (Nat.le_of_ble_eq_true rfl) (Nat.le_of_ble_eq_true rfl) ?_
    exact ⟨by simp only [ev1, bit_if], rfl⟩
  refine x_icmp_ne dX6_cameIn_11 (fun c11 => ?_) (fun c11 => ?_)
  · have c11 : ¬ ((nI (bitN d n)) = 1) := c11
    refine x_iconst 0 dX6_cameIn_18 (by decide) ?_
    exact J11_2 _ (if_neg c11).symm
  · have c11 : (nI (bitN d n)) = 1 := c11
    refine x_iconst 1 dX6_cameIn_14 (by decide) ?_
    refine x_goto dX6_cameIn_15 ?_
    exact J11_2 _ (if_pos c11).symm

-- == X6_timesOf ==
theorem dX6_timesOf_0 : xd cX6_timesOf 0 (.iconst 0) 1 1 := ⟨by decide +kernel, rfl⟩
theorem dX6_timesOf_1 : xd cX6_timesOf 1 (.istore_n 2) 1 2 := ⟨by decide +kernel, rfl⟩
theorem dX6_timesOf_2 : xd cX6_timesOf 2 (.iconst 0) 1 3 := ⟨by decide +kernel, rfl⟩
theorem dX6_timesOf_3 : xd cX6_timesOf 3 (.istore_n 3) 1 4 := ⟨by decide +kernel, rfl⟩
theorem dX6_timesOf_4 : xd cX6_timesOf 4 (.iload_n 3) 1 5 := ⟨by decide +kernel, rfl⟩
theorem dX6_timesOf_5 : xd cX6_timesOf 5 (.aload_n 0) 1 6 := ⟨by decide +kernel, rfl⟩
theorem dX6_timesOf_6 : xd cX6_timesOf 6 (.getfield 55) 3 9 := ⟨by decide +kernel, rfl⟩
theorem dX6_timesOf_9 : xj cX6_timesOf 9 (.if_icmp .ge) 12 35 := ⟨26, by decide +kernel, rfl, by decide⟩
theorem dX6_timesOf_12 : xd cX6_timesOf 12 (.iload_n 2) 1 13 := ⟨by decide +kernel, rfl⟩
theorem dX6_timesOf_13 : xd cX6_timesOf 13 (.aload_n 0) 1 14 := ⟨by decide +kernel, rfl⟩
theorem dX6_timesOf_14 : xd cX6_timesOf 14 (.iload_n 3) 1 15 := ⟨by decide +kernel, rfl⟩
theorem dX6_timesOf_15 : xd cX6_timesOf 15 (.iload_n 1) 1 16 := ⟨by decide +kernel, rfl⟩
theorem dX6_timesOf_16 : xd cX6_timesOf 16 (.invokevirtual 66) 3 19 := ⟨by decide +kernel, rfl⟩
theorem dX6_timesOf_19 : xj cX6_timesOf 19 (.ifCond .eq) 22 26 := ⟨7, by decide +kernel, rfl, by decide⟩
theorem dX6_timesOf_22 : xd cX6_timesOf 22 (.iconst 1) 1 23 := ⟨by decide +kernel, rfl⟩
theorem dX6_timesOf_23 : xj cX6_timesOf 23 .goto 26 27 := ⟨4, by decide +kernel, rfl, by decide⟩
theorem dX6_timesOf_26 : xd cX6_timesOf 26 (.iconst 0) 1 27 := ⟨by decide +kernel, rfl⟩
theorem dX6_timesOf_27 : xd cX6_timesOf 27 .iadd 1 28 := ⟨by decide +kernel, rfl⟩
theorem dX6_timesOf_28 : xd cX6_timesOf 28 (.istore_n 2) 1 29 := ⟨by decide +kernel, rfl⟩
theorem dX6_timesOf_29 : xd cX6_timesOf 29 (.iinc 3 1) 3 32 := ⟨by decide +kernel, rfl⟩
theorem dX6_timesOf_32 : xj cX6_timesOf 32 .goto 35 4 := ⟨(-28), by decide +kernel, rfl, by decide⟩
theorem dX6_timesOf_35 : xd cX6_timesOf 35 (.iload_n 2) 1 36 := ⟨by decide +kernel, rfl⟩
theorem dX6_timesOf_36 : xd cX6_timesOf 36 .ireturn 1 37 := ⟨by decide +kernel, rfl⟩

set_option maxRecDepth 100000 in
set_option maxHeartbeats 4000000 in
theorem ct_X6_timesOf (l : Launch) (g : XG) (aS aSk aSm aSp aSt aSc aSr aSe gr br cs wk : Nat) (z : Int32) (ce : Nat → Int32) (n : Nat) (dr : Nat → Nat) (hwk : wk ≤ 40) (hn : n < 12) (hdr : ∀ w, w < wk → ce (w * 8 + 0) = nI (dr w)) : Ct l g 4 0 0 yX6_timesOf cX6_timesOf 4 (some .int) [.ref aS, .int (nI n)] [(aS, .inr (6, [.ref aSk, .ref aSm, .ref aSp, .ref aSt, .ref aSc, .ref aSr, .ref aSe, .int (nI gr), .int (nI br), .int (nI cs), .int (nI wk), .int z])), (aSe, .inl (g.2.1 0, 320, .inl ce))] (xpi (nI (sumN (fun w => bitN (dr w) n) wk)) [(aS, .inr (6, [.ref aSk, .ref aSm, .ref aSp, .ref aSt, .ref aSc, .ref aSr, .ref aSe, .int (nI gr), .int (nI br), .int (nI cs), .int (nI wk), .int z])), (aSe, .inl (g.2.1 0, 320, .inl ce))]) := by
  refine Ct.ofX (lv := [some (.ref aS), some (.int (nI n)), none, none]) (by decide) rfl (Nat.le_of_ble_eq_true rfl) (fun κ => ?_)
  generalize hQ : xQ κ g 0 0 _ = Q
  refine x_iconst 0 dX6_timesOf_0 (by decide) ?_
  refine x_istore_n (lv' := [some (.ref aS), some (.int (nI n)), some (.int 0), none]) dX6_timesOf_1 (xlt rfl) rfl ?_
  refine x_iconst 0 dX6_timesOf_2 (by decide) ?_
  refine x_istore_n (lv' := [some (.ref aS), some (.int (nI n)), some (.int 0), some (.int 0)]) dX6_timesOf_3 (xlt rfl) rfl ?_
  have L4_1 : ∀ (i : Nat), i ≤ wk → ∀ (tm : Nat), tm = sumN (fun w => bitN (dr w) n) i → Xs κ g 4 0 0 cX6_timesOf yX6_timesOf (some .int) Q 0 0 4 [some (.ref aS), some (.int (nI n)), some (.int (nI tm)), some (.int (nI i))] [] [(aS, .inr (6, [.ref aSk, .ref aSm, .ref aSp, .ref aSt, .ref aSc, .ref aSr, .ref aSe, .int (nI gr), .int (nI br), .int (nI cs), .int (nI wk), .int z])), (aSe, .inl (g.2.1 0, 320, .inl ce))] := by
    refine upTo wk (fun i hi4 ih4 => ?_)
    intro tm etm
    subst etm
    refine x_iload_n dX6_timesOf_4 rfl ?_
    refine x_aload_n dX6_timesOf_5 rfl ?_
    refine x_get dX6_timesOf_6 0 10 inX6 fl_X6_55 rfl rfl (by decide) rfl ?_
    refine x_icmp_ge dX6_timesOf_9 (fun c9 => ?_) (fun c9 => ?_)
    · have c9 : (nI wk) ≤ (nI i) := c9
      have c9n := (nI_leI (a := wk) (b := i) (by omega) (by omega)).mp c9
      have hxc9 : i = wk := by omega
      try rw [hxc9]
      refine x_iload_n dX6_timesOf_35 rfl ?_
      rw [← hQ]
      refine x_iret dX6_timesOf_36 rfl (Nat.le_of_ble_eq_true rfl) (Nat.le_of_ble_eq_true rfl) ?_
      exact ⟨rfl, rfl⟩
    · have c9 : ¬ ((nI wk) ≤ (nI i)) := c9
      have c9n := mt (nI_leI (a := wk) (b := i) (by omega) (by omega)).mpr c9
      refine x_iload_n dX6_timesOf_12 rfl ?_
      refine x_aload_n dX6_timesOf_13 rfl ?_
      refine x_iload_n dX6_timesOf_14 rfl ?_
      refine x_iload_n dX6_timesOf_15 rfl ?_
      refine x_cVi0 dX6_timesOf_16 ml_X6_66 mX6_cameIn (ct_X6_cameIn κ.2.1 g aS aSk aSm aSp aSt aSc aSr aSe gr br cs wk z ce i n (dr i) (by omega) (hn) (hdr i (by omega))) [0, 1] rfl rfl 0 rfl rfl rfl (Nat.le_of_ble_eq_true rfl) (by decide) (Nat.le_refl _) (Nat.le_refl _) ?_
      have J19_3 : ∀ (v2 : Int32), v2 = (if (nI (bitN (dr i) n)) = 0 then 0 else 1) → Xs κ g 4 0 0 cX6_timesOf yX6_timesOf (some .int) Q 0 0 27 [some (.ref aS), some (.int (nI n)), some (.int (nI ((sumN (fun w => bitN (dr w) n) i)))), some (.int (nI i))] [.int v2, .int (nI ((sumN (fun w => bitN (dr w) n) i)))] [(aS, .inr (6, [.ref aSk, .ref aSm, .ref aSp, .ref aSt, .ref aSc, .ref aSr, .ref aSe, .int (nI gr), .int (nI br), .int (nI cs), .int (nI wk), .int z])), (aSe, .inl (g.2.1 0, 320, .inl ce))] := by
        intro v2 ev2
        refine x_rei (nI (bitN (dr i) n)) (by simp only [ev2]; exact bit_if0 _ _) ?_
        refine x_iadd dX6_timesOf_27 ?_
        refine x_rei (nI ((sumN (fun w => bitN (dr w) n) i) + (bitN (dr i) n))) (nI_iadd (sumN (fun w => bitN (dr w) n) i) (bitN (dr i) n)) ?_
        refine x_istore_n (lv' := [some (.ref aS), some (.int (nI n)), some (.int (nI ((sumN (fun w => bitN (dr w) n) i) + (bitN (dr i) n)))), some (.int (nI i))]) dX6_timesOf_28 (xlt rfl) rfl ?_
        refine x_iinc (lv' := [some (.ref aS), some (.int (nI n)), some (.int (nI ((sumN (fun w => bitN (dr w) n) i) + (bitN (dr i) n)))), some (.int (nI (i + 1)))]) (nI (i + 1)) dX6_timesOf_29 rfl (nI_addc i 1 rfl) rfl ?_
        refine x_goto dX6_timesOf_32 ?_
        exact ih4 (by omega) ((sumN (fun w => bitN (dr w) n) i) + (bitN (dr i) n)) (by rfl)
      refine x_if_eq dX6_timesOf_19 (fun c19 => ?_) (fun c19 => ?_)
      · have c19 : (nI (bitN (dr i) n)) = 0 := c19
        refine x_iconst 0 dX6_timesOf_26 (by decide) ?_
        exact J19_3 _ (if_pos c19).symm
      · have c19 : ¬ ((nI (bitN (dr i) n)) = 0) := c19
        refine x_iconst 1 dX6_timesOf_22 (by decide) ?_
        refine x_goto dX6_timesOf_23 ?_
        exact J19_3 _ (if_neg c19).symm
  exact L4_1 0 (Nat.zero_le _) 0 (by rfl)

-- == X6_rankTwoWinners ==
theorem dX6_rankTwoWinners_0 : xd cX6_rankTwoWinners 0 (.iconst 0) 1 1 := ⟨by decide +kernel, rfl⟩
theorem dX6_rankTwoWinners_1 : xd cX6_rankTwoWinners 1 (.istore_n 3) 1 2 := ⟨by decide +kernel, rfl⟩
theorem dX6_rankTwoWinners_2 : xd cX6_rankTwoWinners 2 (.iconst 0) 1 3 := ⟨by decide +kernel, rfl⟩
theorem dX6_rankTwoWinners_3 : xd cX6_rankTwoWinners 3 (.istore 4) 2 5 := ⟨by decide +kernel, rfl⟩
theorem dX6_rankTwoWinners_5 : xd cX6_rankTwoWinners 5 (.iload 4) 2 7 := ⟨by decide +kernel, rfl⟩
theorem dX6_rankTwoWinners_7 : xd cX6_rankTwoWinners 7 (.aload_n 0) 1 8 := ⟨by decide +kernel, rfl⟩
theorem dX6_rankTwoWinners_8 : xd cX6_rankTwoWinners 8 (.getfield 55) 3 11 := ⟨by decide +kernel, rfl⟩
theorem dX6_rankTwoWinners_11 : xj cX6_rankTwoWinners 11 (.if_icmp .ge) 14 41 := ⟨30, by decide +kernel, rfl, by decide⟩
theorem dX6_rankTwoWinners_14 : xd cX6_rankTwoWinners 14 (.aload_n 0) 1 15 := ⟨by decide +kernel, rfl⟩
theorem dX6_rankTwoWinners_15 : xd cX6_rankTwoWinners 15 (.iload 4) 2 17 := ⟨by decide +kernel, rfl⟩
theorem dX6_rankTwoWinners_17 : xd cX6_rankTwoWinners 17 (.iload_n 1) 1 18 := ⟨by decide +kernel, rfl⟩
theorem dX6_rankTwoWinners_18 : xd cX6_rankTwoWinners 18 (.invokevirtual 66) 3 21 := ⟨by decide +kernel, rfl⟩
theorem dX6_rankTwoWinners_21 : xd cX6_rankTwoWinners 21 (.iload_n 2) 1 22 := ⟨by decide +kernel, rfl⟩
theorem dX6_rankTwoWinners_22 : xj cX6_rankTwoWinners 22 (.if_icmp .ne) 25 35 := ⟨13, by decide +kernel, rfl, by decide⟩
theorem dX6_rankTwoWinners_25 : xd cX6_rankTwoWinners 25 (.iload_n 3) 1 26 := ⟨by decide +kernel, rfl⟩
theorem dX6_rankTwoWinners_26 : xd cX6_rankTwoWinners 26 (.aload_n 0) 1 27 := ⟨by decide +kernel, rfl⟩
theorem dX6_rankTwoWinners_27 : xd cX6_rankTwoWinners 27 (.iload 4) 2 29 := ⟨by decide +kernel, rfl⟩
theorem dX6_rankTwoWinners_29 : xd cX6_rankTwoWinners 29 (.iconst 3) 1 30 := ⟨by decide +kernel, rfl⟩
theorem dX6_rankTwoWinners_30 : xd cX6_rankTwoWinners 30 (.invokevirtual 62) 3 33 := ⟨by decide +kernel, rfl⟩
theorem dX6_rankTwoWinners_33 : xd cX6_rankTwoWinners 33 .iadd 1 34 := ⟨by decide +kernel, rfl⟩
theorem dX6_rankTwoWinners_34 : xd cX6_rankTwoWinners 34 (.istore_n 3) 1 35 := ⟨by decide +kernel, rfl⟩
theorem dX6_rankTwoWinners_35 : xd cX6_rankTwoWinners 35 (.iinc 4 1) 3 38 := ⟨by decide +kernel, rfl⟩
theorem dX6_rankTwoWinners_38 : xj cX6_rankTwoWinners 38 .goto 41 5 := ⟨(-33), by decide +kernel, rfl, by decide⟩
theorem dX6_rankTwoWinners_41 : xd cX6_rankTwoWinners 41 (.iload_n 3) 1 42 := ⟨by decide +kernel, rfl⟩
theorem dX6_rankTwoWinners_42 : xd cX6_rankTwoWinners 42 .ireturn 1 43 := ⟨by decide +kernel, rfl⟩

set_option maxRecDepth 100000 in
set_option maxHeartbeats 4000000 in
theorem ct_X6_rankTwoWinners (l : Launch) (g : XG) (aS aSk aSm aSp aSt aSc aSr aSe gr br cs wk : Nat) (z : Int32) (ce : Nat → Int32) (n : Nat) (fl : Int32) (dr : Nat → Nat) (hwk : wk ≤ 40) (hn : n < 12) (hdr : ∀ w, w < wk → ce (w * 8 + 0) = nI (dr w)) : Ct l g 4 0 0 yX6_rankTwoWinners cX6_rankTwoWinners 5 (some .int) [.ref aS, .int (nI n), .int fl] [(aS, .inr (6, [.ref aSk, .ref aSm, .ref aSp, .ref aSt, .ref aSc, .ref aSr, .ref aSe, .int (nI gr), .int (nI br), .int (nI cs), .int (nI wk), .int z])), (aSe, .inl (g.2.1 0, 320, .inl ce))] (xpi (sumI (fun w => if nI (bitN (dr w) n) = fl then ce (w * 8 + 3) else 0) wk) [(aS, .inr (6, [.ref aSk, .ref aSm, .ref aSp, .ref aSt, .ref aSc, .ref aSr, .ref aSe, .int (nI gr), .int (nI br), .int (nI cs), .int (nI wk), .int z])), (aSe, .inl (g.2.1 0, 320, .inl ce))]) := by
  refine Ct.ofX (lv := [some (.ref aS), some (.int (nI n)), some (.int fl), none, none]) (by decide) rfl (Nat.le_of_ble_eq_true rfl) (fun κ => ?_)
  generalize hQ : xQ κ g 0 0 _ = Q
  refine x_iconst 0 dX6_rankTwoWinners_0 (by decide) ?_
  refine x_istore_n (lv' := [some (.ref aS), some (.int (nI n)), some (.int fl), some (.int 0), none]) dX6_rankTwoWinners_1 (xlt rfl) rfl ?_
  refine x_iconst 0 dX6_rankTwoWinners_2 (by decide) ?_
  refine x_istore (lv' := [some (.ref aS), some (.int (nI n)), some (.int fl), some (.int 0), some (.int 0)]) dX6_rankTwoWinners_3 (xlt rfl) rfl ?_
  have L5_1 : ∀ (i : Nat), i ≤ wk → ∀ (al : Int32), al = sumI (fun w => if nI (bitN (dr w) n) = fl then ce (w * 8 + 3) else 0) i → Xs κ g 4 0 0 cX6_rankTwoWinners yX6_rankTwoWinners (some .int) Q 0 0 5 [some (.ref aS), some (.int (nI n)), some (.int fl), some (.int al), some (.int (nI i))] [] [(aS, .inr (6, [.ref aSk, .ref aSm, .ref aSp, .ref aSt, .ref aSc, .ref aSr, .ref aSe, .int (nI gr), .int (nI br), .int (nI cs), .int (nI wk), .int z])), (aSe, .inl (g.2.1 0, 320, .inl ce))] := by
    refine upTo wk (fun i hi5 ih5 => ?_)
    intro al eal
    subst eal
    refine x_iload dX6_rankTwoWinners_5 rfl ?_
    refine x_aload_n dX6_rankTwoWinners_7 rfl ?_
    refine x_get dX6_rankTwoWinners_8 0 10 inX6 fl_X6_55 rfl rfl (by decide) rfl ?_
    refine x_icmp_ge dX6_rankTwoWinners_11 (fun c11 => ?_) (fun c11 => ?_)
    · have c11 : (nI wk) ≤ (nI i) := c11
      have c11n := (nI_leI (a := wk) (b := i) (by omega) (by omega)).mp c11
      have hxc11 : i = wk := by omega
      try rw [hxc11]
      refine x_iload_n dX6_rankTwoWinners_41 rfl ?_
      rw [← hQ]
      refine x_iret dX6_rankTwoWinners_42 rfl (Nat.le_of_ble_eq_true rfl) (Nat.le_of_ble_eq_true rfl) ?_
      exact ⟨rfl, rfl⟩
    · have c11 : ¬ ((nI wk) ≤ (nI i)) := c11
      have c11n := mt (nI_leI (a := wk) (b := i) (by omega) (by omega)).mpr c11
      refine x_aload_n dX6_rankTwoWinners_14 rfl ?_
      refine x_iload dX6_rankTwoWinners_15 rfl ?_
      refine x_iload_n dX6_rankTwoWinners_17 rfl ?_
      refine x_cVi0 dX6_rankTwoWinners_18 ml_X6_66 mX6_cameIn (ct_X6_cameIn κ.2.1 g aS aSk aSm aSp aSt aSc aSr aSe gr br cs wk z ce i n (dr i) (by omega) (hn) (hdr i (by omega))) [0, 1] rfl rfl 0 rfl rfl rfl (Nat.le_of_ble_eq_true rfl) (by decide) (Nat.le_refl _) (Nat.le_refl _) ?_
      refine x_iload_n dX6_rankTwoWinners_21 rfl ?_
      have J22_4 : ∀ (v3 : Int32), v3 = (if (nI (bitN (dr i) n)) = fl then ((sumI (fun w => if nI (bitN (dr w) n) = fl then ce (w * 8 + 3) else 0) i) + (ce (i * 8 + 3))) else sumI (fun w => if nI (bitN (dr w) n) = fl then ce (w * 8 + 3) else 0) i) → Xs κ g 4 0 0 cX6_rankTwoWinners yX6_rankTwoWinners (some .int) Q 0 0 35 [some (.ref aS), some (.int (nI n)), some (.int fl), some (.int v3), some (.int (nI i))] [] [(aS, .inr (6, [.ref aSk, .ref aSm, .ref aSp, .ref aSt, .ref aSc, .ref aSr, .ref aSe, .int (nI gr), .int (nI br), .int (nI cs), .int (nI wk), .int z])), (aSe, .inl (g.2.1 0, 320, .inl ce))] := by
        intro v3 ev3
        refine x_iinc (lv' := [some (.ref aS), some (.int (nI n)), some (.int fl), some (.int v3), some (.int (nI (i + 1)))]) (nI (i + 1)) dX6_rankTwoWinners_35 rfl (nI_addc i 1 rfl) rfl ?_
        refine x_goto dX6_rankTwoWinners_38 ?_
        exact ih5 (by omega) _ (by simp only [ev3]; simp only [sumI]; split <;> simp)
      refine x_icmp_ne dX6_rankTwoWinners_22 (fun c22 => ?_) (fun c22 => ?_)
      · have c22 : ¬ ((nI (bitN (dr i) n)) = fl) := c22
        exact J22_4 _ (if_neg c22).symm
      · have c22 : (nI (bitN (dr i) n)) = fl := c22
        refine x_iload_n dX6_rankTwoWinners_25 rfl ?_
        refine x_aload_n dX6_rankTwoWinners_26 rfl ?_
        refine x_iload dX6_rankTwoWinners_27 rfl ?_
        refine x_iconst 3 dX6_rankTwoWinners_29 (by decide) ?_
        refine x_cVi0 dX6_rankTwoWinners_30 ml_X6_62 mX6_bookCell (ct_X6_bookCell κ.2.1 g aS aSk aSm aSp aSt aSc aSr aSe gr br cs wk z ce i 3 (by omega) (by decide)) [0, 1] rfl rfl 0 rfl rfl rfl (Nat.le_of_ble_eq_true rfl) (by decide) (Nat.le_refl _) (Nat.le_refl _) ?_
        refine x_iadd dX6_rankTwoWinners_33 ?_
        refine x_nmi (fun v5 ev5 => ?_)
        refine x_istore_n (lv' := [some (.ref aS), some (.int (nI n)), some (.int fl), some (.int v5), some (.int (nI i))]) dX6_rankTwoWinners_34 (xlt rfl) rfl ?_
        exact J22_4 _ (by rw [if_pos c22]; try simp only [ev5])
  exact L5_1 0 (Nat.zero_le _) _ (by rfl)

-- == X6_potWithIn ==
theorem dX6_potWithIn_0 : xd cX6_potWithIn 0 (.lload_n 1) 1 1 := ⟨by decide +kernel, rfl⟩
theorem dX6_potWithIn_1 : xd cX6_potWithIn 1 (.lload_n 3) 1 2 := ⟨by decide +kernel, rfl⟩
theorem dX6_potWithIn_2 : xd cX6_potWithIn 2 (.aload_n 0) 1 3 := ⟨by decide +kernel, rfl⟩
theorem dX6_potWithIn_3 : xd cX6_potWithIn 3 (.getfield 27) 3 6 := ⟨by decide +kernel, rfl⟩
theorem dX6_potWithIn_6 : xd cX6_potWithIn 6 (.iconst 0) 1 7 := ⟨by decide +kernel, rfl⟩
theorem dX6_potWithIn_7 : xd cX6_potWithIn 7 .iaload 1 8 := ⟨by decide +kernel, rfl⟩
theorem dX6_potWithIn_8 : xd cX6_potWithIn 8 .i2l 1 9 := ⟨by decide +kernel, rfl⟩
theorem dX6_potWithIn_9 : xd cX6_potWithIn 9 .lmul 1 10 := ⟨by decide +kernel, rfl⟩
theorem dX6_potWithIn_10 : xd cX6_potWithIn 10 (.aload_n 0) 1 11 := ⟨by decide +kernel, rfl⟩
theorem dX6_potWithIn_11 : xd cX6_potWithIn 11 (.getfield 27) 3 14 := ⟨by decide +kernel, rfl⟩
theorem dX6_potWithIn_14 : xd cX6_potWithIn 14 (.iconst 1) 1 15 := ⟨by decide +kernel, rfl⟩
theorem dX6_potWithIn_15 : xd cX6_potWithIn 15 .iaload 1 16 := ⟨by decide +kernel, rfl⟩
theorem dX6_potWithIn_16 : xd cX6_potWithIn 16 .i2l 1 17 := ⟨by decide +kernel, rfl⟩
theorem dX6_potWithIn_17 : xd cX6_potWithIn 17 .lmul 1 18 := ⟨by decide +kernel, rfl⟩
theorem dX6_potWithIn_18 : xd cX6_potWithIn 18 (.ldc2_w 70) 3 21 := ⟨by decide +kernel, rfl⟩
theorem dX6_potWithIn_21 : xd cX6_potWithIn 21 .ldiv 1 22 := ⟨by decide +kernel, rfl⟩
theorem dX6_potWithIn_22 : xd cX6_potWithIn 22 .ladd 1 23 := ⟨by decide +kernel, rfl⟩
theorem dX6_potWithIn_23 : xd cX6_potWithIn 23 .lreturn 1 24 := ⟨by decide +kernel, rfl⟩

set_option maxRecDepth 100000 in
set_option maxHeartbeats 4000000 in
theorem ct_X6_potWithIn (l : Launch) (g : XG) (aS aSk aSm aSp aSt aSc aSr aSe gr br cs wk : Nat) (z : Int32) (ru : Nat → Nat) (pot all : Int64) : Ct l g 1 0 0 yX6_potWithIn cX6_potWithIn 5 (some .long) [.ref aS, .long pot, .long all] [(aS, .inr (6, [.ref aSk, .ref aSm, .ref aSp, .ref aSt, .ref aSc, .ref aSr, .ref aSe, .int (nI gr), .int (nI br), .int (nI cs), .int (nI wk), .int z])), (aSr, .inl (g.2.1 0, 8, .inl (nIf ru)))] (xpl (potL ru pot all) [(aS, .inr (6, [.ref aSk, .ref aSm, .ref aSp, .ref aSt, .ref aSc, .ref aSr, .ref aSe, .int (nI gr), .int (nI br), .int (nI cs), .int (nI wk), .int z])), (aSr, .inl (g.2.1 0, 8, .inl (nIf ru)))]) := by
  refine Ct.ofX (lv := [some (.ref aS), some (.long pot), none, some (.long all), none]) (by decide) rfl (Nat.le_of_ble_eq_true rfl) (fun κ => ?_)
  generalize hQ : xQ κ g 0 0 _ = Q
  refine x_lload_n dX6_potWithIn_0 rfl ?_
  refine x_lload_n dX6_potWithIn_1 rfl ?_
  refine x_aload_n dX6_potWithIn_2 rfl ?_
  refine x_get dX6_potWithIn_3 0 5 inX6 fl_X6_27 rfl rfl (by decide) rfl ?_
  refine x_iconst 0 dX6_potWithIn_6 (by decide) ?_
  refine x_iald dX6_potWithIn_7 1 0 rfl (rfl) (by decide) (by decide) ?_
  refine x_i2l dX6_potWithIn_8 ?_
  refine x_lmul dX6_potWithIn_9 ?_
  refine x_aload_n dX6_potWithIn_10 rfl ?_
  refine x_get dX6_potWithIn_11 0 5 inX6 fl_X6_27 rfl rfl (by decide) rfl ?_
  refine x_iconst 1 dX6_potWithIn_14 (by decide) ?_
  refine x_iald dX6_potWithIn_15 1 1 rfl (rfl) (by decide) (by decide) ?_
  refine x_i2l dX6_potWithIn_16 ?_
  refine x_lmul dX6_potWithIn_17 ?_
  refine x_ldc2 dX6_potWithIn_18 kl_X6_70 ?_
  refine x_ldiv dX6_potWithIn_21 (by decide) ?_
  refine x_ladd dX6_potWithIn_22 ?_
  rw [← hQ]
  refine x_lret dX6_potWithIn_23 rfl (Nat.le_of_ble_eq_true rfl) (Nat.le_of_ble_eq_true rfl) ?_
  exact ⟨rfl, rfl⟩

-- == X6_rankPart ==
theorem dX6_rankPart_0 : xd cX6_rankPart 0 (.iload_n 1) 1 1 := ⟨by decide +kernel, rfl⟩
theorem dX6_rankPart_1 : xd cX6_rankPart 1 (.iconst 2) 1 2 := ⟨by decide +kernel, rfl⟩
theorem dX6_rankPart_2 : xd cX6_rankPart 2 (.iconst 4) 1 3 := ⟨by decide +kernel, rfl⟩
theorem dX6_rankPart_3 : xd cX6_rankPart 3 (.invokestatic 58) 3 6 := ⟨by decide +kernel, rfl⟩
theorem dX6_rankPart_6 : xj cX6_rankPart 6 (.ifCond .eq) 9 28 := ⟨22, by decide +kernel, rfl, by decide⟩
theorem dX6_rankPart_9 : xd cX6_rankPart 9 (.lload_n 2) 1 10 := ⟨by decide +kernel, rfl⟩
theorem dX6_rankPart_10 : xd cX6_rankPart 10 (.aload_n 0) 1 11 := ⟨by decide +kernel, rfl⟩
theorem dX6_rankPart_11 : xd cX6_rankPart 11 (.getfield 27) 3 14 := ⟨by decide +kernel, rfl⟩
theorem dX6_rankPart_14 : xd cX6_rankPart 14 (.bipush 6) 2 16 := ⟨by decide +kernel, rfl⟩
theorem dX6_rankPart_16 : xd cX6_rankPart 16 (.iload_n 1) 1 17 := ⟨by decide +kernel, rfl⟩
theorem dX6_rankPart_17 : xd cX6_rankPart 17 .isub 1 18 := ⟨by decide +kernel, rfl⟩
theorem dX6_rankPart_18 : xd cX6_rankPart 18 .iaload 1 19 := ⟨by decide +kernel, rfl⟩
theorem dX6_rankPart_19 : xd cX6_rankPart 19 .i2l 1 20 := ⟨by decide +kernel, rfl⟩
theorem dX6_rankPart_20 : xd cX6_rankPart 20 .lmul 1 21 := ⟨by decide +kernel, rfl⟩
theorem dX6_rankPart_21 : xd cX6_rankPart 21 (.ldc2_w 70) 3 24 := ⟨by decide +kernel, rfl⟩
theorem dX6_rankPart_24 : xd cX6_rankPart 24 .ldiv 1 25 := ⟨by decide +kernel, rfl⟩
theorem dX6_rankPart_25 : xj cX6_rankPart 25 .goto 28 29 := ⟨4, by decide +kernel, rfl, by decide⟩
theorem dX6_rankPart_28 : xd cX6_rankPart 28 (.lconst 0) 1 29 := ⟨by decide +kernel, rfl⟩
theorem dX6_rankPart_29 : xd cX6_rankPart 29 .lreturn 1 30 := ⟨by decide +kernel, rfl⟩

set_option maxRecDepth 100000 in
set_option maxHeartbeats 4000000 in
theorem ct_X6_rankPart (l : Launch) (g : XG) (aS aSk aSm aSp aSt aSc aSr aSe gr br cs wk : Nat) (z : Int32) (ru : Nat → Nat) (r : Nat) (pot : Int64) (hr : 2 ≤ r ∧ r ≤ 4) : Ct l g 2 0 0 yX6_rankPart cX6_rankPart 4 (some .long) [.ref aS, .int (nI r), .long pot] [(aS, .inr (6, [.ref aSk, .ref aSm, .ref aSp, .ref aSt, .ref aSc, .ref aSr, .ref aSe, .int (nI gr), .int (nI br), .int (nI cs), .int (nI wk), .int z])), (aSr, .inl (g.2.1 0, 8, .inl (nIf ru)))] (xpl (partL ru r pot) [(aS, .inr (6, [.ref aSk, .ref aSm, .ref aSp, .ref aSt, .ref aSc, .ref aSr, .ref aSe, .int (nI gr), .int (nI br), .int (nI cs), .int (nI wk), .int z])), (aSr, .inl (g.2.1 0, 8, .inl (nIf ru)))]) := by
  refine Ct.ofX (lv := [some (.ref aS), some (.int (nI r)), some (.long pot), none]) (by decide) rfl (Nat.le_of_ble_eq_true rfl) (fun κ => ?_)
  generalize hQ : xQ κ g 0 0 _ = Q
  refine x_iload_n dX6_rankPart_0 rfl ?_
  refine x_iconst 2 dX6_rankPart_1 (by decide) ?_
  refine x_iconst 4 dX6_rankPart_2 (by decide) ?_
  refine x_cSNi dX6_rankPart_3 (fun h => h.2.2.2.2.2.1) mX8_within (ct_within_n κ.2.1 g r 2 4 (⟨by omega, by omega, by omega, by omega⟩)) rfl (Nat.le_of_ble_eq_true rfl) (by decide) (Nat.le_refl _) (Nat.le_refl _) ?_
  refine x_if_eq dX6_rankPart_6 (fun c6 => ?_) (fun c6 => ?_)
  · exact absurd c6 (by decide)
  refine x_lload_n dX6_rankPart_9 rfl ?_
  refine x_aload_n dX6_rankPart_10 rfl ?_
  refine x_get dX6_rankPart_11 0 5 inX6 fl_X6_27 rfl rfl (by decide) rfl ?_
  refine x_bipush 6 dX6_rankPart_14 (by decide) ?_
  refine x_iload_n dX6_rankPart_16 rfl ?_
  refine x_isub dX6_rankPart_17 ?_
  refine x_rei (nI (6 - r)) (nI_isub 6 r (by omega)) ?_
  refine x_iald dX6_rankPart_18 1 (6 - r) rfl (rfl) (by omega) (by decide) ?_
  refine x_i2l dX6_rankPart_19 ?_
  refine x_lmul dX6_rankPart_20 ?_
  refine x_ldc2 dX6_rankPart_21 kl_X6_70 ?_
  refine x_ldiv dX6_rankPart_24 (by decide) ?_
  refine x_goto dX6_rankPart_25 ?_
  rw [← hQ]
  refine x_lret dX6_rankPart_29 rfl (Nat.le_of_ble_eq_true rfl) (Nat.le_of_ble_eq_true rfl) ?_
  exact ⟨rfl, rfl⟩

-- == X6_lessTax ==
theorem dX6_lessTax_0 : xd cX6_lessTax 0 (.lload_n 1) 1 1 := ⟨by decide +kernel, rfl⟩
theorem dX6_lessTax_1 : xd cX6_lessTax 1 (.aload_n 0) 1 2 := ⟨by decide +kernel, rfl⟩
theorem dX6_lessTax_2 : xd cX6_lessTax 2 (.getfield 27) 3 5 := ⟨by decide +kernel, rfl⟩
theorem dX6_lessTax_5 : xd cX6_lessTax 5 (.bipush 6) 2 7 := ⟨by decide +kernel, rfl⟩
theorem dX6_lessTax_7 : xd cX6_lessTax 7 .iaload 1 8 := ⟨by decide +kernel, rfl⟩
theorem dX6_lessTax_8 : xd cX6_lessTax 8 .i2l 1 9 := ⟨by decide +kernel, rfl⟩
theorem dX6_lessTax_9 : xd cX6_lessTax 9 .lsub 1 10 := ⟨by decide +kernel, rfl⟩
theorem dX6_lessTax_10 : xd cX6_lessTax 10 (.lstore_n 3) 1 11 := ⟨by decide +kernel, rfl⟩
theorem dX6_lessTax_11 : xd cX6_lessTax 11 (.lload_n 3) 1 12 := ⟨by decide +kernel, rfl⟩
theorem dX6_lessTax_12 : xd cX6_lessTax 12 (.lconst 0) 1 13 := ⟨by decide +kernel, rfl⟩
theorem dX6_lessTax_13 : xd cX6_lessTax 13 .lcmp 1 14 := ⟨by decide +kernel, rfl⟩
theorem dX6_lessTax_14 : xj cX6_lessTax 14 (.ifCond .le) 17 35 := ⟨21, by decide +kernel, rfl, by decide⟩
theorem dX6_lessTax_17 : xd cX6_lessTax 17 (.lload_n 1) 1 18 := ⟨by decide +kernel, rfl⟩
theorem dX6_lessTax_18 : xd cX6_lessTax 18 (.lload_n 3) 1 19 := ⟨by decide +kernel, rfl⟩
theorem dX6_lessTax_19 : xd cX6_lessTax 19 (.aload_n 0) 1 20 := ⟨by decide +kernel, rfl⟩
theorem dX6_lessTax_20 : xd cX6_lessTax 20 (.getfield 27) 3 23 := ⟨by decide +kernel, rfl⟩
theorem dX6_lessTax_23 : xd cX6_lessTax 23 (.iconst 5) 1 24 := ⟨by decide +kernel, rfl⟩
theorem dX6_lessTax_24 : xd cX6_lessTax 24 .iaload 1 25 := ⟨by decide +kernel, rfl⟩
theorem dX6_lessTax_25 : xd cX6_lessTax 25 .i2l 1 26 := ⟨by decide +kernel, rfl⟩
theorem dX6_lessTax_26 : xd cX6_lessTax 26 .lmul 1 27 := ⟨by decide +kernel, rfl⟩
theorem dX6_lessTax_27 : xd cX6_lessTax 27 (.ldc2_w 70) 3 30 := ⟨by decide +kernel, rfl⟩
theorem dX6_lessTax_30 : xd cX6_lessTax 30 .ldiv 1 31 := ⟨by decide +kernel, rfl⟩
theorem dX6_lessTax_31 : xd cX6_lessTax 31 .lsub 1 32 := ⟨by decide +kernel, rfl⟩
theorem dX6_lessTax_32 : xj cX6_lessTax 32 .goto 35 36 := ⟨4, by decide +kernel, rfl, by decide⟩
theorem dX6_lessTax_35 : xd cX6_lessTax 35 (.lload_n 1) 1 36 := ⟨by decide +kernel, rfl⟩
theorem dX6_lessTax_36 : xd cX6_lessTax 36 .lreturn 1 37 := ⟨by decide +kernel, rfl⟩

set_option maxRecDepth 100000 in
set_option maxHeartbeats 4000000 in
theorem ct_X6_lessTax (l : Launch) (g : XG) (aS aSk aSm aSp aSt aSc aSr aSe gr br cs wk : Nat) (z : Int32) (ru : Nat → Nat) (gets : Int64) : Ct l g 1 0 0 yX6_lessTax cX6_lessTax 5 (some .long) [.ref aS, .long gets] [(aS, .inr (6, [.ref aSk, .ref aSm, .ref aSp, .ref aSt, .ref aSc, .ref aSr, .ref aSe, .int (nI gr), .int (nI br), .int (nI cs), .int (nI wk), .int z])), (aSr, .inl (g.2.1 0, 8, .inl (nIf ru)))] (xpl (taxL ru gets) [(aS, .inr (6, [.ref aSk, .ref aSm, .ref aSp, .ref aSt, .ref aSc, .ref aSr, .ref aSe, .int (nI gr), .int (nI br), .int (nI cs), .int (nI wk), .int z])), (aSr, .inl (g.2.1 0, 8, .inl (nIf ru)))]) := by
  refine Ct.ofX (lv := [some (.ref aS), some (.long gets), none, none, none]) (by decide) rfl (Nat.le_of_ble_eq_true rfl) (fun κ => ?_)
  generalize hQ : xQ κ g 0 0 _ = Q
  refine x_lload_n dX6_lessTax_0 rfl ?_
  refine x_aload_n dX6_lessTax_1 rfl ?_
  refine x_get dX6_lessTax_2 0 5 inX6 fl_X6_27 rfl rfl (by decide) rfl ?_
  refine x_bipush 6 dX6_lessTax_5 (by decide) ?_
  refine x_iald dX6_lessTax_7 1 6 rfl (rfl) (by decide) (by decide) ?_
  refine x_i2l dX6_lessTax_8 ?_
  refine x_lsub dX6_lessTax_9 ?_
  refine x_lstore_n (lv' := [some (.ref aS), some (.long gets), none, some (.long (gets - ((nI (ru 6)).toInt64))), none]) dX6_lessTax_10 (xlt rfl) rfl ?_
  refine x_lload_n dX6_lessTax_11 rfl ?_
  refine x_lconst 0 dX6_lessTax_12 (by decide) ?_
  refine x_lcmp dX6_lessTax_13 ?_
  have J14_2 : ∀ (v1 : Int64), v1 = (if (lg_cmp (gets - ((nI (ru 6)).toInt64)) 0) ≤ 0 then gets else gets - (((gets - ((nI (ru 6)).toInt64)) * ((nI (ru 5)).toInt64)) / 100)) → Xs κ g 1 0 0 cX6_lessTax yX6_lessTax (some .long) Q 0 0 36 [some (.ref aS), some (.long gets), none, some (.long (gets - ((nI (ru 6)).toInt64))), none] [.long v1] [(aS, .inr (6, [.ref aSk, .ref aSm, .ref aSp, .ref aSt, .ref aSc, .ref aSr, .ref aSe, .int (nI gr), .int (nI br), .int (nI cs), .int (nI wk), .int z])), (aSr, .inl (g.2.1 0, 8, .inl (nIf ru)))] := by
    intro v1 ev1
    rw [← hQ]
    refine x_lret dX6_lessTax_36 rfl (Nat.le_of_ble_eq_true rfl) (Nat.le_of_ble_eq_true rfl) ?_
    simp only [ev1]; exact ⟨rfl, rfl⟩
  refine x_if_le dX6_lessTax_14 (fun c14 => ?_) (fun c14 => ?_)
  · have c14 : (lg_cmp (gets - ((nI (ru 6)).toInt64)) 0) ≤ 0 := c14
    refine x_lload_n dX6_lessTax_35 rfl ?_
    exact J14_2 _ (if_pos c14).symm
  · have c14 : ¬ ((lg_cmp (gets - ((nI (ru 6)).toInt64)) 0) ≤ 0) := c14
    refine x_lload_n dX6_lessTax_17 rfl ?_
    refine x_lload_n dX6_lessTax_18 rfl ?_
    refine x_aload_n dX6_lessTax_19 rfl ?_
    refine x_get dX6_lessTax_20 0 5 inX6 fl_X6_27 rfl rfl (by decide) rfl ?_
    refine x_iconst 5 dX6_lessTax_23 (by decide) ?_
    refine x_iald dX6_lessTax_24 1 5 rfl (rfl) (by decide) (by decide) ?_
    refine x_i2l dX6_lessTax_25 ?_
    refine x_lmul dX6_lessTax_26 ?_
    refine x_ldc2 dX6_lessTax_27 kl_X6_70 ?_
    refine x_ldiv dX6_lessTax_30 (by decide) ?_
    refine x_lsub dX6_lessTax_31 ?_
    refine x_goto dX6_lessTax_32 ?_
    exact J14_2 _ (if_neg c14).symm

-- == X5_choose ==
theorem dX5_choose_0 : xd cX5_choose 0 (.iconst 1) 1 1 := ⟨by decide +kernel, rfl⟩
theorem dX5_choose_1 : xd cX5_choose 1 (.istore_n 2) 1 2 := ⟨by decide +kernel, rfl⟩
theorem dX5_choose_2 : xd cX5_choose 2 (.iconst 0) 1 3 := ⟨by decide +kernel, rfl⟩
theorem dX5_choose_3 : xd cX5_choose 3 (.istore_n 3) 1 4 := ⟨by decide +kernel, rfl⟩
theorem dX5_choose_4 : xd cX5_choose 4 (.iload_n 3) 1 5 := ⟨by decide +kernel, rfl⟩
theorem dX5_choose_5 : xd cX5_choose 5 (.iload_n 1) 1 6 := ⟨by decide +kernel, rfl⟩
theorem dX5_choose_6 : xj cX5_choose 6 (.if_icmp .ge) 9 25 := ⟨19, by decide +kernel, rfl, by decide⟩
theorem dX5_choose_9 : xd cX5_choose 9 (.iload_n 2) 1 10 := ⟨by decide +kernel, rfl⟩
theorem dX5_choose_10 : xd cX5_choose 10 (.iload_n 0) 1 11 := ⟨by decide +kernel, rfl⟩
theorem dX5_choose_11 : xd cX5_choose 11 (.iload_n 3) 1 12 := ⟨by decide +kernel, rfl⟩
theorem dX5_choose_12 : xd cX5_choose 12 .isub 1 13 := ⟨by decide +kernel, rfl⟩
theorem dX5_choose_13 : xd cX5_choose 13 .imul 1 14 := ⟨by decide +kernel, rfl⟩
theorem dX5_choose_14 : xd cX5_choose 14 (.iload_n 3) 1 15 := ⟨by decide +kernel, rfl⟩
theorem dX5_choose_15 : xd cX5_choose 15 (.iconst 1) 1 16 := ⟨by decide +kernel, rfl⟩
theorem dX5_choose_16 : xd cX5_choose 16 .iadd 1 17 := ⟨by decide +kernel, rfl⟩
theorem dX5_choose_17 : xd cX5_choose 17 .idiv 1 18 := ⟨by decide +kernel, rfl⟩
theorem dX5_choose_18 : xd cX5_choose 18 (.istore_n 2) 1 19 := ⟨by decide +kernel, rfl⟩
theorem dX5_choose_19 : xd cX5_choose 19 (.iinc 3 1) 3 22 := ⟨by decide +kernel, rfl⟩
theorem dX5_choose_22 : xj cX5_choose 22 .goto 25 4 := ⟨(-18), by decide +kernel, rfl, by decide⟩
theorem dX5_choose_25 : xd cX5_choose 25 (.iload_n 2) 1 26 := ⟨by decide +kernel, rfl⟩
theorem dX5_choose_26 : xd cX5_choose 26 .ireturn 1 27 := ⟨by decide +kernel, rfl⟩

set_option maxRecDepth 100000 in
set_option maxHeartbeats 4000000 in
theorem ct_X5_choose (l : Launch) (g : XG) (f s : Nat) (hf : f < 12) (hs : s ≤ 4) : Ct l g 1 0 0 yX5_choose cX5_choose 4 (some .int) [.int (nI f), .int (nI s)] [] (xpi (nI (chN f s)) []) := by
  refine Ct.ofX (lv := [some (.int (nI f)), some (.int (nI s)), none, none]) (by decide) rfl (Nat.le_of_ble_eq_true rfl) (fun κ => ?_)
  generalize hQ : xQ κ g 0 0 _ = Q
  refine x_iconst 1 dX5_choose_0 (by decide) ?_
  refine x_istore_n (lv' := [some (.int (nI f)), some (.int (nI s)), some (.int 1), none]) dX5_choose_1 (xlt rfl) rfl ?_
  refine x_iconst 0 dX5_choose_2 (by decide) ?_
  refine x_istore_n (lv' := [some (.int (nI f)), some (.int (nI s)), some (.int 1), some (.int 0)]) dX5_choose_3 (xlt rfl) rfl ?_
  have L4_1 : ∀ (i : Nat), i ≤ s → ∀ (ww : Nat), ww = chN f i → Xs κ g 1 0 0 cX5_choose yX5_choose (some .int) Q 0 0 4 [some (.int (nI f)), some (.int (nI s)), some (.int (nI ww)), some (.int (nI i))] [] [] := by
    refine upTo s (fun i hi4 ih4 => ?_)
    intro ww eww
    subst eww
    refine x_iload_n dX5_choose_4 rfl ?_
    refine x_iload_n dX5_choose_5 rfl ?_
    refine x_icmp_ge dX5_choose_6 (fun c6 => ?_) (fun c6 => ?_)
    · have c6 : (nI s) ≤ (nI i) := c6
      have c6n := (nI_leI (a := s) (b := i) (by omega) (by omega)).mp c6
      have hxc6 : i = s := by omega
      try rw [hxc6]
      refine x_iload_n dX5_choose_25 rfl ?_
      rw [← hQ]
      refine x_iret dX5_choose_26 rfl (Nat.le_of_ble_eq_true rfl) (Nat.le_of_ble_eq_true rfl) ?_
      exact ⟨rfl, rfl⟩
    · have c6 : ¬ ((nI s) ≤ (nI i)) := c6
      have c6n := mt (nI_leI (a := s) (b := i) (by omega) (by omega)).mpr c6
      refine x_iload_n dX5_choose_9 rfl ?_
      refine x_iload_n dX5_choose_10 rfl ?_
      refine x_iload_n dX5_choose_11 rfl ?_
      refine x_isub dX5_choose_12 ?_
      refine x_imul dX5_choose_13 ?_
      refine x_iload_n dX5_choose_14 rfl ?_
      refine x_iconst 1 dX5_choose_15 (by decide) ?_
      refine x_iadd dX5_choose_16 ?_
      refine x_rei (nI (i + 1)) (nI_addc i 1 rfl) ?_
      refine x_idiv dX5_choose_17 (nI_ne0 (by omega) (by omega)) ?_
      refine x_rei (nI (chN f (i + 1))) (chN_step f i hf (by omega)) ?_
      refine x_istore_n (lv' := [some (.int (nI f)), some (.int (nI s)), some (.int (nI (chN f (i + 1)))), some (.int (nI i))]) dX5_choose_18 (xlt rfl) rfl ?_
      refine x_iinc (lv' := [some (.int (nI f)), some (.int (nI s)), some (.int (nI (chN f (i + 1)))), some (.int (nI (i + 1)))]) (nI (i + 1)) dX5_choose_19 rfl (nI_addc i 1 rfl) rfl ?_
      refine x_goto dX5_choose_22 ?_
      exact ih4 (by omega) (chN f (i + 1)) (by rfl)
  exact L4_1 0 (Nat.zero_le _) 1 (by rfl)

-- == X5_placeOf ==
theorem dX5_placeOf_0 : xd cX5_placeOf 0 (.iconst 0) 1 1 := ⟨by decide +kernel, rfl⟩
theorem dX5_placeOf_1 : xd cX5_placeOf 1 (.istore_n 1) 1 2 := ⟨by decide +kernel, rfl⟩
theorem dX5_placeOf_2 : xd cX5_placeOf 2 (.iconst 0) 1 3 := ⟨by decide +kernel, rfl⟩
theorem dX5_placeOf_3 : xd cX5_placeOf 3 (.istore_n 2) 1 4 := ⟨by decide +kernel, rfl⟩
theorem dX5_placeOf_4 : xd cX5_placeOf 4 (.iconst 0) 1 5 := ⟨by decide +kernel, rfl⟩
theorem dX5_placeOf_5 : xd cX5_placeOf 5 (.istore_n 3) 1 6 := ⟨by decide +kernel, rfl⟩
theorem dX5_placeOf_6 : xd cX5_placeOf 6 (.iload_n 3) 1 7 := ⟨by decide +kernel, rfl⟩
theorem dX5_placeOf_7 : xd cX5_placeOf 7 (.bipush 12) 2 9 := ⟨by decide +kernel, rfl⟩
theorem dX5_placeOf_9 : xj cX5_placeOf 9 (.if_icmp .ge) 12 38 := ⟨29, by decide +kernel, rfl, by decide⟩
theorem dX5_placeOf_12 : xd cX5_placeOf 12 (.iload_n 0) 1 13 := ⟨by decide +kernel, rfl⟩
theorem dX5_placeOf_13 : xd cX5_placeOf 13 (.iload_n 3) 1 14 := ⟨by decide +kernel, rfl⟩
theorem dX5_placeOf_14 : xd cX5_placeOf 14 .ishr 1 15 := ⟨by decide +kernel, rfl⟩
theorem dX5_placeOf_15 : xd cX5_placeOf 15 (.iconst 1) 1 16 := ⟨by decide +kernel, rfl⟩
theorem dX5_placeOf_16 : xd cX5_placeOf 16 .iand 1 17 := ⟨by decide +kernel, rfl⟩
theorem dX5_placeOf_17 : xd cX5_placeOf 17 (.iconst 1) 1 18 := ⟨by decide +kernel, rfl⟩
theorem dX5_placeOf_18 : xj cX5_placeOf 18 (.if_icmp .ne) 21 32 := ⟨14, by decide +kernel, rfl, by decide⟩
theorem dX5_placeOf_21 : xd cX5_placeOf 21 (.iinc 2 1) 3 24 := ⟨by decide +kernel, rfl⟩
theorem dX5_placeOf_24 : xd cX5_placeOf 24 (.iload_n 1) 1 25 := ⟨by decide +kernel, rfl⟩
theorem dX5_placeOf_25 : xd cX5_placeOf 25 (.iload_n 3) 1 26 := ⟨by decide +kernel, rfl⟩
theorem dX5_placeOf_26 : xd cX5_placeOf 26 (.iload_n 2) 1 27 := ⟨by decide +kernel, rfl⟩
theorem dX5_placeOf_27 : xd cX5_placeOf 27 (.invokestatic 18) 3 30 := ⟨by decide +kernel, rfl⟩
theorem dX5_placeOf_30 : xd cX5_placeOf 30 .iadd 1 31 := ⟨by decide +kernel, rfl⟩
theorem dX5_placeOf_31 : xd cX5_placeOf 31 (.istore_n 1) 1 32 := ⟨by decide +kernel, rfl⟩
theorem dX5_placeOf_32 : xd cX5_placeOf 32 (.iinc 3 1) 3 35 := ⟨by decide +kernel, rfl⟩
theorem dX5_placeOf_35 : xj cX5_placeOf 35 .goto 38 6 := ⟨(-29), by decide +kernel, rfl, by decide⟩
theorem dX5_placeOf_38 : xd cX5_placeOf 38 (.iload_n 1) 1 39 := ⟨by decide +kernel, rfl⟩
theorem dX5_placeOf_39 : xd cX5_placeOf 39 .ireturn 1 40 := ⟨by decide +kernel, rfl⟩

set_option maxRecDepth 100000 in
set_option maxHeartbeats 4000000 in
theorem ct_X5_placeOf (l : Launch) (g : XG) (r : Nat) (hr : r < 4096) (hp : popN r = 4) : Ct l g 2 0 0 yX5_placeOf cX5_placeOf 4 (some .int) [.int (nI r)] [] (xpi (nI (plB r 12)) []) := by
  refine Ct.ofX (lv := [some (.int (nI r)), none, none, none]) (by decide) rfl (Nat.le_of_ble_eq_true rfl) (fun κ => ?_)
  generalize hQ : xQ κ g 0 0 _ = Q
  refine x_iconst 0 dX5_placeOf_0 (by decide) ?_
  refine x_istore_n (lv' := [some (.int (nI r)), some (.int 0), none, none]) dX5_placeOf_1 (xlt rfl) rfl ?_
  refine x_iconst 0 dX5_placeOf_2 (by decide) ?_
  refine x_istore_n (lv' := [some (.int (nI r)), some (.int 0), some (.int 0), none]) dX5_placeOf_3 (xlt rfl) rfl ?_
  refine x_iconst 0 dX5_placeOf_4 (by decide) ?_
  refine x_istore_n (lv' := [some (.int (nI r)), some (.int 0), some (.int 0), some (.int 0)]) dX5_placeOf_5 (xlt rfl) rfl ?_
  have L6_1 : ∀ (i : Nat), i ≤ 12 → ∀ (bl : Nat), bl = plB r i → ∀ (sz : Nat), sz = szB r i → Xs κ g 2 0 0 cX5_placeOf yX5_placeOf (some .int) Q 0 0 6 [some (.int (nI r)), some (.int (nI bl)), some (.int (nI sz)), some (.int (nI i))] [] [] := by
    refine upTo 12 (fun i hi6 ih6 => ?_)
    intro bl ebl
    subst ebl
    intro sz esz
    subst esz
    have hbn := bitN_lt r i
    refine x_iload_n dX5_placeOf_6 rfl ?_
    refine x_bipush 12 dX5_placeOf_7 (by decide) ?_
    refine x_icmp_ge dX5_placeOf_9 (fun c9 => ?_) (fun c9 => ?_)
    · have c9 : 12 ≤ (nI i) := c9
      have c9n := (nI_leI (a := 12) (b := i) (by omega) (by omega)).mp c9
      have hxc9 : i = 12 := by omega
      try rw [hxc9]
      refine x_iload_n dX5_placeOf_38 rfl ?_
      rw [← hQ]
      refine x_iret dX5_placeOf_39 rfl (Nat.le_of_ble_eq_true rfl) (Nat.le_of_ble_eq_true rfl) ?_
      exact ⟨rfl, rfl⟩
    · have c9 : ¬ (12 ≤ (nI i)) := c9
      have c9n := mt (nI_leI (a := 12) (b := i) (by omega) (by omega)).mpr c9
      refine x_iload_n dX5_placeOf_12 rfl ?_
      refine x_iload_n dX5_placeOf_13 rfl ?_
      refine x_ishr dX5_placeOf_14 ?_
      refine x_iconst 1 dX5_placeOf_15 (by decide) ?_
      refine x_iand dX5_placeOf_16 ?_
      refine x_rei (nI (bitN r i)) (shr_bit (by omega)) ?_
      refine x_iconst 1 dX5_placeOf_17 (by decide) ?_
      have J18_4 : ∀ (v2 : Nat), v2 = (if (nI (bitN r i)) = 1 then (plB r i) + (chN i ((szB r i) + 1)) else (plB r i)) → ∀ (v3 : Nat), v3 = (if (nI (bitN r i)) = 1 then (szB r i) + 1 else (szB r i)) → Xs κ g 2 0 0 cX5_placeOf yX5_placeOf (some .int) Q 0 0 32 [some (.int (nI r)), some (.int (nI v2)), some (.int (nI v3)), some (.int (nI i))] [] [] := by
        intro v2 ev2 v3 ev3
        refine x_iinc (lv' := [some (.int (nI r)), some (.int (nI v2)), some (.int (nI v3)), some (.int (nI (i + 1)))]) (nI (i + 1)) dX5_placeOf_32 rfl (nI_addc i 1 rfl) rfl ?_
        refine x_goto dX5_placeOf_35 ?_
        exact ih6 (by omega) v2 (by simp only [ev2]; simp only [bitI1]; show _ = plB r i + (if bitN r i = 1 then chN i (szB r i + 1) else 0); split <;> rfl) v3 (by simp only [ev3]; simp only [bitI1]; show _ = szB r i + bitN r i; split <;> omega)
      refine x_icmp_ne dX5_placeOf_18 (fun c18 => ?_) (fun c18 => ?_)
      · have c18 : ¬ ((nI (bitN r i)) = 1) := c18
        have c18n := mt (nI_eq (a := (bitN r i)) (b := 1) (by omega) (by omega)).mpr c18
        exact J18_4 (plB r i) (if_neg c18).symm (szB r i) (if_neg c18).symm
      · have c18 : (nI (bitN r i)) = 1 := c18
        have c18n := (nI_eq (a := (bitN r i)) (b := 1) (by omega) (by omega)).mp c18
        refine x_iinc (lv' := [some (.int (nI r)), some (.int (nI ((plB r i)))), some (.int (nI ((szB r i) + 1))), some (.int (nI i))]) (nI ((szB r i) + 1)) dX5_placeOf_21 rfl (nI_addc ((szB r i)) 1 rfl) rfl ?_
        refine x_iload_n dX5_placeOf_24 rfl ?_
        refine x_iload_n dX5_placeOf_25 rfl ?_
        refine x_iload_n dX5_placeOf_26 rfl ?_
        refine x_cSi dX5_placeOf_27 ml_X5_18 mX5_choose (ct_X5_choose κ.2.1 g i ((szB r i) + 1) (by omega) (by have := szB_le (r := r) (i := i) (by omega) c18n; omega)) rfl (Nat.le_of_ble_eq_true rfl) (by decide) (Nat.le_refl _) (Nat.le_refl _) ?_
        refine x_iadd dX5_placeOf_30 ?_
        refine x_rei (nI ((plB r i) + (chN i ((szB r i) + 1)))) (nI_iadd (plB r i) (chN i ((szB r i) + 1))) ?_
        refine x_istore_n (lv' := [some (.int (nI r)), some (.int (nI ((plB r i) + (chN i ((szB r i) + 1))))), some (.int (nI ((szB r i) + 1))), some (.int (nI i))]) dX5_placeOf_31 (xlt rfl) rfl ?_
        exact J18_4 ((plB r i) + (chN i ((szB r i) + 1))) (if_pos c18).symm ((szB r i) + 1) (if_pos c18).symm
  exact L6_1 0 (Nat.zero_le _) 0 (by rfl) 0 (by rfl)

-- == X5_inOneLine ==
theorem dX5_inOneLine_0 : xd cX5_inOneLine 0 (.iload_n 0) 1 1 := ⟨by decide +kernel, rfl⟩
theorem dX5_inOneLine_1 : xd cX5_inOneLine 1 (.bipush 15) 2 3 := ⟨by decide +kernel, rfl⟩
theorem dX5_inOneLine_3 : xd cX5_inOneLine 3 .iand 1 4 := ⟨by decide +kernel, rfl⟩
theorem dX5_inOneLine_4 : xd cX5_inOneLine 4 (.iload_n 0) 1 5 := ⟨by decide +kernel, rfl⟩
theorem dX5_inOneLine_5 : xj cX5_inOneLine 5 (.if_icmp .eq) 8 26 := ⟨21, by decide +kernel, rfl, by decide⟩
theorem dX5_inOneLine_8 : xd cX5_inOneLine 8 (.iload_n 0) 1 9 := ⟨by decide +kernel, rfl⟩
theorem dX5_inOneLine_9 : xd cX5_inOneLine 9 (.sipush 240) 3 12 := ⟨by decide +kernel, rfl⟩
theorem dX5_inOneLine_12 : xd cX5_inOneLine 12 .iand 1 13 := ⟨by decide +kernel, rfl⟩
theorem dX5_inOneLine_13 : xd cX5_inOneLine 13 (.iload_n 0) 1 14 := ⟨by decide +kernel, rfl⟩
theorem dX5_inOneLine_14 : xj cX5_inOneLine 14 (.if_icmp .eq) 17 26 := ⟨12, by decide +kernel, rfl, by decide⟩
theorem dX5_inOneLine_17 : xd cX5_inOneLine 17 (.iload_n 0) 1 18 := ⟨by decide +kernel, rfl⟩
theorem dX5_inOneLine_18 : xd cX5_inOneLine 18 (.sipush 3840) 3 21 := ⟨by decide +kernel, rfl⟩
theorem dX5_inOneLine_21 : xd cX5_inOneLine 21 .iand 1 22 := ⟨by decide +kernel, rfl⟩
theorem dX5_inOneLine_22 : xd cX5_inOneLine 22 (.iload_n 0) 1 23 := ⟨by decide +kernel, rfl⟩
theorem dX5_inOneLine_23 : xj cX5_inOneLine 23 (.if_icmp .ne) 26 30 := ⟨7, by decide +kernel, rfl, by decide⟩
theorem dX5_inOneLine_26 : xd cX5_inOneLine 26 (.iconst 1) 1 27 := ⟨by decide +kernel, rfl⟩
theorem dX5_inOneLine_27 : xj cX5_inOneLine 27 .goto 30 31 := ⟨4, by decide +kernel, rfl, by decide⟩
theorem dX5_inOneLine_30 : xd cX5_inOneLine 30 (.iconst 0) 1 31 := ⟨by decide +kernel, rfl⟩
theorem dX5_inOneLine_31 : xd cX5_inOneLine 31 .ireturn 1 32 := ⟨by decide +kernel, rfl⟩

set_option maxRecDepth 100000 in
set_option maxHeartbeats 4000000 in
theorem ct_X5_inOneLine (l : Launch) (g : XG) (r : Nat) (hr : r < 4096) : Ct l g 1 0 0 yX5_inOneLine cX5_inOneLine 1 (some .boolean) [.int (nI r)] [] (xpi (nI (lineF r)) []) := by
  refine Ct.ofX (lv := [some (.int (nI r))]) (by decide) rfl (Nat.le_of_ble_eq_true rfl) (fun κ => ?_)
  generalize hQ : xQ κ g 0 0 _ = Q
  refine x_iload_n dX5_inOneLine_0 rfl ?_
  refine x_bipush 15 dX5_inOneLine_1 (by decide) ?_
  refine x_iand dX5_inOneLine_3 ?_
  refine x_rei (nI (r &&& 15)) (nI_iand r 15) ?_
  refine x_iload_n dX5_inOneLine_4 rfl ?_
  have J5_8 : ∀ (v7 : Int32), v7 = (if (nI (r &&& 15)) = (nI r) then 1 else ((if (nI (r &&& 240)) = (nI r) then 1 else ((if (nI (r &&& 3840)) = (nI r) then 1 else 0))))) → Xs κ g 1 0 0 cX5_inOneLine yX5_inOneLine (some .boolean) Q 0 0 31 [some (.int (nI r))] [.int v7] [] := by
    intro v7 ev7
    rw [← hQ]
    refine x_zret dX5_inOneLine_31 rfl (by simp only [ev7, line_eq hr]; exact nar01 (lineF_lt r)) (Nat.le_of_ble_eq_true rfl) (Nat.le_of_ble_eq_true rfl) ?_
    exact ⟨by simp only [ev7, line_eq hr], rfl⟩
  refine x_icmp_eq dX5_inOneLine_5 (fun c5 => ?_) (fun c5 => ?_)
  · have c5 : (nI (r &&& 15)) = (nI r) := c5
    refine x_iconst 1 dX5_inOneLine_26 (by decide) ?_
    refine x_goto dX5_inOneLine_27 ?_
    exact J5_8 _ (if_pos c5).symm
  · have c5 : ¬ ((nI (r &&& 15)) = (nI r)) := c5
    refine x_iload_n dX5_inOneLine_8 rfl ?_
    refine x_sipush 240 dX5_inOneLine_9 (by decide) ?_
    refine x_iand dX5_inOneLine_12 ?_
    refine x_rei (nI (r &&& 240)) (nI_iand r 240) ?_
    refine x_iload_n dX5_inOneLine_13 rfl ?_
    have J14_12 : ∀ (v11 : Int32), v11 = (if (nI (r &&& 240)) = (nI r) then 1 else ((if (nI (r &&& 3840)) = (nI r) then 1 else 0))) → Xs κ g 1 0 0 cX5_inOneLine yX5_inOneLine (some .boolean) Q 0 0 31 [some (.int (nI r))] [.int v11] [] := by
      intro v11 ev11
      exact J5_8 _ (by rw [if_neg c5]; try simp only [ev11])
    refine x_icmp_eq dX5_inOneLine_14 (fun c14 => ?_) (fun c14 => ?_)
    · have c14 : (nI (r &&& 240)) = (nI r) := c14
      refine x_iconst 1 dX5_inOneLine_26 (by decide) ?_
      refine x_goto dX5_inOneLine_27 ?_
      exact J14_12 _ (if_pos c14).symm
    · have c14 : ¬ ((nI (r &&& 240)) = (nI r)) := c14
      refine x_iload_n dX5_inOneLine_17 rfl ?_
      refine x_sipush 3840 dX5_inOneLine_18 (by decide) ?_
      refine x_iand dX5_inOneLine_21 ?_
      refine x_rei (nI (r &&& 3840)) (nI_iand r 3840) ?_
      refine x_iload_n dX5_inOneLine_22 rfl ?_
      have J23_14 : ∀ (v13 : Int32), v13 = (if (nI (r &&& 3840)) = (nI r) then 1 else 0) → Xs κ g 1 0 0 cX5_inOneLine yX5_inOneLine (some .boolean) Q 0 0 31 [some (.int (nI r))] [.int v13] [] := by
        intro v13 ev13
        exact J14_12 _ (by rw [if_neg c14]; try simp only [ev13])
      refine x_icmp_ne dX5_inOneLine_23 (fun c23 => ?_) (fun c23 => ?_)
      · have c23 : ¬ ((nI (r &&& 3840)) = (nI r)) := c23
        refine x_iconst 0 dX5_inOneLine_30 (by decide) ?_
        exact J23_14 _ (if_neg c23).symm
      · have c23 : (nI (r &&& 3840)) = (nI r) := c23
        refine x_iconst 1 dX5_inOneLine_26 (by decide) ?_
        refine x_goto dX5_inOneLine_27 ?_
        exact J23_14 _ (if_pos c23).symm

-- == X5_hasColumn ==
theorem dX5_hasColumn_0 : xd cX5_hasColumn 0 (.iconst 0) 1 1 := ⟨by decide +kernel, rfl⟩
theorem dX5_hasColumn_1 : xd cX5_hasColumn 1 (.istore_n 1) 1 2 := ⟨by decide +kernel, rfl⟩
theorem dX5_hasColumn_2 : xd cX5_hasColumn 2 (.iload_n 1) 1 3 := ⟨by decide +kernel, rfl⟩
theorem dX5_hasColumn_3 : xd cX5_hasColumn 3 (.iconst 4) 1 4 := ⟨by decide +kernel, rfl⟩
theorem dX5_hasColumn_4 : xj cX5_hasColumn 4 (.if_icmp .ge) 7 28 := ⟨24, by decide +kernel, rfl, by decide⟩
theorem dX5_hasColumn_7 : xd cX5_hasColumn 7 (.sipush 273) 3 10 := ⟨by decide +kernel, rfl⟩
theorem dX5_hasColumn_10 : xd cX5_hasColumn 10 (.iload_n 1) 1 11 := ⟨by decide +kernel, rfl⟩
theorem dX5_hasColumn_11 : xd cX5_hasColumn 11 .ishl 1 12 := ⟨by decide +kernel, rfl⟩
theorem dX5_hasColumn_12 : xd cX5_hasColumn 12 (.istore_n 2) 1 13 := ⟨by decide +kernel, rfl⟩
theorem dX5_hasColumn_13 : xd cX5_hasColumn 13 (.iload_n 0) 1 14 := ⟨by decide +kernel, rfl⟩
theorem dX5_hasColumn_14 : xd cX5_hasColumn 14 (.iload_n 2) 1 15 := ⟨by decide +kernel, rfl⟩
theorem dX5_hasColumn_15 : xd cX5_hasColumn 15 .iand 1 16 := ⟨by decide +kernel, rfl⟩
theorem dX5_hasColumn_16 : xd cX5_hasColumn 16 (.iload_n 2) 1 17 := ⟨by decide +kernel, rfl⟩
theorem dX5_hasColumn_17 : xj cX5_hasColumn 17 (.if_icmp .ne) 20 22 := ⟨5, by decide +kernel, rfl, by decide⟩
theorem dX5_hasColumn_20 : xd cX5_hasColumn 20 (.iconst 1) 1 21 := ⟨by decide +kernel, rfl⟩
theorem dX5_hasColumn_21 : xd cX5_hasColumn 21 .ireturn 1 22 := ⟨by decide +kernel, rfl⟩
theorem dX5_hasColumn_22 : xd cX5_hasColumn 22 (.iinc 1 1) 3 25 := ⟨by decide +kernel, rfl⟩
theorem dX5_hasColumn_25 : xj cX5_hasColumn 25 .goto 28 2 := ⟨(-23), by decide +kernel, rfl, by decide⟩
theorem dX5_hasColumn_28 : xd cX5_hasColumn 28 (.iconst 0) 1 29 := ⟨by decide +kernel, rfl⟩
theorem dX5_hasColumn_29 : xd cX5_hasColumn 29 .ireturn 1 30 := ⟨by decide +kernel, rfl⟩

set_option maxRecDepth 100000 in
set_option maxHeartbeats 4000000 in
theorem ct_X5_hasColumn (l : Launch) (g : XG) (r : Nat) (hr : r < 4096) : Ct l g 1 0 0 yX5_hasColumn cX5_hasColumn 3 (some .boolean) [.int (nI r)] [] (xpi (nI (colF r)) []) := by
  refine Ct.ofX (lv := [some (.int (nI r)), none, none]) (by decide) rfl (Nat.le_of_ble_eq_true rfl) (fun κ => ?_)
  generalize hQ : xQ κ g 0 0 _ = Q
  refine x_iconst 0 dX5_hasColumn_0 (by decide) ?_
  refine x_istore_n (lv' := [some (.int (nI r)), some (.int 0), none]) dX5_hasColumn_1 (xlt rfl) rfl ?_
  have L2_1 : ∀ (i : Nat), i ≤ 4 → (∀ k, k < i → colT r k = false) → Xs κ g 1 0 0 cX5_hasColumn yX5_hasColumn (some .boolean) Q 0 0 2 [some (.int (nI r)), some (.int (nI i)), none] [] [] := by
    refine upTo 4 (fun i hi2 ih2 => ?_)
    intro hno
    refine x_iload_n dX5_hasColumn_2 rfl ?_
    refine x_iconst 4 dX5_hasColumn_3 (by decide) ?_
    refine x_icmp_ge dX5_hasColumn_4 (fun c4 => ?_) (fun c4 => ?_)
    · have c4 : 4 ≤ (nI i) := c4
      have c4n := (nI_leI (a := 4) (b := i) (by omega) (by omega)).mp c4
      have hxc4 : i = 4 := by omega
      try rw [hxc4]
      try rw [hxc4] at hno
      refine x_iconst 0 dX5_hasColumn_28 (by decide) ?_
      rw [← hQ]
      refine x_zret dX5_hasColumn_29 rfl (rfl) (Nat.le_of_ble_eq_true rfl) (Nat.le_of_ble_eq_true rfl) ?_
      exact ⟨by rw [← col_eq hr, fstNone (p := colT r) hno]; rfl, rfl⟩
    · have c4 : ¬ (4 ≤ (nI i)) := c4
      have c4n := mt (nI_leI (a := 4) (b := i) (by omega) (by omega)).mpr c4
      refine x_sipush 273 dX5_hasColumn_7 (by decide) ?_
      refine x_iload_n dX5_hasColumn_10 rfl ?_
      refine x_ishl dX5_hasColumn_11 ?_
      refine x_istore_n (lv' := [some (.int (nI r)), some (.int (nI i)), some (.int (273 <<< ((nI i) &&& 31)))]) dX5_hasColumn_12 (xlt rfl) rfl ?_
      refine x_iload_n dX5_hasColumn_13 rfl ?_
      refine x_iload_n dX5_hasColumn_14 rfl ?_
      refine x_iand dX5_hasColumn_15 ?_
      refine x_iload_n dX5_hasColumn_16 rfl ?_
      refine x_icmp_ne dX5_hasColumn_17 (fun c17 => ?_) (fun c17 => ?_)
      · have c17 : ¬ (((nI r) &&& (273 <<< ((nI i) &&& 31))) = (273 <<< ((nI i) &&& 31))) := c17
        refine x_iinc (lv' := [some (.int (nI r)), some (.int (nI (i + 1))), some (.int (273 <<< ((nI i) &&& 31)))]) (nI (i + 1)) dX5_hasColumn_22 rfl (nI_addc i 1 rfl) rfl ?_
        refine x_goto dX5_hasColumn_25 ?_
        refine x_fgt (lv' := [some (.int (nI r)), some (.int (nI (i + 1))), none]) ⟨Or.inr rfl, Or.inr rfl, Or.inl rfl, trivial⟩ ?_
        exact ih2 (by omega)  (allS hno (by simpa [colT] using c17))
      · have c17 : ((nI r) &&& (273 <<< ((nI i) &&& 31))) = (273 <<< ((nI i) &&& 31)) := c17
        refine x_iconst 1 dX5_hasColumn_20 (by decide) ?_
        rw [← hQ]
        refine x_zret dX5_hasColumn_21 rfl (rfl) (Nat.le_of_ble_eq_true rfl) (Nat.le_of_ble_eq_true rfl) ?_
        exact ⟨by rw [← col_eq hr, fstEq (p := colT r) (by omega) hno (by simpa [colT] using c17), if_pos (by omega)], rfl⟩
  exact L2_1 0 (Nat.zero_le _)  (fun k hk => by omega)

