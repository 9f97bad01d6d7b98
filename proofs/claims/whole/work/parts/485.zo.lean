theorem cn_no {w : Nat} (h : ¬ popN w = 4) : cnR (w + 1) = cnR w := by show cnR w + (if popN w = 4 then 1 else 0) = _; rw [if_neg h]; rfl
theorem cn_rqs {w : Nat} (h : w < 4096) (hp : popN w = 4) : updN (fillT (cnR w) rowB (fun _ => 0)) (cnR w) w = fillT (cnR (w + 1)) rowB (fun _ => 0) := by
  have e : cnR (w + 1) = cnR w + 1 := by show cnR w + (if popN w = 4 then 1 else 0) = _; rw [if_pos hp]
  rw [e, ← fillT_updN, cn_row h hp]
theorem fz {j c : Nat} (h : c ≤ j) : nIf (fillT c fcN (fun _ => 0)) j = 0 := by
  show nI (fillT c fcN (fun _ => 0) j) = 0
  rw [fillT_out _ _ (by omega)]; rfl
theorem plT_z {j : Nat} (hj : j < 4096) : upd (plT 4096) 0 (-1) j = plI j := by
  simp only [upd, plT]
  by_cases e : j = 0
  · subst e; rw [if_pos rfl]; rfl
  · rw [if_neg e, if_pos (by omega)]
