theorem range_pre (wa wb : va_W) : (List.range wa.length).map (fun i => (wa ++ wb)[i]?) = wa.map some := by
  apply List.ext_getElem?
  intro j
  rw [List.getElem?_map, List.getElem?_map]
  by_cases h : j < wa.length
  · rw [List.getElem?_range h, List.getElem?_eq_getElem h]
    show some ((wa ++ wb)[j]?) = _
    rw [List.getElem?_append_left h, List.getElem?_eq_getElem h]; rfl
  · rw [List.getElem?_eq_none (by rw [List.length_range]; omega), List.getElem?_eq_none (by omega)]; rfl
theorem range_post (wa wb : va_W) : ((List.range wb.length).map (fun i => wa.length + i)).map (fun i => (wa ++ wb)[i]?) = wb.map some := by
  apply List.ext_getElem?
  intro j
  rw [List.getElem?_map, List.getElem?_map, List.getElem?_map]
  by_cases h : j < wb.length
  · rw [List.getElem?_range h, List.getElem?_eq_getElem h]
    show some ((wa ++ wb)[wa.length + j]?) = _
    rw [List.getElem?_append_right (by omega), show wa.length + j - wa.length = j by omega, List.getElem?_eq_getElem h]; rfl
  · rw [List.getElem?_eq_none (by rw [List.length_range]; omega), List.getElem?_eq_none (by omega)]; rfl
theorem nd_of : ∀ (l : List Nat), l.Nodup → va_nd l = true
  | [], _ => rfl
  | a :: l, h => by
    have h2 := List.nodup_cons.mp h
    simp only [va_nd, Bool.and_eq_true, decide_eq_true_eq]
    exact ⟨h2.1, nd_of l h2.2⟩
theorem cat8 (v : Option Value) : ((v.toList ++ ([] : List Value)).map fun v => v.category).sum ≤ 8 := by
  cases v with
  | none => decide
  | some v => cases v <;> exact Nat.le_of_ble_eq_true rfl
theorem x_callJ {κ : Kx} {g : XG} {k mc ms : Nat} {cc : ByteArray} {y : MethodName} {ret : Option FieldType} {Q : State → Prop} {nc ns pc pc' : Nat} {lv : List (Option Value)} {st : List Value} {ws : va_W} {post : Option Value → va_W → Prop} {idx k2 maxL2 N ci bb : Nat} {T : u_T} {y2 : MethodName} {cc2 : ByteArray} {ret2 : Option FieldType} {As st0 : List Value} {wa wb : va_W} {fs : List Value} (d : xd cc pc (.invokevirtual idx) 3 pc') (hl : Cond.methodLink y.cls idx y2 ∈ TT) (hm : xMV y2 cc2 maxL2 ret2 As.length) (hM : Ct κ.2.1 g k2 0 0 y2 cc2 maxL2 ret2 (.ref bb :: As) wa post) (hws : ws = wa ++ wb) (he : wa[0]? = some (bb, .inr (ci, fs))) (hc : vwCl[ci]? = some (y2.cls, T, N)) (hst0 : st0 = As.reverse ++ .ref bb :: st) (hst : (st.map fun v => v.category).sum ≤ 8) (hk : k2 < k) (hnc : nc ≤ mc) (hns : ns ≤ ms)
    (h : ∀ (v : Option Value) (wc' : va_W), post v wc' → Xs κ g k mc ms cc y ret Q nc ns pc' lv (v.toList ++ st) (wb ++ wc')) : Xs κ g k mc ms cc y ret Q nc ns pc lv st0 ws := by
  intro F H locs ls hW hL
  obtain ⟨d1, rfl⟩ := d
  subst hst0
  subst hws
  have hC := range_pre wa wb
  have hR := range_post wa wb
  have hnd : va_nd (List.range wa.length) = true := nd_of _ List.nodup_range
  have hnR : va_nd ((List.range wb.length).map (fun i => wa.length + i)) = true := nd_of _ (by
    rw [List.nodup_iff_pairwise_ne, List.pairwise_map]
    exact (List.nodup_iff_pairwise_ne.mp List.nodup_range).imp (fun h e => h (by omega)))
  have hdis : ∀ i ∈ (List.range wb.length).map (fun i => wa.length + i), i ∉ List.range wa.length := by
    intro i hi hj
    obtain ⟨j, -, rfl⟩ := List.mem_map.mp hi
    have := List.mem_range.mp hj
    omega
  have hpos : 0 < wa.length := by
    cases wa with
    | nil => simp at he
    | cons x y => exact Nat.succ_pos _
  have he2 : (wa ++ wb)[0]? = some (bb, .inr (ci, fs)) := by
    rw [List.getElem?_append_left hpos]; exact he
  refine xcore (mc2 := 0) (ms2 := 0) F hW hC (va_runV (As := As) (rest := st) ⟨F.1, F.2.1, rfl, F.2.2.1, F.2.2.2.1⟩ (hM H.size) ⟨xCB F.2.2.2.1 hm.2 hl ⟨hk, by simp only [rmX]; omega⟩, F.2.2.2.1 _ hm.1.1, F.2.2.2.1 _ hm.1.2⟩ ⟨xPc_blind, va_recv F.2.2.2.2.1 hW.1 hc he2, xpre F hW hC hnd⟩ rfl rfl hL.1 rfl (lv_room hst) d1 ⟨hnc, hns⟩) ?_
  intro v wc' H1 locs1 hp hP1 hD1 hk1 hS1
  obtain ⟨hP2, hD2⟩ := va_join hW.1 hW.2.1 (List.range wa.length) ((List.range wb.length).map (fun i => wa.length + i)) hC hR hnR hdis hk1 (va_free hW.2.1 hW.2.2 F.2.2.2.2.2.2.1 _ hC) hP1 hD1
  exact h v wc' hp F H1 locs1 ls ⟨hP2, hD2, hS1⟩ hL
theorem rel_x0 {g : XG} {a b : Nat → Nat} {wX wM : va_W} (h : Rel g a b wX wM) : ∃ fs, wX[0]? = some (a 0, .inr (8, fs)) := rel_elim h (fun gr wk br cs lk sz z ru ki ma bp bt bb hd dr co ce kgr kwk kbr kcs klk ksz kz kru kki kma kbp kbt kbb khd kdr kco kce kp nkf ts fi tb bo rn0 rc0 ra0 rft f0 tot lat se sw sd li th tw cr by_ va su mk sk wsm tk shF sb sn sv nta nop npr nac nbd nnw nsn nwn nli nal nlo nwi ntr nbg now_ nis nbo nsz nnu hx hm hPe hBk hBo hLk hRu hKp hTp hSh hCr hRf => ⟨_, by rw [hx]; rfl⟩)
theorem rel_n0 {g : XG} {a b : Nat → Nat} {wX wM : va_W} (h : Rel g a b wX wM) : ∃ fs, wM[0]? = some (b 0, .inr (9, fs)) := rel_elim h (fun gr wk br cs lk sz z ru ki ma bp bt bb hd dr co ce kgr kwk kbr kcs klk ksz kz kru kki kma kbp kbt kbb khd kdr kco kce kp nkf ts fi tb bo rn0 rc0 ra0 rft f0 tot lat se sw sd li th tw cr by_ va su mk sk wsm tk shF sb sn sv nta nop npr nac nbd nnw nsn nwn nli nal nlo nwi ntr nbg now_ nis nbo nsz nnu hx hm hPe hBk hBo hLk hRu hKp hTp hSh hCr hRf => ⟨_, by rw [hm]; rfl⟩)
theorem lg_self (r : Int64) : lg_cmp r r = 0 := by
  unfold lg_cmp
  rw [if_neg (by rw [gt_iff_lt, fa_lt64]; omega), if_pos rfl]
