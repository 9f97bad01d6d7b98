/-! ===== the calls by pairs: rows, people ===== -/
theorem upd_all {f : Nat → Nat} {c k x : Nat} (h : ∀ j, f j ≤ c) (hx : x ≤ c) : ∀ j, updN f k x j ≤ c := fun j => by
  unfold updN; split
  · exact hx
  · exact h j
theorem udI_01 (kd : Nat) (ab : Int32) (h : kd ≤ 7) : udI kd ab = 0 ∨ udI kd ab = 1 := by
  rcases (by omega : kd = 0 ∨ kd = 1 ∨ kd = 2 ∨ kd = 3 ∨ kd = 4 ∨ kd = 5 ∨ kd = 6 ∨ kd = 7) with rfl | rfl | rfl | rfl | rfl | rfl | rfl | rfl <;> (unfold udI; repeat' split) <;> simp
set_option maxRecDepth 100000 in
set_option maxHeartbeats 4000000 in
theorem pr_place_b (l : Launch) (g : XG) (a b : Nat → Nat) (gr wk br cs lk sz : Nat) (z : Int32) (ru ki ma bp bt bb hd dr : Nat → Nat) (co ce : Nat → Int32) (kgr kwk kbr kcs klk ksz : Nat) (kz : Int32) (kru kki kma kbp kbt kbb khd kdr : Nat → Nat) (kco kce : Nat → Int32) (kp : Int32) (nkf : Nat → Int32) (ts : Nat) (fi tb bo : Nat → Nat) (rn0 rc0 ra0 : Nat) (rft : Int32) (f0 : Nat → Int32) (tot lat : Nat) (se sw : Int32) (sd li th tw cr by_ : Nat → Nat) (va su : Nat → Int64) (mk : Nat → Nat) (sk : Nat → Int32) (wsm : Nat → Int64) (tk : Nat → Nat) (shF : Nat → Option Nat) (sb sn : Nat → Nat) (sv : Nat → Nat → Int64) (nta nop npr nac : Nat) (nbd nnw nsn nwn : Int32) (nli nal nlo nwi ntr nbg now_ : Nat → Nat) (nis nbo : Nat → Int32) (nsz : Nat → Nat) (nnu : Nat → Int64) (hPe : PeI gr ki ma) (hBk : BkI wk ce dr) (hBo : BoI br bp bt hd) (hLk : LkI cs co lk sz bb) (hRu : RuI ru) (hKp : KpI kp nkf kgr kwk kbr kcs klk ksz kz kru kki kma kbp kbt kbb khd kdr kco kce) (hTp : TpI ts tb bo) (hSh : ShI a shF sb sn sv nbo nsz nnu) (hCr : CrI gr wk br cs sz ki ma bp bt bb dr tot lat se sw sd cr th tw) (hRf : RfI gr wk cs sz ki ma hd bb dr nnw nsn nwn nli nal nlo nwi nac) (x : Int32) (hb : isRowI x.toInt64 = 0) : PairP l g yX8_place cX8_place 2 (some .int) [.ref ((a 0)), .int x] yX9_place cX9_place 2 (some .int) [.ref ((b 0)), .int x] (xW g a gr wk br cs z ru ki ma bp bt co ce kgr kwk kbr kcs kz kru kki kma kbp kbt kco kce kp ts fi tb bo rn0 rc0 ra0 rft f0 tot lat se sw sd li th tw cr by_ va su mk sk wsm tk shF sb sn sv) (nW g b gr wk lk sz br z ru ki ma bb ce hd kp nkf ts fi tb nta nop npr nac nbd nnw nsn nwn nli nal nlo nwi ntr nbg now_ nis nbo nsz nnu) (Rel g a b) := by
  have hgr := hPe.1
  have hki := hPe.2.1
  have hma := hPe.2.2
  have hwk := hBk.1
  have hlat := core_lat hBk
  have hL := core_L hBk
  have hbr := hBo.1
  have hbp := hBo.2.1
  have hbt := hBo.2.2.1
  have hhd := hBo.2.2.2.2.2.2
  have hcs := hLk.1
  have hsz := hLk.2.1
  have hbb := hLk.2.2.1
  have hlk := lk_le hLk
  have hV : cs ≠ 0 → ∀ p, p < 495 → evR (nmI wk (laD wk dr) p) (cdF co 0 cs) [] = some [(txV bb sz wk (laD wk dr)) p] := fun q p _ => hLk.2.2.2.2 q wk (laD wk dr) p
  have hse := hCr.1
  have hsw := hCr.2
  have hsd := sdD_le cs bb sz wk (laD wk dr)
  have hsv : ∀ p, p < 495 → sdF cs (txV bb sz wk (laD wk dr)) p = if lk = 1 then clN (txV bb sz wk (laD wk dr) p) else 1 := fun p _ => lk_sd hLk _ _ p
  have hwo := hRf.1
  have hwc := hRf.2
  have htot := to_lt hPe hBo (laD wk dr) (sdF cs (txV bb sz wk (laD wk dr)))
  have e1 := cr_eq hBo gr ki ma (laD wk dr) (sdF cs (txV bb sz wk (laD wk dr)))
  have e2 := to_eq hBo gr ki ma (laD wk dr) (sdF cs (txV bb sz wk (laD wk dr)))
  have hts := hTp.1
  have htb := hTp.2.1
  have hbo := hTp.2.2
  refine ⟨.int (fndI 0), 10, 30, _, _, by decide, by decide, Or.inl ⟨rfl, _, rfl⟩, Ct.sub [0, 49, 1] rfl rfl ?_ (ct_place_b l g (a 0) (a 1) (a 9) (a 17) (a 24) (a 33) (a 36) (a 39) (a 40) (a 49) ts kp (a 2) (a 3) (a 4) (a 5) (a 6) (a 7) (a 8) gr br cs wk z fi x (hb)), Ct.sub [0, 3, 5] rfl rfl ?_ (ct_nplace_b l g (b 0) (b 1) (b 2) (b 3) (b 4) (b 5) (b 6) (b 7) (b 8) (b 9) (b 10) (b 11) (b 12) (b 13) (b 14) (b 15) (b 16) (b 17) (b 18) (b 19) ts nta nop npr nac kp nbd 0 nnw nsn nwn fi x (hb)), ?_⟩
  · rintro v w ⟨rfl, rfl⟩; rfl
  · rintro v w ⟨rfl, rfl⟩; rfl
  · rintro v1 w1 v2 w2 ⟨wq1, ⟨rfl, rfl⟩, rfl⟩ ⟨wq2, ⟨rfl, rfl⟩, rfl⟩
    refine ⟨rfl, rfl, rel_mk g a b gr wk br cs lk sz z ru ki ma bp bt bb hd dr co ce kgr kwk kbr kcs klk ksz kz kru kki kma kbp kbt kbb khd kdr kco kce kp nkf ts (updN fi 0 (fi 0 + 1)) tb bo rn0 rc0 ra0 rft f0 tot lat se sw sd li th tw cr by_ va su mk sk wsm tk shF sb sn sv nta nop npr nac nbd nnw nsn nwn nli nal nlo nwi ntr nbg now_ nis nbo nsz nnu ?_ ?_ hPe hBk hBo hLk hRu hKp hTp hSh hCr hRf⟩
    · simp only [e1, e2, xW, nW, xSet, List.set_cons_zero, List.set_cons_succ]
    · simp only [xW, nW, xSet, List.set_cons_zero, List.set_cons_succ]

set_option maxRecDepth 100000 in
set_option maxHeartbeats 4000000 in
theorem pr_place_o (l : Launch) (g : XG) (a b : Nat → Nat) (gr wk br cs lk sz : Nat) (z : Int32) (ru ki ma bp bt bb hd dr : Nat → Nat) (co ce : Nat → Int32) (kgr kwk kbr kcs klk ksz : Nat) (kz : Int32) (kru kki kma kbp kbt kbb khd kdr : Nat → Nat) (kco kce : Nat → Int32) (kp : Int32) (nkf : Nat → Int32) (ts : Nat) (fi tb bo : Nat → Nat) (rn0 rc0 ra0 : Nat) (rft : Int32) (f0 : Nat → Int32) (tot lat : Nat) (se sw : Int32) (sd li th tw cr by_ : Nat → Nat) (va su : Nat → Int64) (mk : Nat → Nat) (sk : Nat → Int32) (wsm : Nat → Int64) (tk : Nat → Nat) (shF : Nat → Option Nat) (sb sn : Nat → Nat) (sv : Nat → Nat → Int64) (nta nop npr nac : Nat) (nbd nnw nsn nwn : Int32) (nli nal nlo nwi ntr nbg now_ : Nat → Nat) (nis nbo : Nat → Int32) (nsz : Nat → Nat) (nnu : Nat → Int64) (hPe : PeI gr ki ma) (hBk : BkI wk ce dr) (hBo : BoI br bp bt hd) (hLk : LkI cs co lk sz bb) (hRu : RuI ru) (hKp : KpI kp nkf kgr kwk kbr kcs klk ksz kz kru kki kma kbp kbt kbb khd kdr kco kce) (hTp : TpI ts tb bo) (hSh : ShI a shF sb sn sv nbo nsz nnu) (hCr : CrI gr wk br cs sz ki ma bp bt bb dr tot lat se sw sd cr th tw) (hRf : RfI gr wk cs sz ki ma hd bb dr nnw nsn nwn nli nal nlo nwi nac) (r : Nat) (hr : r < 4096) (hp : popN r = 4) (ho : isRowI (nI r).toInt64 = 1) : PairP l g yX8_place cX8_place 2 (some .int) [.ref ((a 0)), .int (nI r)] yX9_place cX9_place 2 (some .int) [.ref ((b 0)), .int (nI r)] (xW g a gr wk br cs z ru ki ma bp bt co ce kgr kwk kbr kcs kz kru kki kma kbp kbt kco kce kp ts fi tb bo rn0 rc0 ra0 rft f0 tot lat se sw sd li th tw cr by_ va su mk sk wsm tk shF sb sn sv) (nW g b gr wk lk sz br z ru ki ma bb ce hd kp nkf ts fi tb nta nop npr nac nbd nnw nsn nwn nli nal nlo nwi ntr nbg now_ nis nbo nsz nnu) (Rel g a b) := by
  have hgr := hPe.1
  have hki := hPe.2.1
  have hma := hPe.2.2
  have hwk := hBk.1
  have hlat := core_lat hBk
  have hL := core_L hBk
  have hbr := hBo.1
  have hbp := hBo.2.1
  have hbt := hBo.2.2.1
  have hhd := hBo.2.2.2.2.2.2
  have hcs := hLk.1
  have hsz := hLk.2.1
  have hbb := hLk.2.2.1
  have hlk := lk_le hLk
  have hV : cs ≠ 0 → ∀ p, p < 495 → evR (nmI wk (laD wk dr) p) (cdF co 0 cs) [] = some [(txV bb sz wk (laD wk dr)) p] := fun q p _ => hLk.2.2.2.2 q wk (laD wk dr) p
  have hse := hCr.1
  have hsw := hCr.2
  have hsd := sdD_le cs bb sz wk (laD wk dr)
  have hsv : ∀ p, p < 495 → sdF cs (txV bb sz wk (laD wk dr)) p = if lk = 1 then clN (txV bb sz wk (laD wk dr) p) else 1 := fun p _ => lk_sd hLk _ _ p
  have hwo := hRf.1
  have hwc := hRf.2
  have htot := to_lt hPe hBo (laD wk dr) (sdF cs (txV bb sz wk (laD wk dr)))
  have e1 := cr_eq hBo gr ki ma (laD wk dr) (sdF cs (txV bb sz wk (laD wk dr)))
  have e2 := to_eq hBo gr ki ma (laD wk dr) (sdF cs (txV bb sz wk (laD wk dr)))
  have hts := hTp.1
  have htb := hTp.2.1
  have hbo := hTp.2.2
  refine ⟨.int (nI (plB r 12)), 10, 30, _, _, by decide, by decide, Or.inl ⟨rfl, _, rfl⟩, Ct.sub [0, 49, 1] rfl rfl ?_ (ct_place_o l g (a 0) (a 1) (a 9) (a 17) (a 24) (a 33) (a 36) (a 39) (a 40) (a 49) ts kp (a 2) (a 3) (a 4) (a 5) (a 6) (a 7) (a 8) gr br cs wk z fi r (hr) (hp) (ho)), Ct.sub [0, 3, 5] rfl rfl ?_ (ct_nplace_o l g (b 0) (b 1) (b 2) (b 3) (b 4) (b 5) (b 6) (b 7) (b 8) (b 9) (b 10) (b 11) (b 12) (b 13) (b 14) (b 15) (b 16) (b 17) (b 18) (b 19) ts nta nop npr nac kp nbd 0 nnw nsn nwn fi r (hr) (hp)), ?_⟩
  · rintro v w ⟨rfl, rfl⟩; rfl
  · rintro v w ⟨rfl, rfl⟩; rfl
  · rintro v1 w1 v2 w2 ⟨wq1, ⟨rfl, rfl⟩, rfl⟩ ⟨wq2, ⟨rfl, rfl⟩, rfl⟩
    refine ⟨rfl, rfl, rel_mk g a b gr wk br cs lk sz z ru ki ma bp bt bb hd dr co ce kgr kwk kbr kcs klk ksz kz kru kki kma kbp kbt kbb khd kdr kco kce kp nkf ts fi tb bo rn0 rc0 ra0 rft f0 tot lat se sw sd li th tw cr by_ va su mk sk wsm tk shF sb sn sv nta nop npr nac nbd nnw nsn nwn nli nal nlo nwi ntr nbg now_ nis nbo nsz nnu ?_ ?_ hPe hBk hBo hLk hRu hKp hTp hSh hCr hRf⟩
    · simp only [e1, e2, xW, nW, xSet, List.set_cons_zero, List.set_cons_succ]
    · simp only [xW, nW, xSet, List.set_cons_zero, List.set_cons_succ]

set_option maxRecDepth 100000 in
set_option maxHeartbeats 4000000 in
theorem pr_row_b (l : Launch) (g : XG) (a b : Nat → Nat) (gr wk br cs lk sz : Nat) (z : Int32) (ru ki ma bp bt bb hd dr : Nat → Nat) (co ce : Nat → Int32) (kgr kwk kbr kcs klk ksz : Nat) (kz : Int32) (kru kki kma kbp kbt kbb khd kdr : Nat → Nat) (kco kce : Nat → Int32) (kp : Int32) (nkf : Nat → Int32) (ts : Nat) (fi tb bo : Nat → Nat) (rn0 rc0 ra0 : Nat) (rft : Int32) (f0 : Nat → Int32) (tot lat : Nat) (se sw : Int32) (sd li th tw cr by_ : Nat → Nat) (va su : Nat → Int64) (mk : Nat → Nat) (sk : Nat → Int32) (wsm : Nat → Int64) (tk : Nat → Nat) (shF : Nat → Option Nat) (sb sn : Nat → Nat) (sv : Nat → Nat → Int64) (nta nop npr nac : Nat) (nbd nnw nsn nwn : Int32) (nli nal nlo nwi ntr nbg now_ : Nat → Nat) (nis nbo : Nat → Int32) (nsz : Nat → Nat) (nnu : Nat → Int64) (hPe : PeI gr ki ma) (hBk : BkI wk ce dr) (hBo : BoI br bp bt hd) (hLk : LkI cs co lk sz bb) (hRu : RuI ru) (hKp : KpI kp nkf kgr kwk kbr kcs klk ksz kz kru kki kma kbp kbt kbb khd kdr kco kce) (hTp : TpI ts tb bo) (hSh : ShI a shF sb sn sv nbo nsz nnu) (hCr : CrI gr wk br cs sz ki ma bp bt bb dr tot lat se sw sd cr th tw) (hRf : RfI gr wk cs sz ki ma hd bb dr nnw nsn nwn nli nal nlo nwi nac) (pl : Int32) (hb : wI pl 0 494 = 0) : PairP l g yX8_row cX8_row 2 (some .int) [.ref ((a 0)), .int pl] yX9_row cX9_row 2 (some .int) [.ref ((b 0)), .int pl] (xW g a gr wk br cs z ru ki ma bp bt co ce kgr kwk kbr kcs kz kru kki kma kbp kbt kco kce kp ts fi tb bo rn0 rc0 ra0 rft f0 tot lat se sw sd li th tw cr by_ va su mk sk wsm tk shF sb sn sv) (nW g b gr wk lk sz br z ru ki ma bb ce hd kp nkf ts fi tb nta nop npr nac nbd nnw nsn nwn nli nal nlo nwi ntr nbg now_ nis nbo nsz nnu) (Rel g a b) := by
  have hgr := hPe.1
  have hki := hPe.2.1
  have hma := hPe.2.2
  have hwk := hBk.1
  have hlat := core_lat hBk
  have hL := core_L hBk
  have hbr := hBo.1
  have hbp := hBo.2.1
  have hbt := hBo.2.2.1
  have hhd := hBo.2.2.2.2.2.2
  have hcs := hLk.1
  have hsz := hLk.2.1
  have hbb := hLk.2.2.1
  have hlk := lk_le hLk
  have hV : cs ≠ 0 → ∀ p, p < 495 → evR (nmI wk (laD wk dr) p) (cdF co 0 cs) [] = some [(txV bb sz wk (laD wk dr)) p] := fun q p _ => hLk.2.2.2.2 q wk (laD wk dr) p
  have hse := hCr.1
  have hsw := hCr.2
  have hsd := sdD_le cs bb sz wk (laD wk dr)
  have hsv : ∀ p, p < 495 → sdF cs (txV bb sz wk (laD wk dr)) p = if lk = 1 then clN (txV bb sz wk (laD wk dr) p) else 1 := fun p _ => lk_sd hLk _ _ p
  have hwo := hRf.1
  have hwc := hRf.2
  have htot := to_lt hPe hBo (laD wk dr) (sdF cs (txV bb sz wk (laD wk dr)))
  have e1 := cr_eq hBo gr ki ma (laD wk dr) (sdF cs (txV bb sz wk (laD wk dr)))
  have e2 := to_eq hBo gr ki ma (laD wk dr) (sdF cs (txV bb sz wk (laD wk dr)))
  have hts := hTp.1
  have htb := hTp.2.1
  have hbo := hTp.2.2
  refine ⟨.int (fndI 0), 10, 30, _, _, by decide, by decide, Or.inl ⟨rfl, _, rfl⟩, Ct.sub [0, 49, 1] rfl rfl ?_ (ct_row_b l g (a 0) (a 1) (a 9) (a 17) (a 24) (a 33) (a 36) (a 39) (a 40) (a 49) ts kp (a 2) (a 3) (a 4) (a 5) (a 6) (a 7) (a 8) gr br cs wk z fi pl (hb)), Ct.sub [0, 3] rfl rfl ?_ (ct_nrow_b l g (b 0) (b 1) (b 2) (b 3) (b 4) (b 5) (b 6) (b 7) (b 8) (b 9) (b 10) (b 11) (b 12) (b 13) (b 14) (b 15) (b 16) (b 17) (b 18) (b 19) ts nta nop npr nac kp nbd 0 nnw nsn nwn fi pl (hb)), ?_⟩
  · rintro v w ⟨rfl, rfl⟩; rfl
  · rintro v w ⟨rfl, rfl⟩; rfl
  · rintro v1 w1 v2 w2 ⟨wq1, ⟨rfl, rfl⟩, rfl⟩ ⟨wq2, ⟨rfl, rfl⟩, rfl⟩
    refine ⟨rfl, rfl, rel_mk g a b gr wk br cs lk sz z ru ki ma bp bt bb hd dr co ce kgr kwk kbr kcs klk ksz kz kru kki kma kbp kbt kbb khd kdr kco kce kp nkf ts (updN fi 0 (fi 0 + 1)) tb bo rn0 rc0 ra0 rft f0 tot lat se sw sd li th tw cr by_ va su mk sk wsm tk shF sb sn sv nta nop npr nac nbd nnw nsn nwn nli nal nlo nwi ntr nbg now_ nis nbo nsz nnu ?_ ?_ hPe hBk hBo hLk hRu hKp hTp hSh hCr hRf⟩
    · simp only [e1, e2, xW, nW, xSet, List.set_cons_zero, List.set_cons_succ]
    · simp only [xW, nW, xSet, List.set_cons_zero, List.set_cons_succ]

set_option maxRecDepth 100000 in
set_option maxHeartbeats 4000000 in
theorem pr_row_o (l : Launch) (g : XG) (a b : Nat → Nat) (gr wk br cs lk sz : Nat) (z : Int32) (ru ki ma bp bt bb hd dr : Nat → Nat) (co ce : Nat → Int32) (kgr kwk kbr kcs klk ksz : Nat) (kz : Int32) (kru kki kma kbp kbt kbb khd kdr : Nat → Nat) (kco kce : Nat → Int32) (kp : Int32) (nkf : Nat → Int32) (ts : Nat) (fi tb bo : Nat → Nat) (rn0 rc0 ra0 : Nat) (rft : Int32) (f0 : Nat → Int32) (tot lat : Nat) (se sw : Int32) (sd li th tw cr by_ : Nat → Nat) (va su : Nat → Int64) (mk : Nat → Nat) (sk : Nat → Int32) (wsm : Nat → Int64) (tk : Nat → Nat) (shF : Nat → Option Nat) (sb sn : Nat → Nat) (sv : Nat → Nat → Int64) (nta nop npr nac : Nat) (nbd nnw nsn nwn : Int32) (nli nal nlo nwi ntr nbg now_ : Nat → Nat) (nis nbo : Nat → Int32) (nsz : Nat → Nat) (nnu : Nat → Int64) (hPe : PeI gr ki ma) (hBk : BkI wk ce dr) (hBo : BoI br bp bt hd) (hLk : LkI cs co lk sz bb) (hRu : RuI ru) (hKp : KpI kp nkf kgr kwk kbr kcs klk ksz kz kru kki kma kbp kbt kbb khd kdr kco kce) (hTp : TpI ts tb bo) (hSh : ShI a shF sb sn sv nbo nsz nnu) (hCr : CrI gr wk br cs sz ki ma bp bt bb dr tot lat se sw sd cr th tw) (hRf : RfI gr wk cs sz ki ma hd bb dr nnw nsn nwn nli nal nlo nwi nac) (p : Nat) (hp : p < 495) : PairP l g yX8_row cX8_row 2 (some .int) [.ref ((a 0)), .int (nI p)] yX9_row cX9_row 2 (some .int) [.ref ((b 0)), .int (nI p)] (xW g a gr wk br cs z ru ki ma bp bt co ce kgr kwk kbr kcs kz kru kki kma kbp kbt kco kce kp ts fi tb bo rn0 rc0 ra0 rft f0 tot lat se sw sd li th tw cr by_ va su mk sk wsm tk shF sb sn sv) (nW g b gr wk lk sz br z ru ki ma bb ce hd kp nkf ts fi tb nta nop npr nac nbd nnw nsn nwn nli nal nlo nwi ntr nbg now_ nis nbo nsz nnu) (Rel g a b) := by
  have hgr := hPe.1
  have hki := hPe.2.1
  have hma := hPe.2.2
  have hwk := hBk.1
  have hlat := core_lat hBk
  have hL := core_L hBk
  have hbr := hBo.1
  have hbp := hBo.2.1
  have hbt := hBo.2.2.1
  have hhd := hBo.2.2.2.2.2.2
  have hcs := hLk.1
  have hsz := hLk.2.1
  have hbb := hLk.2.2.1
  have hlk := lk_le hLk
  have hV : cs ≠ 0 → ∀ p, p < 495 → evR (nmI wk (laD wk dr) p) (cdF co 0 cs) [] = some [(txV bb sz wk (laD wk dr)) p] := fun q p _ => hLk.2.2.2.2 q wk (laD wk dr) p
  have hse := hCr.1
  have hsw := hCr.2
  have hsd := sdD_le cs bb sz wk (laD wk dr)
  have hsv : ∀ p, p < 495 → sdF cs (txV bb sz wk (laD wk dr)) p = if lk = 1 then clN (txV bb sz wk (laD wk dr) p) else 1 := fun p _ => lk_sd hLk _ _ p
  have hwo := hRf.1
  have hwc := hRf.2
  have htot := to_lt hPe hBo (laD wk dr) (sdF cs (txV bb sz wk (laD wk dr)))
  have e1 := cr_eq hBo gr ki ma (laD wk dr) (sdF cs (txV bb sz wk (laD wk dr)))
  have e2 := to_eq hBo gr ki ma (laD wk dr) (sdF cs (txV bb sz wk (laD wk dr)))
  have hts := hTp.1
  have htb := hTp.2.1
  have hbo := hTp.2.2
  refine ⟨.int (nI (rowB p)), 10, 30, _, _, by decide, by decide, Or.inl ⟨rfl, _, rfl⟩, Ct.sub [0, 49, 1, 17, 18] rfl rfl ?_ (ct_row_o l g (a 0) (a 1) (a 9) (a 17) (a 24) (a 33) (a 36) (a 39) (a 40) (a 49) ts kp (a 2) (a 3) (a 4) (a 5) (a 6) (a 7) (a 8) gr br cs wk z fi (a 18) (a 19) p (hp)), Ct.sub [0, 3, 4] rfl rfl ?_ (ct_nrow_o l g (b 0) (b 1) (b 2) (b 3) (b 4) (b 5) (b 6) (b 7) (b 8) (b 9) (b 10) (b 11) (b 12) (b 13) (b 14) (b 15) (b 16) (b 17) (b 18) (b 19) ts nta nop npr nac kp nbd 0 nnw nsn nwn fi p (hp)), ?_⟩
  · rintro v w ⟨rfl, rfl⟩; rfl
  · rintro v w ⟨rfl, rfl⟩; rfl
  · rintro v1 w1 v2 w2 ⟨wq1, ⟨rfl, rfl⟩, rfl⟩ ⟨wq2, ⟨rfl, rfl⟩, rfl⟩
    refine ⟨rfl, rfl, rel_mk g a b gr wk br cs lk sz z ru ki ma bp bt bb hd dr co ce kgr kwk kbr kcs klk ksz kz kru kki kma kbp kbt kbb khd kdr kco kce kp nkf ts fi tb bo rn0 rc0 ra0 rft f0 tot lat se sw sd li th tw cr by_ va su mk sk wsm tk shF sb sn sv nta nop npr nac nbd nnw nsn nwn nli nal nlo nwi ntr nbg now_ nis nbo nsz nnu ?_ ?_ hPe hBk hBo hLk hRu hKp hTp hSh hCr hRf⟩
    · simp only [e1, e2, xW, nW, xSet, List.set_cons_zero, List.set_cons_succ]
    · simp only [xW, nW, xSet, List.set_cons_zero, List.set_cons_succ]

set_option maxRecDepth 100000 in
set_option maxHeartbeats 4000000 in
theorem pr_people_b (l : Launch) (g : XG) (a b : Nat → Nat) (gr wk br cs lk sz : Nat) (z : Int32) (ru ki ma bp bt bb hd dr : Nat → Nat) (co ce : Nat → Int32) (kgr kwk kbr kcs klk ksz : Nat) (kz : Int32) (kru kki kma kbp kbt kbb khd kdr : Nat → Nat) (kco kce : Nat → Int32) (kp : Int32) (nkf : Nat → Int32) (ts : Nat) (fi tb bo : Nat → Nat) (rn0 rc0 ra0 : Nat) (rft : Int32) (f0 : Nat → Int32) (tot lat : Nat) (se sw : Int32) (sd li th tw cr by_ : Nat → Nat) (va su : Nat → Int64) (mk : Nat → Nat) (sk : Nat → Int32) (wsm : Nat → Int64) (tk : Nat → Nat) (shF : Nat → Option Nat) (sb sn : Nat → Nat) (sv : Nat → Nat → Int64) (nta nop npr nac : Nat) (nbd nnw nsn nwn : Int32) (nli nal nlo nwi ntr nbg now_ : Nat → Nat) (nis nbo : Nat → Int32) (nsz : Nat → Nat) (nnu : Nat → Int64) (hPe : PeI gr ki ma) (hBk : BkI wk ce dr) (hBo : BoI br bp bt hd) (hLk : LkI cs co lk sz bb) (hRu : RuI ru) (hKp : KpI kp nkf kgr kwk kbr kcs klk ksz kz kru kki kma kbp kbt kbb khd kdr kco kce) (hTp : TpI ts tb bo) (hSh : ShI a shF sb sn sv nbo nsz nnu) (hCr : CrI gr wk br cs sz ki ma bp bt bb dr tot lat se sw sd cr th tw) (hRf : RfI gr wk cs sz ki ma hd bb dr nnw nsn nwn nli nal nlo nwi nac) (kd mn : Int32) (hb : wI kd 0 7 = 0 ∨ wI mn 0 99999 = 0) : PairP l g yX8_people cX8_people 4 (some .int) [.ref ((a 0)), .int kd, .int mn] yX9_people cX9_people 3 (some .int) [.ref ((b 0)), .int kd, .int mn] (xW g a gr wk br cs z ru ki ma bp bt co ce kgr kwk kbr kcs kz kru kki kma kbp kbt kco kce kp ts fi tb bo rn0 rc0 ra0 rft f0 tot lat se sw sd li th tw cr by_ va su mk sk wsm tk shF sb sn sv) (nW g b gr wk lk sz br z ru ki ma bb ce hd kp nkf ts fi tb nta nop npr nac nbd nnw nsn nwn nli nal nlo nwi ntr nbg now_ nis nbo nsz nnu) (Rel g a b) := by
  have hgr := hPe.1
  have hki := hPe.2.1
  have hma := hPe.2.2
  have hwk := hBk.1
  have hlat := core_lat hBk
  have hL := core_L hBk
  have hbr := hBo.1
  have hbp := hBo.2.1
  have hbt := hBo.2.2.1
  have hhd := hBo.2.2.2.2.2.2
  have hcs := hLk.1
  have hsz := hLk.2.1
  have hbb := hLk.2.2.1
  have hlk := lk_le hLk
  have hV : cs ≠ 0 → ∀ p, p < 495 → evR (nmI wk (laD wk dr) p) (cdF co 0 cs) [] = some [(txV bb sz wk (laD wk dr)) p] := fun q p _ => hLk.2.2.2.2 q wk (laD wk dr) p
  have hse := hCr.1
  have hsw := hCr.2
  have hsd := sdD_le cs bb sz wk (laD wk dr)
  have hsv : ∀ p, p < 495 → sdF cs (txV bb sz wk (laD wk dr)) p = if lk = 1 then clN (txV bb sz wk (laD wk dr) p) else 1 := fun p _ => lk_sd hLk _ _ p
  have hwo := hRf.1
  have hwc := hRf.2
  have htot := to_lt hPe hBo (laD wk dr) (sdF cs (txV bb sz wk (laD wk dr)))
  have e1 := cr_eq hBo gr ki ma (laD wk dr) (sdF cs (txV bb sz wk (laD wk dr)))
  have e2 := to_eq hBo gr ki ma (laD wk dr) (sdF cs (txV bb sz wk (laD wk dr)))
  have hts := hTp.1
  have htb := hTp.2.1
  have hbo := hTp.2.2
  refine ⟨.int (fndI 0), 10, 30, _, _, by decide, by decide, Or.inl ⟨rfl, _, rfl⟩, Ct.sub [0, 49, 1] rfl rfl ?_ (ct_people_b l g (a 0) (a 1) (a 9) (a 17) (a 24) (a 33) (a 36) (a 39) (a 40) (a 49) ts kp (a 2) (a 3) (a 4) (a 5) (a 6) (a 7) (a 8) gr br cs wk z fi kd mn (hb)), Ct.sub [0, 3] rfl rfl ?_ (ct_npeople_b l g (b 0) (b 1) (b 2) (b 3) (b 4) (b 5) (b 6) (b 7) (b 8) (b 9) (b 10) (b 11) (b 12) (b 13) (b 14) (b 15) (b 16) (b 17) (b 18) (b 19) ts nta nop npr nac kp nbd 0 nnw nsn nwn fi kd mn (hb)), ?_⟩
  · rintro v w ⟨rfl, rfl⟩; rfl
  · rintro v w ⟨rfl, rfl⟩; rfl
  · rintro v1 w1 v2 w2 ⟨wq1, ⟨rfl, rfl⟩, rfl⟩ ⟨wq2, ⟨rfl, rfl⟩, rfl⟩
    refine ⟨rfl, rfl, rel_mk g a b gr wk br cs lk sz z ru ki ma bp bt bb hd dr co ce kgr kwk kbr kcs klk ksz kz kru kki kma kbp kbt kbb khd kdr kco kce kp nkf ts (updN fi 0 (fi 0 + 1)) tb bo rn0 rc0 ra0 rft f0 tot lat se sw sd li th tw cr by_ va su mk sk wsm tk shF sb sn sv nta nop npr nac nbd nnw nsn nwn nli nal nlo nwi ntr nbg now_ nis nbo nsz nnu ?_ ?_ hPe hBk hBo hLk hRu hKp hTp hSh hCr hRf⟩
    · simp only [e1, e2, xW, nW, xSet, List.set_cons_zero, List.set_cons_succ]
    · simp only [xW, nW, xSet, List.set_cons_zero, List.set_cons_succ]

set_option maxRecDepth 100000 in
set_option maxHeartbeats 4000000 in
theorem pr_people_f (l : Launch) (g : XG) (a b : Nat → Nat) (gr wk br cs lk sz : Nat) (z : Int32) (ru ki ma bp bt bb hd dr : Nat → Nat) (co ce : Nat → Int32) (kgr kwk kbr kcs klk ksz : Nat) (kz : Int32) (kru kki kma kbp kbt kbb khd kdr : Nat → Nat) (kco kce : Nat → Int32) (kp : Int32) (nkf : Nat → Int32) (ts : Nat) (fi tb bo : Nat → Nat) (rn0 rc0 ra0 : Nat) (rft : Int32) (f0 : Nat → Int32) (tot lat : Nat) (se sw : Int32) (sd li th tw cr by_ : Nat → Nat) (va su : Nat → Int64) (mk : Nat → Nat) (sk : Nat → Int32) (wsm : Nat → Int64) (tk : Nat → Nat) (shF : Nat → Option Nat) (sb sn : Nat → Nat) (sv : Nat → Nat → Int64) (nta nop npr nac : Nat) (nbd nnw nsn nwn : Int32) (nli nal nlo nwi ntr nbg now_ : Nat → Nat) (nis nbo : Nat → Int32) (nsz : Nat → Nat) (nnu : Nat → Int64) (hPe : PeI gr ki ma) (hBk : BkI wk ce dr) (hBo : BoI br bp bt hd) (hLk : LkI cs co lk sz bb) (hRu : RuI ru) (hKp : KpI kp nkf kgr kwk kbr kcs klk ksz kz kru kki kma kbp kbt kbb khd kdr kco kce) (hTp : TpI ts tb bo) (hSh : ShI a shF sb sn sv nbo nsz nnu) (hCr : CrI gr wk br cs sz ki ma bp bt bb dr tot lat se sw sd cr th tw) (hRf : RfI gr wk cs sz ki ma hd bb dr nnw nsn nwn nli nal nlo nwi nac) (kd mn : Nat) (hkd : kd ≤ 7) (hmn : mn ≤ 99999) (hg : gr = 12) : PairP l g yX8_people cX8_people 4 (some .int) [.ref ((a 0)), .int (nI kd), .int (nI mn)] yX9_people cX9_people 3 (some .int) [.ref ((b 0)), .int (nI kd), .int (nI mn)] (xW g a gr wk br cs z ru ki ma bp bt co ce kgr kwk kbr kcs kz kru kki kma kbp kbt kco kce kp ts fi tb bo rn0 rc0 ra0 rft f0 tot lat se sw sd li th tw cr by_ va su mk sk wsm tk shF sb sn sv) (nW g b gr wk lk sz br z ru ki ma bb ce hd kp nkf ts fi tb nta nop npr nac nbd nnw nsn nwn nli nal nlo nwi ntr nbg now_ nis nbo nsz nnu) (Rel g a b) := by
  have hgr := hPe.1
  have hki := hPe.2.1
  have hma := hPe.2.2
  have hwk := hBk.1
  have hlat := core_lat hBk
  have hL := core_L hBk
  have hbr := hBo.1
  have hbp := hBo.2.1
  have hbt := hBo.2.2.1
  have hhd := hBo.2.2.2.2.2.2
  have hcs := hLk.1
  have hsz := hLk.2.1
  have hbb := hLk.2.2.1
  have hlk := lk_le hLk
  have hV : cs ≠ 0 → ∀ p, p < 495 → evR (nmI wk (laD wk dr) p) (cdF co 0 cs) [] = some [(txV bb sz wk (laD wk dr)) p] := fun q p _ => hLk.2.2.2.2 q wk (laD wk dr) p
  have hse := hCr.1
  have hsw := hCr.2
  have hsd := sdD_le cs bb sz wk (laD wk dr)
  have hsv : ∀ p, p < 495 → sdF cs (txV bb sz wk (laD wk dr)) p = if lk = 1 then clN (txV bb sz wk (laD wk dr) p) else 1 := fun p _ => lk_sd hLk _ _ p
  have hwo := hRf.1
  have hwc := hRf.2
  have htot := to_lt hPe hBo (laD wk dr) (sdF cs (txV bb sz wk (laD wk dr)))
  have e1 := cr_eq hBo gr ki ma (laD wk dr) (sdF cs (txV bb sz wk (laD wk dr)))
  have e2 := to_eq hBo gr ki ma (laD wk dr) (sdF cs (txV bb sz wk (laD wk dr)))
  have hts := hTp.1
  have htb := hTp.2.1
  have hbo := hTp.2.2
  refine ⟨.int (fndI 1), 10, 30, _, _, by decide, by decide, Or.inl ⟨rfl, _, rfl⟩, Ct.sub [0, 49, 1] rfl rfl ?_ (ct_people_f l g (a 0) (a 1) (a 9) (a 17) (a 24) (a 33) (a 36) (a 39) (a 40) (a 49) ts kp (a 2) (a 3) (a 4) (a 5) (a 6) (a 7) (a 8) gr br cs wk z fi kd mn (hkd) (hmn) (hg)), Ct.sub [0, 3, 1] rfl rfl ?_ (ct_npeople_f l g (b 0) (b 1) (b 2) (b 3) (b 4) (b 5) (b 6) (b 7) (b 8) (b 9) (b 10) (b 11) (b 12) (b 13) (b 14) (b 15) (b 16) (b 17) (b 18) (b 19) ts nta nop npr nac kp nbd 0 nnw nsn nwn fi kd mn gr wk lk sz br z ru ki ma bb hd ce (hkd) (hmn) (hg)), ?_⟩
  · rintro v w ⟨rfl, rfl⟩; rfl
  · rintro v w ⟨rfl, rfl⟩; rfl
  · rintro v1 w1 v2 w2 ⟨wq1, ⟨rfl, rfl⟩, rfl⟩ ⟨wq2, ⟨rfl, rfl⟩, rfl⟩
    refine ⟨rfl, rfl, rel_mk g a b gr wk br cs lk sz z ru ki ma bp bt bb hd dr co ce kgr kwk kbr kcs klk ksz kz kru kki kma kbp kbt kbb khd kdr kco kce kp nkf ts (updN fi 1 (fi 1 + 1)) tb bo rn0 rc0 ra0 rft f0 tot lat se sw sd li th tw cr by_ va su mk sk wsm tk shF sb sn sv nta nop npr nac nbd nnw nsn nwn nli nal nlo nwi ntr nbg now_ nis nbo nsz nnu ?_ ?_ hPe hBk hBo hLk hRu hKp hTp hSh hCr hRf⟩
    · simp only [e1, e2, xW, nW, xSet, List.set_cons_zero, List.set_cons_succ]
    · simp only [xW, nW, xSet, List.set_cons_zero, List.set_cons_succ]

set_option maxRecDepth 100000 in
set_option maxHeartbeats 4000000 in
theorem pr_people_o (l : Launch) (g : XG) (a b : Nat → Nat) (gr wk br cs lk sz : Nat) (z : Int32) (ru ki ma bp bt bb hd dr : Nat → Nat) (co ce : Nat → Int32) (kgr kwk kbr kcs klk ksz : Nat) (kz : Int32) (kru kki kma kbp kbt kbb khd kdr : Nat → Nat) (kco kce : Nat → Int32) (kp : Int32) (nkf : Nat → Int32) (ts : Nat) (fi tb bo : Nat → Nat) (rn0 rc0 ra0 : Nat) (rft : Int32) (f0 : Nat → Int32) (tot lat : Nat) (se sw : Int32) (sd li th tw cr by_ : Nat → Nat) (va su : Nat → Int64) (mk : Nat → Nat) (sk : Nat → Int32) (wsm : Nat → Int64) (tk : Nat → Nat) (shF : Nat → Option Nat) (sb sn : Nat → Nat) (sv : Nat → Nat → Int64) (nta nop npr nac : Nat) (nbd nnw nsn nwn : Int32) (nli nal nlo nwi ntr nbg now_ : Nat → Nat) (nis nbo : Nat → Int32) (nsz : Nat → Nat) (nnu : Nat → Int64) (hPe : PeI gr ki ma) (hBk : BkI wk ce dr) (hBo : BoI br bp bt hd) (hLk : LkI cs co lk sz bb) (hRu : RuI ru) (hKp : KpI kp nkf kgr kwk kbr kcs klk ksz kz kru kki kma kbp kbt kbb khd kdr kco kce) (hTp : TpI ts tb bo) (hSh : ShI a shF sb sn sv nbo nsz nnu) (hCr : CrI gr wk br cs sz ki ma bp bt bb dr tot lat se sw sd cr th tw) (hRf : RfI gr wk cs sz ki ma hd bb dr nnw nsn nwn nli nal nlo nwi nac) (kd mn : Nat) (hkd : kd ≤ 7) (hmn : mn ≤ 99999) (hg : gr < 12) : PairP l g yX8_people cX8_people 4 (some .int) [.ref ((a 0)), .int (nI kd), .int (nI mn)] yX9_people cX9_people 3 (some .int) [.ref ((b 0)), .int (nI kd), .int (nI mn)] (xW g a gr wk br cs z ru ki ma bp bt co ce kgr kwk kbr kcs kz kru kki kma kbp kbt kco kce kp ts fi tb bo rn0 rc0 ra0 rft f0 tot lat se sw sd li th tw cr by_ va su mk sk wsm tk shF sb sn sv) (nW g b gr wk lk sz br z ru ki ma bb ce hd kp nkf ts fi tb nta nop npr nac nbd nnw nsn nwn nli nal nlo nwi ntr nbg now_ nis nbo nsz nnu) (Rel g a b) := by
  have hgr := hPe.1
  have hki := hPe.2.1
  have hma := hPe.2.2
  have hwk := hBk.1
  have hlat := core_lat hBk
  have hL := core_L hBk
  have hbr := hBo.1
  have hbp := hBo.2.1
  have hbt := hBo.2.2.1
  have hhd := hBo.2.2.2.2.2.2
  have hcs := hLk.1
  have hsz := hLk.2.1
  have hbb := hLk.2.2.1
  have hlk := lk_le hLk
  have hV : cs ≠ 0 → ∀ p, p < 495 → evR (nmI wk (laD wk dr) p) (cdF co 0 cs) [] = some [(txV bb sz wk (laD wk dr)) p] := fun q p _ => hLk.2.2.2.2 q wk (laD wk dr) p
  have hse := hCr.1
  have hsw := hCr.2
  have hsd := sdD_le cs bb sz wk (laD wk dr)
  have hsv : ∀ p, p < 495 → sdF cs (txV bb sz wk (laD wk dr)) p = if lk = 1 then clN (txV bb sz wk (laD wk dr) p) else 1 := fun p _ => lk_sd hLk _ _ p
  have hwo := hRf.1
  have hwc := hRf.2
  have htot := to_lt hPe hBo (laD wk dr) (sdF cs (txV bb sz wk (laD wk dr)))
  have e1 := cr_eq hBo gr ki ma (laD wk dr) (sdF cs (txV bb sz wk (laD wk dr)))
  have e2 := to_eq hBo gr ki ma (laD wk dr) (sdF cs (txV bb sz wk (laD wk dr)))
  have hts := hTp.1
  have htb := hTp.2.1
  have hbo := hTp.2.2
  refine ⟨.int (nI gr), 10, 30, _, _, by decide, by decide, Or.inl ⟨rfl, _, rfl⟩, Ct.sub [0, 49, 1, 24, 2, 3] rfl rfl ?_ (ct_people_o l g (a 0) (a 1) (a 9) (a 17) (a 24) (a 33) (a 36) (a 39) (a 40) (a 49) ts kp (a 2) (a 3) (a 4) (a 5) (a 6) (a 7) (a 8) gr br cs wk z fi (a 31) (a 20) (a 25) (a 26) (a 27) (a 28) (a 29) (a 30) tot lat se sw ki ma kd mn (hkd) (hmn) (hg)), Ct.sub [0, 3, 1] rfl rfl ?_ (ct_npeople_o l g (b 0) (b 1) (b 2) (b 3) (b 4) (b 5) (b 6) (b 7) (b 8) (b 9) (b 10) (b 11) (b 12) (b 13) (b 14) (b 15) (b 16) (b 17) (b 18) (b 19) ts nta nop npr nac kp nbd 0 nnw nsn nwn fi kd mn gr wk lk sz br z ru ki ma bb hd ce (hkd) (hmn) (hg)), ?_⟩
  · rintro v w ⟨rfl, rfl⟩; rfl
  · rintro v w ⟨rfl, rfl⟩; rfl
  · rintro v1 w1 v2 w2 ⟨wq1, ⟨rfl, rfl⟩, rfl⟩ ⟨wq2, ⟨rfl, rfl⟩, rfl⟩
    refine ⟨rfl, rfl, rel_mk g a b (gr + 1) wk br cs lk sz z ru (updN ki gr kd) (updN ma gr mn) bp bt bb hd dr co ce kgr kwk kbr kcs klk ksz kz kru kki kma kbp kbt kbb khd kdr kco kce kp nkf ts fi tb bo rn0 rc0 ra0 rft f0 tot lat 0 0 sd li th tw cr by_ va su mk sk wsm tk shF sb sn sv nta nop npr nac nbd 1 nsn nwn nli nal nlo nwi ntr nbg now_ nis nbo nsz nnu ?_ ?_ (⟨by omega, upd_all hki hkd, upd_all hma hmn⟩) hBk hBo hLk hRu hKp hTp hSh ⟨Or.inl rfl, Or.inl rfl⟩ ⟨Or.inl ⟨rfl, rf_said hRf⟩, Or.inl (wnI_1 _)⟩⟩
    · simp only [e1, e2, xW, nW, xSet, List.set_cons_zero, List.set_cons_succ]
    · simp only [xW, nW, xSet, List.set_cons_zero, List.set_cons_succ]

set_option maxRecDepth 100000 in
set_option maxHeartbeats 4000000 in
theorem pr_of_b (l : Launch) (g : XG) (a b : Nat → Nat) (gr wk br cs lk sz : Nat) (z : Int32) (ru ki ma bp bt bb hd dr : Nat → Nat) (co ce : Nat → Int32) (kgr kwk kbr kcs klk ksz : Nat) (kz : Int32) (kru kki kma kbp kbt kbb khd kdr : Nat → Nat) (kco kce : Nat → Int32) (kp : Int32) (nkf : Nat → Int32) (ts : Nat) (fi tb bo : Nat → Nat) (rn0 rc0 ra0 : Nat) (rft : Int32) (f0 : Nat → Int32) (tot lat : Nat) (se sw : Int32) (sd li th tw cr by_ : Nat → Nat) (va su : Nat → Int64) (mk : Nat → Nat) (sk : Nat → Int32) (wsm : Nat → Int64) (tk : Nat → Nat) (shF : Nat → Option Nat) (sb sn : Nat → Nat) (sv : Nat → Nat → Int64) (nta nop npr nac : Nat) (nbd nnw nsn nwn : Int32) (nli nal nlo nwi ntr nbg now_ : Nat → Nat) (nis nbo : Nat → Int32) (nsz : Nat → Nat) (nnu : Nat → Int64) (hPe : PeI gr ki ma) (hBk : BkI wk ce dr) (hBo : BoI br bp bt hd) (hLk : LkI cs co lk sz bb) (hRu : RuI ru) (hKp : KpI kp nkf kgr kwk kbr kcs klk ksz kz kru kki kma kbp kbt kbb khd kdr kco kce) (hTp : TpI ts tb bo) (hSh : ShI a shF sb sn sv nbo nsz nnu) (hCr : CrI gr wk br cs sz ki ma bp bt bb dr tot lat se sw sd cr th tw) (hRf : RfI gr wk cs sz ki ma hd bb dr nnw nsn nwn nli nal nlo nwi nac) (pp wh : Int32) (hb : wI pp 0 (nI gr - 1) = 0 ∨ wI wh 0 1 = 0) : PairP l g yX8_of cX8_of 3 (some .int) [.ref ((a 0)), .int pp, .int wh] yX9_of cX9_of 3 (some .int) [.ref ((b 0)), .int pp, .int wh] (xW g a gr wk br cs z ru ki ma bp bt co ce kgr kwk kbr kcs kz kru kki kma kbp kbt kco kce kp ts fi tb bo rn0 rc0 ra0 rft f0 tot lat se sw sd li th tw cr by_ va su mk sk wsm tk shF sb sn sv) (nW g b gr wk lk sz br z ru ki ma bb ce hd kp nkf ts fi tb nta nop npr nac nbd nnw nsn nwn nli nal nlo nwi ntr nbg now_ nis nbo nsz nnu) (Rel g a b) := by
  have hgr := hPe.1
  have hki := hPe.2.1
  have hma := hPe.2.2
  have hwk := hBk.1
  have hlat := core_lat hBk
  have hL := core_L hBk
  have hbr := hBo.1
  have hbp := hBo.2.1
  have hbt := hBo.2.2.1
  have hhd := hBo.2.2.2.2.2.2
  have hcs := hLk.1
  have hsz := hLk.2.1
  have hbb := hLk.2.2.1
  have hlk := lk_le hLk
  have hV : cs ≠ 0 → ∀ p, p < 495 → evR (nmI wk (laD wk dr) p) (cdF co 0 cs) [] = some [(txV bb sz wk (laD wk dr)) p] := fun q p _ => hLk.2.2.2.2 q wk (laD wk dr) p
  have hse := hCr.1
  have hsw := hCr.2
  have hsd := sdD_le cs bb sz wk (laD wk dr)
  have hsv : ∀ p, p < 495 → sdF cs (txV bb sz wk (laD wk dr)) p = if lk = 1 then clN (txV bb sz wk (laD wk dr) p) else 1 := fun p _ => lk_sd hLk _ _ p
  have hwo := hRf.1
  have hwc := hRf.2
  have htot := to_lt hPe hBo (laD wk dr) (sdF cs (txV bb sz wk (laD wk dr)))
  have e1 := cr_eq hBo gr ki ma (laD wk dr) (sdF cs (txV bb sz wk (laD wk dr)))
  have e2 := to_eq hBo gr ki ma (laD wk dr) (sdF cs (txV bb sz wk (laD wk dr)))
  have hts := hTp.1
  have htb := hTp.2.1
  have hbo := hTp.2.2
  refine ⟨.int (fndI 0), 10, 30, _, _, by decide, by decide, Or.inl ⟨rfl, _, rfl⟩, Ct.sub [0, 49, 1] rfl rfl ?_ (ct_of_b l g (a 0) (a 1) (a 9) (a 17) (a 24) (a 33) (a 36) (a 39) (a 40) (a 49) ts kp (a 2) (a 3) (a 4) (a 5) (a 6) (a 7) (a 8) gr br cs wk z fi pp wh (hb)), Ct.sub [0, 3, 1] rfl rfl ?_ (ct_nof_b l g (b 0) (b 1) (b 2) (b 3) (b 4) (b 5) (b 6) (b 7) (b 8) (b 9) (b 10) (b 11) (b 12) (b 13) (b 14) (b 15) (b 16) (b 17) (b 18) (b 19) ts nta nop npr nac kp nbd 0 nnw nsn nwn fi pp wh gr wk lk sz br z ru ki ma bb hd ce (hgr) (hb)), ?_⟩
  · rintro v w ⟨rfl, rfl⟩; rfl
  · rintro v w ⟨rfl, rfl⟩; rfl
  · rintro v1 w1 v2 w2 ⟨wq1, ⟨rfl, rfl⟩, rfl⟩ ⟨wq2, ⟨rfl, rfl⟩, rfl⟩
    refine ⟨rfl, rfl, rel_mk g a b gr wk br cs lk sz z ru ki ma bp bt bb hd dr co ce kgr kwk kbr kcs klk ksz kz kru kki kma kbp kbt kbb khd kdr kco kce kp nkf ts (updN fi 0 (fi 0 + 1)) tb bo rn0 rc0 ra0 rft f0 tot lat se sw sd li th tw cr by_ va su mk sk wsm tk shF sb sn sv nta nop npr nac nbd nnw nsn nwn nli nal nlo nwi ntr nbg now_ nis nbo nsz nnu ?_ ?_ hPe hBk hBo hLk hRu hKp hTp hSh hCr hRf⟩
    · simp only [e1, e2, xW, nW, xSet, List.set_cons_zero, List.set_cons_succ]
    · simp only [xW, nW, xSet, List.set_cons_zero, List.set_cons_succ]

set_option maxRecDepth 100000 in
set_option maxHeartbeats 4000000 in
theorem pr_of_0 (l : Launch) (g : XG) (a b : Nat → Nat) (gr wk br cs lk sz : Nat) (z : Int32) (ru ki ma bp bt bb hd dr : Nat → Nat) (co ce : Nat → Int32) (kgr kwk kbr kcs klk ksz : Nat) (kz : Int32) (kru kki kma kbp kbt kbb khd kdr : Nat → Nat) (kco kce : Nat → Int32) (kp : Int32) (nkf : Nat → Int32) (ts : Nat) (fi tb bo : Nat → Nat) (rn0 rc0 ra0 : Nat) (rft : Int32) (f0 : Nat → Int32) (tot lat : Nat) (se sw : Int32) (sd li th tw cr by_ : Nat → Nat) (va su : Nat → Int64) (mk : Nat → Nat) (sk : Nat → Int32) (wsm : Nat → Int64) (tk : Nat → Nat) (shF : Nat → Option Nat) (sb sn : Nat → Nat) (sv : Nat → Nat → Int64) (nta nop npr nac : Nat) (nbd nnw nsn nwn : Int32) (nli nal nlo nwi ntr nbg now_ : Nat → Nat) (nis nbo : Nat → Int32) (nsz : Nat → Nat) (nnu : Nat → Int64) (hPe : PeI gr ki ma) (hBk : BkI wk ce dr) (hBo : BoI br bp bt hd) (hLk : LkI cs co lk sz bb) (hRu : RuI ru) (hKp : KpI kp nkf kgr kwk kbr kcs klk ksz kz kru kki kma kbp kbt kbb khd kdr kco kce) (hTp : TpI ts tb bo) (hSh : ShI a shF sb sn sv nbo nsz nnu) (hCr : CrI gr wk br cs sz ki ma bp bt bb dr tot lat se sw sd cr th tw) (hRf : RfI gr wk cs sz ki ma hd bb dr nnw nsn nwn nli nal nlo nwi nac) (q : Nat) (hq : q < gr ∧ gr ≤ 12) : PairP l g yX8_of cX8_of 3 (some .int) [.ref ((a 0)), .int (nI q), .int 0] yX9_of cX9_of 3 (some .int) [.ref ((b 0)), .int (nI q), .int 0] (xW g a gr wk br cs z ru ki ma bp bt co ce kgr kwk kbr kcs kz kru kki kma kbp kbt kco kce kp ts fi tb bo rn0 rc0 ra0 rft f0 tot lat se sw sd li th tw cr by_ va su mk sk wsm tk shF sb sn sv) (nW g b gr wk lk sz br z ru ki ma bb ce hd kp nkf ts fi tb nta nop npr nac nbd nnw nsn nwn nli nal nlo nwi ntr nbg now_ nis nbo nsz nnu) (Rel g a b) := by
  have hgr := hPe.1
  have hki := hPe.2.1
  have hma := hPe.2.2
  have hwk := hBk.1
  have hlat := core_lat hBk
  have hL := core_L hBk
  have hbr := hBo.1
  have hbp := hBo.2.1
  have hbt := hBo.2.2.1
  have hhd := hBo.2.2.2.2.2.2
  have hcs := hLk.1
  have hsz := hLk.2.1
  have hbb := hLk.2.2.1
  have hlk := lk_le hLk
  have hV : cs ≠ 0 → ∀ p, p < 495 → evR (nmI wk (laD wk dr) p) (cdF co 0 cs) [] = some [(txV bb sz wk (laD wk dr)) p] := fun q p _ => hLk.2.2.2.2 q wk (laD wk dr) p
  have hse := hCr.1
  have hsw := hCr.2
  have hsd := sdD_le cs bb sz wk (laD wk dr)
  have hsv : ∀ p, p < 495 → sdF cs (txV bb sz wk (laD wk dr)) p = if lk = 1 then clN (txV bb sz wk (laD wk dr) p) else 1 := fun p _ => lk_sd hLk _ _ p
  have hwo := hRf.1
  have hwc := hRf.2
  have htot := to_lt hPe hBo (laD wk dr) (sdF cs (txV bb sz wk (laD wk dr)))
  have e1 := cr_eq hBo gr ki ma (laD wk dr) (sdF cs (txV bb sz wk (laD wk dr)))
  have e2 := to_eq hBo gr ki ma (laD wk dr) (sdF cs (txV bb sz wk (laD wk dr)))
  have hts := hTp.1
  have htb := hTp.2.1
  have hbo := hTp.2.2
  refine ⟨.int (nI (ki q)), 10, 30, _, _, by decide, by decide, Or.inl ⟨rfl, _, rfl⟩, Ct.sub [0, 49, 1, 2, 3] rfl rfl ?_ (ct_of_0 l g (a 0) (a 1) (a 9) (a 17) (a 24) (a 33) (a 36) (a 39) (a 40) (a 49) ts kp (a 2) (a 3) (a 4) (a 5) (a 6) (a 7) (a 8) gr br cs wk z fi ki ma q (hq)), Ct.sub [0, 3, 1] rfl rfl ?_ (ct_nof_0 l g (b 0) (b 1) (b 2) (b 3) (b 4) (b 5) (b 6) (b 7) (b 8) (b 9) (b 10) (b 11) (b 12) (b 13) (b 14) (b 15) (b 16) (b 17) (b 18) (b 19) ts nta nop npr nac kp nbd 0 nnw nsn nwn fi gr wk lk sz br z ru ki ma bb hd ce q (hq)), ?_⟩
  · rintro v w ⟨rfl, rfl⟩; rfl
  · rintro v w ⟨rfl, rfl⟩; rfl
  · rintro v1 w1 v2 w2 ⟨wq1, ⟨rfl, rfl⟩, rfl⟩ ⟨wq2, ⟨rfl, rfl⟩, rfl⟩
    refine ⟨rfl, rfl, rel_mk g a b gr wk br cs lk sz z ru ki ma bp bt bb hd dr co ce kgr kwk kbr kcs klk ksz kz kru kki kma kbp kbt kbb khd kdr kco kce kp nkf ts fi tb bo rn0 rc0 ra0 rft f0 tot lat se sw sd li th tw cr by_ va su mk sk wsm tk shF sb sn sv nta nop npr nac nbd nnw nsn nwn nli nal nlo nwi ntr nbg now_ nis nbo nsz nnu ?_ ?_ hPe hBk hBo hLk hRu hKp hTp hSh hCr hRf⟩
    · simp only [e1, e2, xW, nW, xSet, List.set_cons_zero, List.set_cons_succ]
    · simp only [xW, nW, xSet, List.set_cons_zero, List.set_cons_succ]

set_option maxRecDepth 100000 in
set_option maxHeartbeats 4000000 in
theorem pr_of_1 (l : Launch) (g : XG) (a b : Nat → Nat) (gr wk br cs lk sz : Nat) (z : Int32) (ru ki ma bp bt bb hd dr : Nat → Nat) (co ce : Nat → Int32) (kgr kwk kbr kcs klk ksz : Nat) (kz : Int32) (kru kki kma kbp kbt kbb khd kdr : Nat → Nat) (kco kce : Nat → Int32) (kp : Int32) (nkf : Nat → Int32) (ts : Nat) (fi tb bo : Nat → Nat) (rn0 rc0 ra0 : Nat) (rft : Int32) (f0 : Nat → Int32) (tot lat : Nat) (se sw : Int32) (sd li th tw cr by_ : Nat → Nat) (va su : Nat → Int64) (mk : Nat → Nat) (sk : Nat → Int32) (wsm : Nat → Int64) (tk : Nat → Nat) (shF : Nat → Option Nat) (sb sn : Nat → Nat) (sv : Nat → Nat → Int64) (nta nop npr nac : Nat) (nbd nnw nsn nwn : Int32) (nli nal nlo nwi ntr nbg now_ : Nat → Nat) (nis nbo : Nat → Int32) (nsz : Nat → Nat) (nnu : Nat → Int64) (hPe : PeI gr ki ma) (hBk : BkI wk ce dr) (hBo : BoI br bp bt hd) (hLk : LkI cs co lk sz bb) (hRu : RuI ru) (hKp : KpI kp nkf kgr kwk kbr kcs klk ksz kz kru kki kma kbp kbt kbb khd kdr kco kce) (hTp : TpI ts tb bo) (hSh : ShI a shF sb sn sv nbo nsz nnu) (hCr : CrI gr wk br cs sz ki ma bp bt bb dr tot lat se sw sd cr th tw) (hRf : RfI gr wk cs sz ki ma hd bb dr nnw nsn nwn nli nal nlo nwi nac) (q : Nat) (hq : q < gr ∧ gr ≤ 12) : PairP l g yX8_of cX8_of 3 (some .int) [.ref ((a 0)), .int (nI q), .int 1] yX9_of cX9_of 3 (some .int) [.ref ((b 0)), .int (nI q), .int 1] (xW g a gr wk br cs z ru ki ma bp bt co ce kgr kwk kbr kcs kz kru kki kma kbp kbt kco kce kp ts fi tb bo rn0 rc0 ra0 rft f0 tot lat se sw sd li th tw cr by_ va su mk sk wsm tk shF sb sn sv) (nW g b gr wk lk sz br z ru ki ma bb ce hd kp nkf ts fi tb nta nop npr nac nbd nnw nsn nwn nli nal nlo nwi ntr nbg now_ nis nbo nsz nnu) (Rel g a b) := by
  have hgr := hPe.1
  have hki := hPe.2.1
  have hma := hPe.2.2
  have hwk := hBk.1
  have hlat := core_lat hBk
  have hL := core_L hBk
  have hbr := hBo.1
  have hbp := hBo.2.1
  have hbt := hBo.2.2.1
  have hhd := hBo.2.2.2.2.2.2
  have hcs := hLk.1
  have hsz := hLk.2.1
  have hbb := hLk.2.2.1
  have hlk := lk_le hLk
  have hV : cs ≠ 0 → ∀ p, p < 495 → evR (nmI wk (laD wk dr) p) (cdF co 0 cs) [] = some [(txV bb sz wk (laD wk dr)) p] := fun q p _ => hLk.2.2.2.2 q wk (laD wk dr) p
  have hse := hCr.1
  have hsw := hCr.2
  have hsd := sdD_le cs bb sz wk (laD wk dr)
  have hsv : ∀ p, p < 495 → sdF cs (txV bb sz wk (laD wk dr)) p = if lk = 1 then clN (txV bb sz wk (laD wk dr) p) else 1 := fun p _ => lk_sd hLk _ _ p
  have hwo := hRf.1
  have hwc := hRf.2
  have htot := to_lt hPe hBo (laD wk dr) (sdF cs (txV bb sz wk (laD wk dr)))
  have e1 := cr_eq hBo gr ki ma (laD wk dr) (sdF cs (txV bb sz wk (laD wk dr)))
  have e2 := to_eq hBo gr ki ma (laD wk dr) (sdF cs (txV bb sz wk (laD wk dr)))
  have hts := hTp.1
  have htb := hTp.2.1
  have hbo := hTp.2.2
  refine ⟨.int (nI (ma q)), 10, 30, _, _, by decide, by decide, Or.inl ⟨rfl, _, rfl⟩, Ct.sub [0, 49, 1, 2, 3] rfl rfl ?_ (ct_of_1 l g (a 0) (a 1) (a 9) (a 17) (a 24) (a 33) (a 36) (a 39) (a 40) (a 49) ts kp (a 2) (a 3) (a 4) (a 5) (a 6) (a 7) (a 8) gr br cs wk z fi ki ma q (hq)), Ct.sub [0, 3, 1] rfl rfl ?_ (ct_nof_1 l g (b 0) (b 1) (b 2) (b 3) (b 4) (b 5) (b 6) (b 7) (b 8) (b 9) (b 10) (b 11) (b 12) (b 13) (b 14) (b 15) (b 16) (b 17) (b 18) (b 19) ts nta nop npr nac kp nbd 0 nnw nsn nwn fi gr wk lk sz br z ru ki ma bb hd ce q (hq)), ?_⟩
  · rintro v w ⟨rfl, rfl⟩; rfl
  · rintro v w ⟨rfl, rfl⟩; rfl
  · rintro v1 w1 v2 w2 ⟨wq1, ⟨rfl, rfl⟩, rfl⟩ ⟨wq2, ⟨rfl, rfl⟩, rfl⟩
    refine ⟨rfl, rfl, rel_mk g a b gr wk br cs lk sz z ru ki ma bp bt bb hd dr co ce kgr kwk kbr kcs klk ksz kz kru kki kma kbp kbt kbb khd kdr kco kce kp nkf ts fi tb bo rn0 rc0 ra0 rft f0 tot lat se sw sd li th tw cr by_ va su mk sk wsm tk shF sb sn sv nta nop npr nac nbd nnw nsn nwn nli nal nlo nwi ntr nbg now_ nis nbo nsz nnu ?_ ?_ hPe hBk hBo hLk hRu hKp hTp hSh hCr hRf⟩
    · simp only [e1, e2, xW, nW, xSet, List.set_cons_zero, List.set_cons_succ]
    · simp only [xW, nW, xSet, List.set_cons_zero, List.set_cons_succ]

set_option maxRecDepth 100000 in
set_option maxHeartbeats 4000000 in
theorem pr_many_b (l : Launch) (g : XG) (a b : Nat → Nat) (gr wk br cs lk sz : Nat) (z : Int32) (ru ki ma bp bt bb hd dr : Nat → Nat) (co ce : Nat → Int32) (kgr kwk kbr kcs klk ksz : Nat) (kz : Int32) (kru kki kma kbp kbt kbb khd kdr : Nat → Nat) (kco kce : Nat → Int32) (kp : Int32) (nkf : Nat → Int32) (ts : Nat) (fi tb bo : Nat → Nat) (rn0 rc0 ra0 : Nat) (rft : Int32) (f0 : Nat → Int32) (tot lat : Nat) (se sw : Int32) (sd li th tw cr by_ : Nat → Nat) (va su : Nat → Int64) (mk : Nat → Nat) (sk : Nat → Int32) (wsm : Nat → Int64) (tk : Nat → Nat) (shF : Nat → Option Nat) (sb sn : Nat → Nat) (sv : Nat → Nat → Int64) (nta nop npr nac : Nat) (nbd nnw nsn nwn : Int32) (nli nal nlo nwi ntr nbg now_ : Nat → Nat) (nis nbo : Nat → Int32) (nsz : Nat → Nat) (nnu : Nat → Int64) (hPe : PeI gr ki ma) (hBk : BkI wk ce dr) (hBo : BoI br bp bt hd) (hLk : LkI cs co lk sz bb) (hRu : RuI ru) (hKp : KpI kp nkf kgr kwk kbr kcs klk ksz kz kru kki kma kbp kbt kbb khd kdr kco kce) (hTp : TpI ts tb bo) (hSh : ShI a shF sb sn sv nbo nsz nnu) (hCr : CrI gr wk br cs sz ki ma bp bt bb dr tot lat se sw sd cr th tw) (hRf : RfI gr wk cs sz ki ma hd bb dr nnw nsn nwn nli nal nlo nwi nac) (pp v : Int32) (hb : wI pp 0 (nI gr - 1) = 0 ∨ wI v 0 99999 = 0) : PairP l g yX8_many cX8_many 4 (some .int) [.ref ((a 0)), .int pp, .int v] yX9_many cX9_many 4 (some .int) [.ref ((b 0)), .int pp, .int v] (xW g a gr wk br cs z ru ki ma bp bt co ce kgr kwk kbr kcs kz kru kki kma kbp kbt kco kce kp ts fi tb bo rn0 rc0 ra0 rft f0 tot lat se sw sd li th tw cr by_ va su mk sk wsm tk shF sb sn sv) (nW g b gr wk lk sz br z ru ki ma bb ce hd kp nkf ts fi tb nta nop npr nac nbd nnw nsn nwn nli nal nlo nwi ntr nbg now_ nis nbo nsz nnu) (Rel g a b) := by
  have hgr := hPe.1
  have hki := hPe.2.1
  have hma := hPe.2.2
  have hwk := hBk.1
  have hlat := core_lat hBk
  have hL := core_L hBk
  have hbr := hBo.1
  have hbp := hBo.2.1
  have hbt := hBo.2.2.1
  have hhd := hBo.2.2.2.2.2.2
  have hcs := hLk.1
  have hsz := hLk.2.1
  have hbb := hLk.2.2.1
  have hlk := lk_le hLk
  have hV : cs ≠ 0 → ∀ p, p < 495 → evR (nmI wk (laD wk dr) p) (cdF co 0 cs) [] = some [(txV bb sz wk (laD wk dr)) p] := fun q p _ => hLk.2.2.2.2 q wk (laD wk dr) p
  have hse := hCr.1
  have hsw := hCr.2
  have hsd := sdD_le cs bb sz wk (laD wk dr)
  have hsv : ∀ p, p < 495 → sdF cs (txV bb sz wk (laD wk dr)) p = if lk = 1 then clN (txV bb sz wk (laD wk dr) p) else 1 := fun p _ => lk_sd hLk _ _ p
  have hwo := hRf.1
  have hwc := hRf.2
  have htot := to_lt hPe hBo (laD wk dr) (sdF cs (txV bb sz wk (laD wk dr)))
  have e1 := cr_eq hBo gr ki ma (laD wk dr) (sdF cs (txV bb sz wk (laD wk dr)))
  have e2 := to_eq hBo gr ki ma (laD wk dr) (sdF cs (txV bb sz wk (laD wk dr)))
  have hts := hTp.1
  have htb := hTp.2.1
  have hbo := hTp.2.2
  refine ⟨.int (fndI 0), 10, 30, _, _, by decide, by decide, Or.inl ⟨rfl, _, rfl⟩, Ct.sub [0, 49, 1] rfl rfl ?_ (ct_many_b l g (a 0) (a 1) (a 9) (a 17) (a 24) (a 33) (a 36) (a 39) (a 40) (a 49) ts kp (a 2) (a 3) (a 4) (a 5) (a 6) (a 7) (a 8) gr br cs wk z fi pp v (hb)), Ct.sub [0, 3, 1] rfl rfl ?_ (ct_nmany_b l g (b 0) (b 1) (b 2) (b 3) (b 4) (b 5) (b 6) (b 7) (b 8) (b 9) (b 10) (b 11) (b 12) (b 13) (b 14) (b 15) (b 16) (b 17) (b 18) (b 19) ts nta nop npr nac kp nbd 0 nnw nsn nwn fi pp v gr wk lk sz br z ru ki ma bb hd ce (hgr) (hb)), ?_⟩
  · rintro v w ⟨rfl, rfl⟩; rfl
  · rintro v w ⟨rfl, rfl⟩; rfl
  · rintro v1 w1 v2 w2 ⟨wq1, ⟨rfl, rfl⟩, rfl⟩ ⟨wq2, ⟨rfl, rfl⟩, rfl⟩
    refine ⟨rfl, rfl, rel_mk g a b gr wk br cs lk sz z ru ki ma bp bt bb hd dr co ce kgr kwk kbr kcs klk ksz kz kru kki kma kbp kbt kbb khd kdr kco kce kp nkf ts (updN fi 0 (fi 0 + 1)) tb bo rn0 rc0 ra0 rft f0 tot lat se sw sd li th tw cr by_ va su mk sk wsm tk shF sb sn sv nta nop npr nac nbd nnw nsn nwn nli nal nlo nwi ntr nbg now_ nis nbo nsz nnu ?_ ?_ hPe hBk hBo hLk hRu hKp hTp hSh hCr hRf⟩
    · simp only [e1, e2, xW, nW, xSet, List.set_cons_zero, List.set_cons_succ]
    · simp only [xW, nW, xSet, List.set_cons_zero, List.set_cons_succ]

set_option maxRecDepth 100000 in
set_option maxHeartbeats 4000000 in
theorem pr_many_o (l : Launch) (g : XG) (a b : Nat → Nat) (gr wk br cs lk sz : Nat) (z : Int32) (ru ki ma bp bt bb hd dr : Nat → Nat) (co ce : Nat → Int32) (kgr kwk kbr kcs klk ksz : Nat) (kz : Int32) (kru kki kma kbp kbt kbb khd kdr : Nat → Nat) (kco kce : Nat → Int32) (kp : Int32) (nkf : Nat → Int32) (ts : Nat) (fi tb bo : Nat → Nat) (rn0 rc0 ra0 : Nat) (rft : Int32) (f0 : Nat → Int32) (tot lat : Nat) (se sw : Int32) (sd li th tw cr by_ : Nat → Nat) (va su : Nat → Int64) (mk : Nat → Nat) (sk : Nat → Int32) (wsm : Nat → Int64) (tk : Nat → Nat) (shF : Nat → Option Nat) (sb sn : Nat → Nat) (sv : Nat → Nat → Int64) (nta nop npr nac : Nat) (nbd nnw nsn nwn : Int32) (nli nal nlo nwi ntr nbg now_ : Nat → Nat) (nis nbo : Nat → Int32) (nsz : Nat → Nat) (nnu : Nat → Int64) (hPe : PeI gr ki ma) (hBk : BkI wk ce dr) (hBo : BoI br bp bt hd) (hLk : LkI cs co lk sz bb) (hRu : RuI ru) (hKp : KpI kp nkf kgr kwk kbr kcs klk ksz kz kru kki kma kbp kbt kbb khd kdr kco kce) (hTp : TpI ts tb bo) (hSh : ShI a shF sb sn sv nbo nsz nnu) (hCr : CrI gr wk br cs sz ki ma bp bt bb dr tot lat se sw sd cr th tw) (hRf : RfI gr wk cs sz ki ma hd bb dr nnw nsn nwn nli nal nlo nwi nac) (q mn : Nat) (hq : q < gr ∧ gr ≤ 12) (hmn : mn ≤ 99999) : PairP l g yX8_many cX8_many 4 (some .int) [.ref ((a 0)), .int (nI q), .int (nI mn)] yX9_many cX9_many 4 (some .int) [.ref ((b 0)), .int (nI q), .int (nI mn)] (xW g a gr wk br cs z ru ki ma bp bt co ce kgr kwk kbr kcs kz kru kki kma kbp kbt kco kce kp ts fi tb bo rn0 rc0 ra0 rft f0 tot lat se sw sd li th tw cr by_ va su mk sk wsm tk shF sb sn sv) (nW g b gr wk lk sz br z ru ki ma bb ce hd kp nkf ts fi tb nta nop npr nac nbd nnw nsn nwn nli nal nlo nwi ntr nbg now_ nis nbo nsz nnu) (Rel g a b) := by
  have hgr := hPe.1
  have hki := hPe.2.1
  have hma := hPe.2.2
  have hwk := hBk.1
  have hlat := core_lat hBk
  have hL := core_L hBk
  have hbr := hBo.1
  have hbp := hBo.2.1
  have hbt := hBo.2.2.1
  have hhd := hBo.2.2.2.2.2.2
  have hcs := hLk.1
  have hsz := hLk.2.1
  have hbb := hLk.2.2.1
  have hlk := lk_le hLk
  have hV : cs ≠ 0 → ∀ p, p < 495 → evR (nmI wk (laD wk dr) p) (cdF co 0 cs) [] = some [(txV bb sz wk (laD wk dr)) p] := fun q p _ => hLk.2.2.2.2 q wk (laD wk dr) p
  have hse := hCr.1
  have hsw := hCr.2
  have hsd := sdD_le cs bb sz wk (laD wk dr)
  have hsv : ∀ p, p < 495 → sdF cs (txV bb sz wk (laD wk dr)) p = if lk = 1 then clN (txV bb sz wk (laD wk dr) p) else 1 := fun p _ => lk_sd hLk _ _ p
  have hwo := hRf.1
  have hwc := hRf.2
  have htot := to_lt hPe hBo (laD wk dr) (sdF cs (txV bb sz wk (laD wk dr)))
  have e1 := cr_eq hBo gr ki ma (laD wk dr) (sdF cs (txV bb sz wk (laD wk dr)))
  have e2 := to_eq hBo gr ki ma (laD wk dr) (sdF cs (txV bb sz wk (laD wk dr)))
  have hts := hTp.1
  have htb := hTp.2.1
  have hbo := hTp.2.2
  refine ⟨.int (nI (ma q)), 10, 30, _, _, by decide, by decide, Or.inl ⟨rfl, _, rfl⟩, Ct.sub [0, 49, 1, 24, 2, 3] rfl rfl ?_ (ct_many_o l g (a 0) (a 1) (a 9) (a 17) (a 24) (a 33) (a 36) (a 39) (a 40) (a 49) ts kp (a 2) (a 3) (a 4) (a 5) (a 6) (a 7) (a 8) gr br cs wk z fi (a 31) (a 20) (a 25) (a 26) (a 27) (a 28) (a 29) (a 30) tot lat se sw ki ma q mn (hq) (hmn)), Ct.sub [0, 3, 1] rfl rfl ?_ (ct_nmany_o l g (b 0) (b 1) (b 2) (b 3) (b 4) (b 5) (b 6) (b 7) (b 8) (b 9) (b 10) (b 11) (b 12) (b 13) (b 14) (b 15) (b 16) (b 17) (b 18) (b 19) ts nta nop npr nac kp nbd 0 nnw nsn nwn fi gr wk lk sz br z ru ki ma bb hd ce q mn (hq) (hmn)), ?_⟩
  · rintro v w ⟨rfl, rfl⟩; rfl
  · rintro v w ⟨rfl, rfl⟩; rfl
  · rintro v1 w1 v2 w2 ⟨wq1, ⟨rfl, rfl⟩, rfl⟩ ⟨wq2, ⟨rfl, rfl⟩, rfl⟩
    refine ⟨rfl, rfl, rel_mk g a b gr wk br cs lk sz z ru ki (updN ma q mn) bp bt bb hd dr co ce kgr kwk kbr kcs klk ksz kz kru kki kma kbp kbt kbb khd kdr kco kce kp nkf ts fi tb bo rn0 rc0 ra0 rft f0 tot lat 0 0 sd li th tw cr by_ va su mk sk wsm tk shF sb sn sv nta nop npr nac nbd 1 nsn nwn nli nal nlo nwi ntr nbg now_ nis nbo nsz nnu ?_ ?_ (⟨hgr, hki, upd_all hma hmn⟩) hBk hBo hLk hRu hKp hTp hSh ⟨Or.inl rfl, Or.inl rfl⟩ ⟨Or.inl ⟨rfl, rf_said hRf⟩, Or.inl (wnI_1 _)⟩⟩
    · simp only [e1, e2, xW, nW, xSet, List.set_cons_zero, List.set_cons_succ]
    · simp only [xW, nW, xSet, List.set_cons_zero, List.set_cons_succ]

set_option maxRecDepth 100000 in
set_option maxHeartbeats 4000000 in
theorem pr_as_b (l : Launch) (g : XG) (a b : Nat → Nat) (gr wk br cs lk sz : Nat) (z : Int32) (ru ki ma bp bt bb hd dr : Nat → Nat) (co ce : Nat → Int32) (kgr kwk kbr kcs klk ksz : Nat) (kz : Int32) (kru kki kma kbp kbt kbb khd kdr : Nat → Nat) (kco kce : Nat → Int32) (kp : Int32) (nkf : Nat → Int32) (ts : Nat) (fi tb bo : Nat → Nat) (rn0 rc0 ra0 : Nat) (rft : Int32) (f0 : Nat → Int32) (tot lat : Nat) (se sw : Int32) (sd li th tw cr by_ : Nat → Nat) (va su : Nat → Int64) (mk : Nat → Nat) (sk : Nat → Int32) (wsm : Nat → Int64) (tk : Nat → Nat) (shF : Nat → Option Nat) (sb sn : Nat → Nat) (sv : Nat → Nat → Int64) (nta nop npr nac : Nat) (nbd nnw nsn nwn : Int32) (nli nal nlo nwi ntr nbg now_ : Nat → Nat) (nis nbo : Nat → Int32) (nsz : Nat → Nat) (nnu : Nat → Int64) (hPe : PeI gr ki ma) (hBk : BkI wk ce dr) (hBo : BoI br bp bt hd) (hLk : LkI cs co lk sz bb) (hRu : RuI ru) (hKp : KpI kp nkf kgr kwk kbr kcs klk ksz kz kru kki kma kbp kbt kbb khd kdr kco kce) (hTp : TpI ts tb bo) (hSh : ShI a shF sb sn sv nbo nsz nnu) (hCr : CrI gr wk br cs sz ki ma bp bt bb dr tot lat se sw sd cr th tw) (hRf : RfI gr wk cs sz ki ma hd bb dr nnw nsn nwn nli nal nlo nwi nac) (pp kd : Int32) (hb : wI pp 0 (nI gr - 1) = 0 ∨ wI kd 0 7 = 0) : PairP l g yX8_as cX8_as 3 (some .int) [.ref ((a 0)), .int pp, .int kd] yX9_as cX9_as 4 (some .int) [.ref ((b 0)), .int pp, .int kd] (xW g a gr wk br cs z ru ki ma bp bt co ce kgr kwk kbr kcs kz kru kki kma kbp kbt kco kce kp ts fi tb bo rn0 rc0 ra0 rft f0 tot lat se sw sd li th tw cr by_ va su mk sk wsm tk shF sb sn sv) (nW g b gr wk lk sz br z ru ki ma bb ce hd kp nkf ts fi tb nta nop npr nac nbd nnw nsn nwn nli nal nlo nwi ntr nbg now_ nis nbo nsz nnu) (Rel g a b) := by
  have hgr := hPe.1
  have hki := hPe.2.1
  have hma := hPe.2.2
  have hwk := hBk.1
  have hlat := core_lat hBk
  have hL := core_L hBk
  have hbr := hBo.1
  have hbp := hBo.2.1
  have hbt := hBo.2.2.1
  have hhd := hBo.2.2.2.2.2.2
  have hcs := hLk.1
  have hsz := hLk.2.1
  have hbb := hLk.2.2.1
  have hlk := lk_le hLk
  have hV : cs ≠ 0 → ∀ p, p < 495 → evR (nmI wk (laD wk dr) p) (cdF co 0 cs) [] = some [(txV bb sz wk (laD wk dr)) p] := fun q p _ => hLk.2.2.2.2 q wk (laD wk dr) p
  have hse := hCr.1
  have hsw := hCr.2
  have hsd := sdD_le cs bb sz wk (laD wk dr)
  have hsv : ∀ p, p < 495 → sdF cs (txV bb sz wk (laD wk dr)) p = if lk = 1 then clN (txV bb sz wk (laD wk dr) p) else 1 := fun p _ => lk_sd hLk _ _ p
  have hwo := hRf.1
  have hwc := hRf.2
  have htot := to_lt hPe hBo (laD wk dr) (sdF cs (txV bb sz wk (laD wk dr)))
  have e1 := cr_eq hBo gr ki ma (laD wk dr) (sdF cs (txV bb sz wk (laD wk dr)))
  have e2 := to_eq hBo gr ki ma (laD wk dr) (sdF cs (txV bb sz wk (laD wk dr)))
  have hts := hTp.1
  have htb := hTp.2.1
  have hbo := hTp.2.2
  refine ⟨.int (fndI 0), 10, 30, _, _, by decide, by decide, Or.inl ⟨rfl, _, rfl⟩, Ct.sub [0, 49, 1] rfl rfl ?_ (ct_as_b l g (a 0) (a 1) (a 9) (a 17) (a 24) (a 33) (a 36) (a 39) (a 40) (a 49) ts kp (a 2) (a 3) (a 4) (a 5) (a 6) (a 7) (a 8) gr br cs wk z fi pp kd (hb)), Ct.sub [0, 3, 1] rfl rfl ?_ (ct_nas_b l g (b 0) (b 1) (b 2) (b 3) (b 4) (b 5) (b 6) (b 7) (b 8) (b 9) (b 10) (b 11) (b 12) (b 13) (b 14) (b 15) (b 16) (b 17) (b 18) (b 19) ts nta nop npr nac kp nbd 0 nnw nsn nwn fi pp kd gr wk lk sz br z ru ki ma bb hd ce (hgr) (hb)), ?_⟩
  · rintro v w ⟨rfl, rfl⟩; rfl
  · rintro v w ⟨rfl, rfl⟩; rfl
  · rintro v1 w1 v2 w2 ⟨wq1, ⟨rfl, rfl⟩, rfl⟩ ⟨wq2, ⟨rfl, rfl⟩, rfl⟩
    refine ⟨rfl, rfl, rel_mk g a b gr wk br cs lk sz z ru ki ma bp bt bb hd dr co ce kgr kwk kbr kcs klk ksz kz kru kki kma kbp kbt kbb khd kdr kco kce kp nkf ts (updN fi 0 (fi 0 + 1)) tb bo rn0 rc0 ra0 rft f0 tot lat se sw sd li th tw cr by_ va su mk sk wsm tk shF sb sn sv nta nop npr nac nbd nnw nsn nwn nli nal nlo nwi ntr nbg now_ nis nbo nsz nnu ?_ ?_ hPe hBk hBo hLk hRu hKp hTp hSh hCr hRf⟩
    · simp only [e1, e2, xW, nW, xSet, List.set_cons_zero, List.set_cons_succ]
    · simp only [xW, nW, xSet, List.set_cons_zero, List.set_cons_succ]

set_option maxRecDepth 100000 in
set_option maxHeartbeats 4000000 in
theorem pr_as_k0 (l : Launch) (g : XG) (a b : Nat → Nat) (gr wk br cs lk sz : Nat) (z : Int32) (ru ki ma bp bt bb hd dr : Nat → Nat) (co ce : Nat → Int32) (kgr kwk kbr kcs klk ksz : Nat) (kz : Int32) (kru kki kma kbp kbt kbb khd kdr : Nat → Nat) (kco kce : Nat → Int32) (kp : Int32) (nkf : Nat → Int32) (ts : Nat) (fi tb bo : Nat → Nat) (rn0 rc0 ra0 : Nat) (rft : Int32) (f0 : Nat → Int32) (tot lat : Nat) (se sw : Int32) (sd li th tw cr by_ : Nat → Nat) (va su : Nat → Int64) (mk : Nat → Nat) (sk : Nat → Int32) (wsm : Nat → Int64) (tk : Nat → Nat) (shF : Nat → Option Nat) (sb sn : Nat → Nat) (sv : Nat → Nat → Int64) (nta nop npr nac : Nat) (nbd nnw nsn nwn : Int32) (nli nal nlo nwi ntr nbg now_ : Nat → Nat) (nis nbo : Nat → Int32) (nsz : Nat → Nat) (nnu : Nat → Int64) (hPe : PeI gr ki ma) (hBk : BkI wk ce dr) (hBo : BoI br bp bt hd) (hLk : LkI cs co lk sz bb) (hRu : RuI ru) (hKp : KpI kp nkf kgr kwk kbr kcs klk ksz kz kru kki kma kbp kbt kbb khd kdr kco kce) (hTp : TpI ts tb bo) (hSh : ShI a shF sb sn sv nbo nsz nnu) (hCr : CrI gr wk br cs sz ki ma bp bt bb dr tot lat se sw sd cr th tw) (hRf : RfI gr wk cs sz ki ma hd bb dr nnw nsn nwn nli nal nlo nwi nac) (q kd : Nat) (hq : q < gr ∧ gr ≤ 12) (hkd : kd ≤ 7) (hkq : ki q = 0) (hu : udI 0 (nI kd) = 0) : PairP l g yX8_as cX8_as 3 (some .int) [.ref ((a 0)), .int (nI q), .int (nI kd)] yX9_as cX9_as 4 (some .int) [.ref ((b 0)), .int (nI q), .int (nI kd)] (xW g a gr wk br cs z ru ki ma bp bt co ce kgr kwk kbr kcs kz kru kki kma kbp kbt kco kce kp ts fi tb bo rn0 rc0 ra0 rft f0 tot lat se sw sd li th tw cr by_ va su mk sk wsm tk shF sb sn sv) (nW g b gr wk lk sz br z ru ki ma bb ce hd kp nkf ts fi tb nta nop npr nac nbd nnw nsn nwn nli nal nlo nwi ntr nbg now_ nis nbo nsz nnu) (Rel g a b) := by
  have hgr := hPe.1
  have hki := hPe.2.1
  have hma := hPe.2.2
  have hwk := hBk.1
  have hlat := core_lat hBk
  have hL := core_L hBk
  have hbr := hBo.1
  have hbp := hBo.2.1
  have hbt := hBo.2.2.1
  have hhd := hBo.2.2.2.2.2.2
  have hcs := hLk.1
  have hsz := hLk.2.1
  have hbb := hLk.2.2.1
  have hlk := lk_le hLk
  have hV : cs ≠ 0 → ∀ p, p < 495 → evR (nmI wk (laD wk dr) p) (cdF co 0 cs) [] = some [(txV bb sz wk (laD wk dr)) p] := fun q p _ => hLk.2.2.2.2 q wk (laD wk dr) p
  have hse := hCr.1
  have hsw := hCr.2
  have hsd := sdD_le cs bb sz wk (laD wk dr)
  have hsv : ∀ p, p < 495 → sdF cs (txV bb sz wk (laD wk dr)) p = if lk = 1 then clN (txV bb sz wk (laD wk dr) p) else 1 := fun p _ => lk_sd hLk _ _ p
  have hwo := hRf.1
  have hwc := hRf.2
  have htot := to_lt hPe hBo (laD wk dr) (sdF cs (txV bb sz wk (laD wk dr)))
  have e1 := cr_eq hBo gr ki ma (laD wk dr) (sdF cs (txV bb sz wk (laD wk dr)))
  have e2 := to_eq hBo gr ki ma (laD wk dr) (sdF cs (txV bb sz wk (laD wk dr)))
  have hts := hTp.1
  have htb := hTp.2.1
  have hbo := hTp.2.2
  refine ⟨.int (fndI 2), 10, 30, _, _, by decide, by decide, Or.inl ⟨rfl, _, rfl⟩, Ct.sub [0, 49, 1, 2, 3] rfl rfl ?_ (ct_as_k l g (a 0) (a 1) (a 9) (a 17) (a 24) (a 33) (a 36) (a 39) (a 40) (a 49) ts kp (a 2) (a 3) (a 4) (a 5) (a 6) (a 7) (a 8) gr br cs wk z fi ki ma q kd (hq) (hkd) (hki) (by rw [hkq]; exact hu)), Ct.sub [0, 3, 1] rfl rfl ?_ (ct_nas_k0 l g (b 0) (b 1) (b 2) (b 3) (b 4) (b 5) (b 6) (b 7) (b 8) (b 9) (b 10) (b 11) (b 12) (b 13) (b 14) (b 15) (b 16) (b 17) (b 18) (b 19) ts nta nop npr nac kp nbd 0 nnw nsn nwn fi gr wk lk sz br z ru ki ma bb hd ce q kd (hq) (hkd) (hkq) (hu)), ?_⟩
  · rintro v w ⟨rfl, rfl⟩; rfl
  · rintro v w ⟨rfl, rfl⟩; rfl
  · rintro v1 w1 v2 w2 ⟨wq1, ⟨rfl, rfl⟩, rfl⟩ ⟨wq2, ⟨rfl, rfl⟩, rfl⟩
    refine ⟨rfl, rfl, rel_mk g a b gr wk br cs lk sz z ru ki ma bp bt bb hd dr co ce kgr kwk kbr kcs klk ksz kz kru kki kma kbp kbt kbb khd kdr kco kce kp nkf ts (updN fi 2 (fi 2 + 1)) tb bo rn0 rc0 ra0 rft f0 tot lat se sw sd li th tw cr by_ va su mk sk wsm tk shF sb sn sv nta nop npr nac nbd nnw nsn nwn nli nal nlo nwi ntr nbg now_ nis nbo nsz nnu ?_ ?_ hPe hBk hBo hLk hRu hKp hTp hSh hCr hRf⟩
    · simp only [e1, e2, xW, nW, xSet, List.set_cons_zero, List.set_cons_succ]
    · simp only [xW, nW, xSet, List.set_cons_zero, List.set_cons_succ]

set_option maxRecDepth 100000 in
set_option maxHeartbeats 4000000 in
theorem pr_as_o0 (l : Launch) (g : XG) (a b : Nat → Nat) (gr wk br cs lk sz : Nat) (z : Int32) (ru ki ma bp bt bb hd dr : Nat → Nat) (co ce : Nat → Int32) (kgr kwk kbr kcs klk ksz : Nat) (kz : Int32) (kru kki kma kbp kbt kbb khd kdr : Nat → Nat) (kco kce : Nat → Int32) (kp : Int32) (nkf : Nat → Int32) (ts : Nat) (fi tb bo : Nat → Nat) (rn0 rc0 ra0 : Nat) (rft : Int32) (f0 : Nat → Int32) (tot lat : Nat) (se sw : Int32) (sd li th tw cr by_ : Nat → Nat) (va su : Nat → Int64) (mk : Nat → Nat) (sk : Nat → Int32) (wsm : Nat → Int64) (tk : Nat → Nat) (shF : Nat → Option Nat) (sb sn : Nat → Nat) (sv : Nat → Nat → Int64) (nta nop npr nac : Nat) (nbd nnw nsn nwn : Int32) (nli nal nlo nwi ntr nbg now_ : Nat → Nat) (nis nbo : Nat → Int32) (nsz : Nat → Nat) (nnu : Nat → Int64) (hPe : PeI gr ki ma) (hBk : BkI wk ce dr) (hBo : BoI br bp bt hd) (hLk : LkI cs co lk sz bb) (hRu : RuI ru) (hKp : KpI kp nkf kgr kwk kbr kcs klk ksz kz kru kki kma kbp kbt kbb khd kdr kco kce) (hTp : TpI ts tb bo) (hSh : ShI a shF sb sn sv nbo nsz nnu) (hCr : CrI gr wk br cs sz ki ma bp bt bb dr tot lat se sw sd cr th tw) (hRf : RfI gr wk cs sz ki ma hd bb dr nnw nsn nwn nli nal nlo nwi nac) (q kd : Nat) (hq : q < gr ∧ gr ≤ 12) (hkd : kd ≤ 7) (hkq : ki q = 0) (hu : udI 0 (nI kd) = 1) : PairP l g yX8_as cX8_as 3 (some .int) [.ref ((a 0)), .int (nI q), .int (nI kd)] yX9_as cX9_as 4 (some .int) [.ref ((b 0)), .int (nI q), .int (nI kd)] (xW g a gr wk br cs z ru ki ma bp bt co ce kgr kwk kbr kcs kz kru kki kma kbp kbt kco kce kp ts fi tb bo rn0 rc0 ra0 rft f0 tot lat se sw sd li th tw cr by_ va su mk sk wsm tk shF sb sn sv) (nW g b gr wk lk sz br z ru ki ma bb ce hd kp nkf ts fi tb nta nop npr nac nbd nnw nsn nwn nli nal nlo nwi ntr nbg now_ nis nbo nsz nnu) (Rel g a b) := by
  have hgr := hPe.1
  have hki := hPe.2.1
  have hma := hPe.2.2
  have hwk := hBk.1
  have hlat := core_lat hBk
  have hL := core_L hBk
  have hbr := hBo.1
  have hbp := hBo.2.1
  have hbt := hBo.2.2.1
  have hhd := hBo.2.2.2.2.2.2
  have hcs := hLk.1
  have hsz := hLk.2.1
  have hbb := hLk.2.2.1
  have hlk := lk_le hLk
  have hV : cs ≠ 0 → ∀ p, p < 495 → evR (nmI wk (laD wk dr) p) (cdF co 0 cs) [] = some [(txV bb sz wk (laD wk dr)) p] := fun q p _ => hLk.2.2.2.2 q wk (laD wk dr) p
  have hse := hCr.1
  have hsw := hCr.2
  have hsd := sdD_le cs bb sz wk (laD wk dr)
  have hsv : ∀ p, p < 495 → sdF cs (txV bb sz wk (laD wk dr)) p = if lk = 1 then clN (txV bb sz wk (laD wk dr) p) else 1 := fun p _ => lk_sd hLk _ _ p
  have hwo := hRf.1
  have hwc := hRf.2
  have htot := to_lt hPe hBo (laD wk dr) (sdF cs (txV bb sz wk (laD wk dr)))
  have e1 := cr_eq hBo gr ki ma (laD wk dr) (sdF cs (txV bb sz wk (laD wk dr)))
  have e2 := to_eq hBo gr ki ma (laD wk dr) (sdF cs (txV bb sz wk (laD wk dr)))
  have hts := hTp.1
  have htb := hTp.2.1
  have hbo := hTp.2.2
  refine ⟨.int (nI (ma q)), 10, 30, _, _, by decide, by decide, Or.inl ⟨rfl, _, rfl⟩, Ct.sub [0, 49, 1, 2, 3] rfl rfl ?_ (ct_as_o l g (a 0) (a 1) (a 9) (a 17) (a 24) (a 33) (a 36) (a 39) (a 40) (a 49) ts kp (a 2) (a 3) (a 4) (a 5) (a 6) (a 7) (a 8) gr br cs wk z fi ki ma q kd (hq) (hkd) (hki) (by rw [hkq]; exact hu)), Ct.sub [0, 3, 1] rfl rfl ?_ (ct_nas_o0 l g (b 0) (b 1) (b 2) (b 3) (b 4) (b 5) (b 6) (b 7) (b 8) (b 9) (b 10) (b 11) (b 12) (b 13) (b 14) (b 15) (b 16) (b 17) (b 18) (b 19) ts nta nop npr nac kp nbd 0 nnw nsn nwn fi gr wk lk sz br z ru ki ma bb hd ce q kd (hq) (hkd) (hkq) (hu)), ?_⟩
  · rintro v w ⟨rfl, rfl⟩; rfl
  · rintro v w ⟨rfl, rfl⟩; rfl
  · rintro v1 w1 v2 w2 ⟨wq1, ⟨rfl, rfl⟩, rfl⟩ ⟨wq2, ⟨rfl, rfl⟩, rfl⟩
    refine ⟨rfl, rfl, rel_mk g a b gr wk br cs lk sz z ru ki ma bp bt bb hd dr co ce kgr kwk kbr kcs klk ksz kz kru kki kma kbp kbt kbb khd kdr kco kce kp nkf ts fi tb bo rn0 rc0 ra0 rft f0 tot lat se sw sd li th tw cr by_ va su mk sk wsm tk shF sb sn sv nta nop npr nac nbd nnw nsn nwn nli nal nlo nwi ntr nbg now_ nis nbo nsz nnu ?_ ?_ hPe hBk hBo hLk hRu hKp hTp hSh hCr hRf⟩
    · simp only [e1, e2, xW, nW, xSet, List.set_cons_zero, List.set_cons_succ]
    · simp only [xW, nW, xSet, List.set_cons_zero, List.set_cons_succ]

set_option maxRecDepth 100000 in
set_option maxHeartbeats 4000000 in
theorem pr_as_k1 (l : Launch) (g : XG) (a b : Nat → Nat) (gr wk br cs lk sz : Nat) (z : Int32) (ru ki ma bp bt bb hd dr : Nat → Nat) (co ce : Nat → Int32) (kgr kwk kbr kcs klk ksz : Nat) (kz : Int32) (kru kki kma kbp kbt kbb khd kdr : Nat → Nat) (kco kce : Nat → Int32) (kp : Int32) (nkf : Nat → Int32) (ts : Nat) (fi tb bo : Nat → Nat) (rn0 rc0 ra0 : Nat) (rft : Int32) (f0 : Nat → Int32) (tot lat : Nat) (se sw : Int32) (sd li th tw cr by_ : Nat → Nat) (va su : Nat → Int64) (mk : Nat → Nat) (sk : Nat → Int32) (wsm : Nat → Int64) (tk : Nat → Nat) (shF : Nat → Option Nat) (sb sn : Nat → Nat) (sv : Nat → Nat → Int64) (nta nop npr nac : Nat) (nbd nnw nsn nwn : Int32) (nli nal nlo nwi ntr nbg now_ : Nat → Nat) (nis nbo : Nat → Int32) (nsz : Nat → Nat) (nnu : Nat → Int64) (hPe : PeI gr ki ma) (hBk : BkI wk ce dr) (hBo : BoI br bp bt hd) (hLk : LkI cs co lk sz bb) (hRu : RuI ru) (hKp : KpI kp nkf kgr kwk kbr kcs klk ksz kz kru kki kma kbp kbt kbb khd kdr kco kce) (hTp : TpI ts tb bo) (hSh : ShI a shF sb sn sv nbo nsz nnu) (hCr : CrI gr wk br cs sz ki ma bp bt bb dr tot lat se sw sd cr th tw) (hRf : RfI gr wk cs sz ki ma hd bb dr nnw nsn nwn nli nal nlo nwi nac) (q kd : Nat) (hq : q < gr ∧ gr ≤ 12) (hkd : kd ≤ 7) (hkq : ki q = 1) (hu : udI 1 (nI kd) = 0) : PairP l g yX8_as cX8_as 3 (some .int) [.ref ((a 0)), .int (nI q), .int (nI kd)] yX9_as cX9_as 4 (some .int) [.ref ((b 0)), .int (nI q), .int (nI kd)] (xW g a gr wk br cs z ru ki ma bp bt co ce kgr kwk kbr kcs kz kru kki kma kbp kbt kco kce kp ts fi tb bo rn0 rc0 ra0 rft f0 tot lat se sw sd li th tw cr by_ va su mk sk wsm tk shF sb sn sv) (nW g b gr wk lk sz br z ru ki ma bb ce hd kp nkf ts fi tb nta nop npr nac nbd nnw nsn nwn nli nal nlo nwi ntr nbg now_ nis nbo nsz nnu) (Rel g a b) := by
  have hgr := hPe.1
  have hki := hPe.2.1
  have hma := hPe.2.2
  have hwk := hBk.1
  have hlat := core_lat hBk
  have hL := core_L hBk
  have hbr := hBo.1
  have hbp := hBo.2.1
  have hbt := hBo.2.2.1
  have hhd := hBo.2.2.2.2.2.2
  have hcs := hLk.1
  have hsz := hLk.2.1
  have hbb := hLk.2.2.1
  have hlk := lk_le hLk
  have hV : cs ≠ 0 → ∀ p, p < 495 → evR (nmI wk (laD wk dr) p) (cdF co 0 cs) [] = some [(txV bb sz wk (laD wk dr)) p] := fun q p _ => hLk.2.2.2.2 q wk (laD wk dr) p
  have hse := hCr.1
  have hsw := hCr.2
  have hsd := sdD_le cs bb sz wk (laD wk dr)
  have hsv : ∀ p, p < 495 → sdF cs (txV bb sz wk (laD wk dr)) p = if lk = 1 then clN (txV bb sz wk (laD wk dr) p) else 1 := fun p _ => lk_sd hLk _ _ p
  have hwo := hRf.1
  have hwc := hRf.2
  have htot := to_lt hPe hBo (laD wk dr) (sdF cs (txV bb sz wk (laD wk dr)))
  have e1 := cr_eq hBo gr ki ma (laD wk dr) (sdF cs (txV bb sz wk (laD wk dr)))
  have e2 := to_eq hBo gr ki ma (laD wk dr) (sdF cs (txV bb sz wk (laD wk dr)))
  have hts := hTp.1
  have htb := hTp.2.1
  have hbo := hTp.2.2
  refine ⟨.int (fndI 2), 10, 30, _, _, by decide, by decide, Or.inl ⟨rfl, _, rfl⟩, Ct.sub [0, 49, 1, 2, 3] rfl rfl ?_ (ct_as_k l g (a 0) (a 1) (a 9) (a 17) (a 24) (a 33) (a 36) (a 39) (a 40) (a 49) ts kp (a 2) (a 3) (a 4) (a 5) (a 6) (a 7) (a 8) gr br cs wk z fi ki ma q kd (hq) (hkd) (hki) (by rw [hkq]; exact hu)), Ct.sub [0, 3, 1] rfl rfl ?_ (ct_nas_k1 l g (b 0) (b 1) (b 2) (b 3) (b 4) (b 5) (b 6) (b 7) (b 8) (b 9) (b 10) (b 11) (b 12) (b 13) (b 14) (b 15) (b 16) (b 17) (b 18) (b 19) ts nta nop npr nac kp nbd 0 nnw nsn nwn fi gr wk lk sz br z ru ki ma bb hd ce q kd (hq) (hkd) (hkq) (hu)), ?_⟩
  · rintro v w ⟨rfl, rfl⟩; rfl
  · rintro v w ⟨rfl, rfl⟩; rfl
  · rintro v1 w1 v2 w2 ⟨wq1, ⟨rfl, rfl⟩, rfl⟩ ⟨wq2, ⟨rfl, rfl⟩, rfl⟩
    refine ⟨rfl, rfl, rel_mk g a b gr wk br cs lk sz z ru ki ma bp bt bb hd dr co ce kgr kwk kbr kcs klk ksz kz kru kki kma kbp kbt kbb khd kdr kco kce kp nkf ts (updN fi 2 (fi 2 + 1)) tb bo rn0 rc0 ra0 rft f0 tot lat se sw sd li th tw cr by_ va su mk sk wsm tk shF sb sn sv nta nop npr nac nbd nnw nsn nwn nli nal nlo nwi ntr nbg now_ nis nbo nsz nnu ?_ ?_ hPe hBk hBo hLk hRu hKp hTp hSh hCr hRf⟩
    · simp only [e1, e2, xW, nW, xSet, List.set_cons_zero, List.set_cons_succ]
    · simp only [xW, nW, xSet, List.set_cons_zero, List.set_cons_succ]

set_option maxRecDepth 100000 in
set_option maxHeartbeats 4000000 in
theorem pr_as_o1 (l : Launch) (g : XG) (a b : Nat → Nat) (gr wk br cs lk sz : Nat) (z : Int32) (ru ki ma bp bt bb hd dr : Nat → Nat) (co ce : Nat → Int32) (kgr kwk kbr kcs klk ksz : Nat) (kz : Int32) (kru kki kma kbp kbt kbb khd kdr : Nat → Nat) (kco kce : Nat → Int32) (kp : Int32) (nkf : Nat → Int32) (ts : Nat) (fi tb bo : Nat → Nat) (rn0 rc0 ra0 : Nat) (rft : Int32) (f0 : Nat → Int32) (tot lat : Nat) (se sw : Int32) (sd li th tw cr by_ : Nat → Nat) (va su : Nat → Int64) (mk : Nat → Nat) (sk : Nat → Int32) (wsm : Nat → Int64) (tk : Nat → Nat) (shF : Nat → Option Nat) (sb sn : Nat → Nat) (sv : Nat → Nat → Int64) (nta nop npr nac : Nat) (nbd nnw nsn nwn : Int32) (nli nal nlo nwi ntr nbg now_ : Nat → Nat) (nis nbo : Nat → Int32) (nsz : Nat → Nat) (nnu : Nat → Int64) (hPe : PeI gr ki ma) (hBk : BkI wk ce dr) (hBo : BoI br bp bt hd) (hLk : LkI cs co lk sz bb) (hRu : RuI ru) (hKp : KpI kp nkf kgr kwk kbr kcs klk ksz kz kru kki kma kbp kbt kbb khd kdr kco kce) (hTp : TpI ts tb bo) (hSh : ShI a shF sb sn sv nbo nsz nnu) (hCr : CrI gr wk br cs sz ki ma bp bt bb dr tot lat se sw sd cr th tw) (hRf : RfI gr wk cs sz ki ma hd bb dr nnw nsn nwn nli nal nlo nwi nac) (q kd : Nat) (hq : q < gr ∧ gr ≤ 12) (hkd : kd ≤ 7) (hkq : ki q = 1) (hu : udI 1 (nI kd) = 1) : PairP l g yX8_as cX8_as 3 (some .int) [.ref ((a 0)), .int (nI q), .int (nI kd)] yX9_as cX9_as 4 (some .int) [.ref ((b 0)), .int (nI q), .int (nI kd)] (xW g a gr wk br cs z ru ki ma bp bt co ce kgr kwk kbr kcs kz kru kki kma kbp kbt kco kce kp ts fi tb bo rn0 rc0 ra0 rft f0 tot lat se sw sd li th tw cr by_ va su mk sk wsm tk shF sb sn sv) (nW g b gr wk lk sz br z ru ki ma bb ce hd kp nkf ts fi tb nta nop npr nac nbd nnw nsn nwn nli nal nlo nwi ntr nbg now_ nis nbo nsz nnu) (Rel g a b) := by
  have hgr := hPe.1
  have hki := hPe.2.1
  have hma := hPe.2.2
  have hwk := hBk.1
  have hlat := core_lat hBk
  have hL := core_L hBk
  have hbr := hBo.1
  have hbp := hBo.2.1
  have hbt := hBo.2.2.1
  have hhd := hBo.2.2.2.2.2.2
  have hcs := hLk.1
  have hsz := hLk.2.1
  have hbb := hLk.2.2.1
  have hlk := lk_le hLk
  have hV : cs ≠ 0 → ∀ p, p < 495 → evR (nmI wk (laD wk dr) p) (cdF co 0 cs) [] = some [(txV bb sz wk (laD wk dr)) p] := fun q p _ => hLk.2.2.2.2 q wk (laD wk dr) p
  have hse := hCr.1
  have hsw := hCr.2
  have hsd := sdD_le cs bb sz wk (laD wk dr)
  have hsv : ∀ p, p < 495 → sdF cs (txV bb sz wk (laD wk dr)) p = if lk = 1 then clN (txV bb sz wk (laD wk dr) p) else 1 := fun p _ => lk_sd hLk _ _ p
  have hwo := hRf.1
  have hwc := hRf.2
  have htot := to_lt hPe hBo (laD wk dr) (sdF cs (txV bb sz wk (laD wk dr)))
  have e1 := cr_eq hBo gr ki ma (laD wk dr) (sdF cs (txV bb sz wk (laD wk dr)))
  have e2 := to_eq hBo gr ki ma (laD wk dr) (sdF cs (txV bb sz wk (laD wk dr)))
  have hts := hTp.1
  have htb := hTp.2.1
  have hbo := hTp.2.2
  refine ⟨.int (nI (ma q)), 10, 30, _, _, by decide, by decide, Or.inl ⟨rfl, _, rfl⟩, Ct.sub [0, 49, 1, 2, 3] rfl rfl ?_ (ct_as_o l g (a 0) (a 1) (a 9) (a 17) (a 24) (a 33) (a 36) (a 39) (a 40) (a 49) ts kp (a 2) (a 3) (a 4) (a 5) (a 6) (a 7) (a 8) gr br cs wk z fi ki ma q kd (hq) (hkd) (hki) (by rw [hkq]; exact hu)), Ct.sub [0, 3, 1] rfl rfl ?_ (ct_nas_o1 l g (b 0) (b 1) (b 2) (b 3) (b 4) (b 5) (b 6) (b 7) (b 8) (b 9) (b 10) (b 11) (b 12) (b 13) (b 14) (b 15) (b 16) (b 17) (b 18) (b 19) ts nta nop npr nac kp nbd 0 nnw nsn nwn fi gr wk lk sz br z ru ki ma bb hd ce q kd (hq) (hkd) (hkq) (hu)), ?_⟩
  · rintro v w ⟨rfl, rfl⟩; rfl
  · rintro v w ⟨rfl, rfl⟩; rfl
  · rintro v1 w1 v2 w2 ⟨wq1, ⟨rfl, rfl⟩, rfl⟩ ⟨wq2, ⟨rfl, rfl⟩, rfl⟩
    refine ⟨rfl, rfl, rel_mk g a b gr wk br cs lk sz z ru ki ma bp bt bb hd dr co ce kgr kwk kbr kcs klk ksz kz kru kki kma kbp kbt kbb khd kdr kco kce kp nkf ts fi tb bo rn0 rc0 ra0 rft f0 tot lat se sw sd li th tw cr by_ va su mk sk wsm tk shF sb sn sv nta nop npr nac nbd nnw nsn nwn nli nal nlo nwi ntr nbg now_ nis nbo nsz nnu ?_ ?_ hPe hBk hBo hLk hRu hKp hTp hSh hCr hRf⟩
    · simp only [e1, e2, xW, nW, xSet, List.set_cons_zero, List.set_cons_succ]
    · simp only [xW, nW, xSet, List.set_cons_zero, List.set_cons_succ]

set_option maxRecDepth 100000 in
set_option maxHeartbeats 4000000 in
theorem pr_as_k2 (l : Launch) (g : XG) (a b : Nat → Nat) (gr wk br cs lk sz : Nat) (z : Int32) (ru ki ma bp bt bb hd dr : Nat → Nat) (co ce : Nat → Int32) (kgr kwk kbr kcs klk ksz : Nat) (kz : Int32) (kru kki kma kbp kbt kbb khd kdr : Nat → Nat) (kco kce : Nat → Int32) (kp : Int32) (nkf : Nat → Int32) (ts : Nat) (fi tb bo : Nat → Nat) (rn0 rc0 ra0 : Nat) (rft : Int32) (f0 : Nat → Int32) (tot lat : Nat) (se sw : Int32) (sd li th tw cr by_ : Nat → Nat) (va su : Nat → Int64) (mk : Nat → Nat) (sk : Nat → Int32) (wsm : Nat → Int64) (tk : Nat → Nat) (shF : Nat → Option Nat) (sb sn : Nat → Nat) (sv : Nat → Nat → Int64) (nta nop npr nac : Nat) (nbd nnw nsn nwn : Int32) (nli nal nlo nwi ntr nbg now_ : Nat → Nat) (nis nbo : Nat → Int32) (nsz : Nat → Nat) (nnu : Nat → Int64) (hPe : PeI gr ki ma) (hBk : BkI wk ce dr) (hBo : BoI br bp bt hd) (hLk : LkI cs co lk sz bb) (hRu : RuI ru) (hKp : KpI kp nkf kgr kwk kbr kcs klk ksz kz kru kki kma kbp kbt kbb khd kdr kco kce) (hTp : TpI ts tb bo) (hSh : ShI a shF sb sn sv nbo nsz nnu) (hCr : CrI gr wk br cs sz ki ma bp bt bb dr tot lat se sw sd cr th tw) (hRf : RfI gr wk cs sz ki ma hd bb dr nnw nsn nwn nli nal nlo nwi nac) (q kd : Nat) (hq : q < gr ∧ gr ≤ 12) (hkd : kd ≤ 7) (hkq : ki q = 2) (hu : udI 2 (nI kd) = 0) : PairP l g yX8_as cX8_as 3 (some .int) [.ref ((a 0)), .int (nI q), .int (nI kd)] yX9_as cX9_as 4 (some .int) [.ref ((b 0)), .int (nI q), .int (nI kd)] (xW g a gr wk br cs z ru ki ma bp bt co ce kgr kwk kbr kcs kz kru kki kma kbp kbt kco kce kp ts fi tb bo rn0 rc0 ra0 rft f0 tot lat se sw sd li th tw cr by_ va su mk sk wsm tk shF sb sn sv) (nW g b gr wk lk sz br z ru ki ma bb ce hd kp nkf ts fi tb nta nop npr nac nbd nnw nsn nwn nli nal nlo nwi ntr nbg now_ nis nbo nsz nnu) (Rel g a b) := by
  have hgr := hPe.1
  have hki := hPe.2.1
  have hma := hPe.2.2
  have hwk := hBk.1
  have hlat := core_lat hBk
  have hL := core_L hBk
  have hbr := hBo.1
  have hbp := hBo.2.1
  have hbt := hBo.2.2.1
  have hhd := hBo.2.2.2.2.2.2
  have hcs := hLk.1
  have hsz := hLk.2.1
  have hbb := hLk.2.2.1
  have hlk := lk_le hLk
  have hV : cs ≠ 0 → ∀ p, p < 495 → evR (nmI wk (laD wk dr) p) (cdF co 0 cs) [] = some [(txV bb sz wk (laD wk dr)) p] := fun q p _ => hLk.2.2.2.2 q wk (laD wk dr) p
  have hse := hCr.1
  have hsw := hCr.2
  have hsd := sdD_le cs bb sz wk (laD wk dr)
  have hsv : ∀ p, p < 495 → sdF cs (txV bb sz wk (laD wk dr)) p = if lk = 1 then clN (txV bb sz wk (laD wk dr) p) else 1 := fun p _ => lk_sd hLk _ _ p
  have hwo := hRf.1
  have hwc := hRf.2
  have htot := to_lt hPe hBo (laD wk dr) (sdF cs (txV bb sz wk (laD wk dr)))
  have e1 := cr_eq hBo gr ki ma (laD wk dr) (sdF cs (txV bb sz wk (laD wk dr)))
  have e2 := to_eq hBo gr ki ma (laD wk dr) (sdF cs (txV bb sz wk (laD wk dr)))
  have hts := hTp.1
  have htb := hTp.2.1
  have hbo := hTp.2.2
  refine ⟨.int (fndI 2), 10, 30, _, _, by decide, by decide, Or.inl ⟨rfl, _, rfl⟩, Ct.sub [0, 49, 1, 2, 3] rfl rfl ?_ (ct_as_k l g (a 0) (a 1) (a 9) (a 17) (a 24) (a 33) (a 36) (a 39) (a 40) (a 49) ts kp (a 2) (a 3) (a 4) (a 5) (a 6) (a 7) (a 8) gr br cs wk z fi ki ma q kd (hq) (hkd) (hki) (by rw [hkq]; exact hu)), Ct.sub [0, 3, 1] rfl rfl ?_ (ct_nas_k2 l g (b 0) (b 1) (b 2) (b 3) (b 4) (b 5) (b 6) (b 7) (b 8) (b 9) (b 10) (b 11) (b 12) (b 13) (b 14) (b 15) (b 16) (b 17) (b 18) (b 19) ts nta nop npr nac kp nbd 0 nnw nsn nwn fi gr wk lk sz br z ru ki ma bb hd ce q kd (hq) (hkd) (hkq) (hu)), ?_⟩
  · rintro v w ⟨rfl, rfl⟩; rfl
  · rintro v w ⟨rfl, rfl⟩; rfl
  · rintro v1 w1 v2 w2 ⟨wq1, ⟨rfl, rfl⟩, rfl⟩ ⟨wq2, ⟨rfl, rfl⟩, rfl⟩
    refine ⟨rfl, rfl, rel_mk g a b gr wk br cs lk sz z ru ki ma bp bt bb hd dr co ce kgr kwk kbr kcs klk ksz kz kru kki kma kbp kbt kbb khd kdr kco kce kp nkf ts (updN fi 2 (fi 2 + 1)) tb bo rn0 rc0 ra0 rft f0 tot lat se sw sd li th tw cr by_ va su mk sk wsm tk shF sb sn sv nta nop npr nac nbd nnw nsn nwn nli nal nlo nwi ntr nbg now_ nis nbo nsz nnu ?_ ?_ hPe hBk hBo hLk hRu hKp hTp hSh hCr hRf⟩
    · simp only [e1, e2, xW, nW, xSet, List.set_cons_zero, List.set_cons_succ]
    · simp only [xW, nW, xSet, List.set_cons_zero, List.set_cons_succ]

set_option maxRecDepth 100000 in
set_option maxHeartbeats 4000000 in
theorem pr_as_o2 (l : Launch) (g : XG) (a b : Nat → Nat) (gr wk br cs lk sz : Nat) (z : Int32) (ru ki ma bp bt bb hd dr : Nat → Nat) (co ce : Nat → Int32) (kgr kwk kbr kcs klk ksz : Nat) (kz : Int32) (kru kki kma kbp kbt kbb khd kdr : Nat → Nat) (kco kce : Nat → Int32) (kp : Int32) (nkf : Nat → Int32) (ts : Nat) (fi tb bo : Nat → Nat) (rn0 rc0 ra0 : Nat) (rft : Int32) (f0 : Nat → Int32) (tot lat : Nat) (se sw : Int32) (sd li th tw cr by_ : Nat → Nat) (va su : Nat → Int64) (mk : Nat → Nat) (sk : Nat → Int32) (wsm : Nat → Int64) (tk : Nat → Nat) (shF : Nat → Option Nat) (sb sn : Nat → Nat) (sv : Nat → Nat → Int64) (nta nop npr nac : Nat) (nbd nnw nsn nwn : Int32) (nli nal nlo nwi ntr nbg now_ : Nat → Nat) (nis nbo : Nat → Int32) (nsz : Nat → Nat) (nnu : Nat → Int64) (hPe : PeI gr ki ma) (hBk : BkI wk ce dr) (hBo : BoI br bp bt hd) (hLk : LkI cs co lk sz bb) (hRu : RuI ru) (hKp : KpI kp nkf kgr kwk kbr kcs klk ksz kz kru kki kma kbp kbt kbb khd kdr kco kce) (hTp : TpI ts tb bo) (hSh : ShI a shF sb sn sv nbo nsz nnu) (hCr : CrI gr wk br cs sz ki ma bp bt bb dr tot lat se sw sd cr th tw) (hRf : RfI gr wk cs sz ki ma hd bb dr nnw nsn nwn nli nal nlo nwi nac) (q kd : Nat) (hq : q < gr ∧ gr ≤ 12) (hkd : kd ≤ 7) (hkq : ki q = 2) (hu : udI 2 (nI kd) = 1) : PairP l g yX8_as cX8_as 3 (some .int) [.ref ((a 0)), .int (nI q), .int (nI kd)] yX9_as cX9_as 4 (some .int) [.ref ((b 0)), .int (nI q), .int (nI kd)] (xW g a gr wk br cs z ru ki ma bp bt co ce kgr kwk kbr kcs kz kru kki kma kbp kbt kco kce kp ts fi tb bo rn0 rc0 ra0 rft f0 tot lat se sw sd li th tw cr by_ va su mk sk wsm tk shF sb sn sv) (nW g b gr wk lk sz br z ru ki ma bb ce hd kp nkf ts fi tb nta nop npr nac nbd nnw nsn nwn nli nal nlo nwi ntr nbg now_ nis nbo nsz nnu) (Rel g a b) := by
  have hgr := hPe.1
  have hki := hPe.2.1
  have hma := hPe.2.2
  have hwk := hBk.1
  have hlat := core_lat hBk
  have hL := core_L hBk
  have hbr := hBo.1
  have hbp := hBo.2.1
  have hbt := hBo.2.2.1
  have hhd := hBo.2.2.2.2.2.2
  have hcs := hLk.1
  have hsz := hLk.2.1
  have hbb := hLk.2.2.1
  have hlk := lk_le hLk
  have hV : cs ≠ 0 → ∀ p, p < 495 → evR (nmI wk (laD wk dr) p) (cdF co 0 cs) [] = some [(txV bb sz wk (laD wk dr)) p] := fun q p _ => hLk.2.2.2.2 q wk (laD wk dr) p
  have hse := hCr.1
  have hsw := hCr.2
  have hsd := sdD_le cs bb sz wk (laD wk dr)
  have hsv : ∀ p, p < 495 → sdF cs (txV bb sz wk (laD wk dr)) p = if lk = 1 then clN (txV bb sz wk (laD wk dr) p) else 1 := fun p _ => lk_sd hLk _ _ p
  have hwo := hRf.1
  have hwc := hRf.2
  have htot := to_lt hPe hBo (laD wk dr) (sdF cs (txV bb sz wk (laD wk dr)))
  have e1 := cr_eq hBo gr ki ma (laD wk dr) (sdF cs (txV bb sz wk (laD wk dr)))
  have e2 := to_eq hBo gr ki ma (laD wk dr) (sdF cs (txV bb sz wk (laD wk dr)))
  have hts := hTp.1
  have htb := hTp.2.1
  have hbo := hTp.2.2
  refine ⟨.int (nI (ma q)), 10, 30, _, _, by decide, by decide, Or.inl ⟨rfl, _, rfl⟩, Ct.sub [0, 49, 1, 2, 3] rfl rfl ?_ (ct_as_o l g (a 0) (a 1) (a 9) (a 17) (a 24) (a 33) (a 36) (a 39) (a 40) (a 49) ts kp (a 2) (a 3) (a 4) (a 5) (a 6) (a 7) (a 8) gr br cs wk z fi ki ma q kd (hq) (hkd) (hki) (by rw [hkq]; exact hu)), Ct.sub [0, 3, 1] rfl rfl ?_ (ct_nas_o2 l g (b 0) (b 1) (b 2) (b 3) (b 4) (b 5) (b 6) (b 7) (b 8) (b 9) (b 10) (b 11) (b 12) (b 13) (b 14) (b 15) (b 16) (b 17) (b 18) (b 19) ts nta nop npr nac kp nbd 0 nnw nsn nwn fi gr wk lk sz br z ru ki ma bb hd ce q kd (hq) (hkd) (hkq) (hu)), ?_⟩
  · rintro v w ⟨rfl, rfl⟩; rfl
  · rintro v w ⟨rfl, rfl⟩; rfl
  · rintro v1 w1 v2 w2 ⟨wq1, ⟨rfl, rfl⟩, rfl⟩ ⟨wq2, ⟨rfl, rfl⟩, rfl⟩
    refine ⟨rfl, rfl, rel_mk g a b gr wk br cs lk sz z ru ki ma bp bt bb hd dr co ce kgr kwk kbr kcs klk ksz kz kru kki kma kbp kbt kbb khd kdr kco kce kp nkf ts fi tb bo rn0 rc0 ra0 rft f0 tot lat se sw sd li th tw cr by_ va su mk sk wsm tk shF sb sn sv nta nop npr nac nbd nnw nsn nwn nli nal nlo nwi ntr nbg now_ nis nbo nsz nnu ?_ ?_ hPe hBk hBo hLk hRu hKp hTp hSh hCr hRf⟩
    · simp only [e1, e2, xW, nW, xSet, List.set_cons_zero, List.set_cons_succ]
    · simp only [xW, nW, xSet, List.set_cons_zero, List.set_cons_succ]

set_option maxRecDepth 100000 in
set_option maxHeartbeats 4000000 in
theorem pr_as_k3 (l : Launch) (g : XG) (a b : Nat → Nat) (gr wk br cs lk sz : Nat) (z : Int32) (ru ki ma bp bt bb hd dr : Nat → Nat) (co ce : Nat → Int32) (kgr kwk kbr kcs klk ksz : Nat) (kz : Int32) (kru kki kma kbp kbt kbb khd kdr : Nat → Nat) (kco kce : Nat → Int32) (kp : Int32) (nkf : Nat → Int32) (ts : Nat) (fi tb bo : Nat → Nat) (rn0 rc0 ra0 : Nat) (rft : Int32) (f0 : Nat → Int32) (tot lat : Nat) (se sw : Int32) (sd li th tw cr by_ : Nat → Nat) (va su : Nat → Int64) (mk : Nat → Nat) (sk : Nat → Int32) (wsm : Nat → Int64) (tk : Nat → Nat) (shF : Nat → Option Nat) (sb sn : Nat → Nat) (sv : Nat → Nat → Int64) (nta nop npr nac : Nat) (nbd nnw nsn nwn : Int32) (nli nal nlo nwi ntr nbg now_ : Nat → Nat) (nis nbo : Nat → Int32) (nsz : Nat → Nat) (nnu : Nat → Int64) (hPe : PeI gr ki ma) (hBk : BkI wk ce dr) (hBo : BoI br bp bt hd) (hLk : LkI cs co lk sz bb) (hRu : RuI ru) (hKp : KpI kp nkf kgr kwk kbr kcs klk ksz kz kru kki kma kbp kbt kbb khd kdr kco kce) (hTp : TpI ts tb bo) (hSh : ShI a shF sb sn sv nbo nsz nnu) (hCr : CrI gr wk br cs sz ki ma bp bt bb dr tot lat se sw sd cr th tw) (hRf : RfI gr wk cs sz ki ma hd bb dr nnw nsn nwn nli nal nlo nwi nac) (q kd : Nat) (hq : q < gr ∧ gr ≤ 12) (hkd : kd ≤ 7) (hkq : ki q = 3) (hu : udI 3 (nI kd) = 0) : PairP l g yX8_as cX8_as 3 (some .int) [.ref ((a 0)), .int (nI q), .int (nI kd)] yX9_as cX9_as 4 (some .int) [.ref ((b 0)), .int (nI q), .int (nI kd)] (xW g a gr wk br cs z ru ki ma bp bt co ce kgr kwk kbr kcs kz kru kki kma kbp kbt kco kce kp ts fi tb bo rn0 rc0 ra0 rft f0 tot lat se sw sd li th tw cr by_ va su mk sk wsm tk shF sb sn sv) (nW g b gr wk lk sz br z ru ki ma bb ce hd kp nkf ts fi tb nta nop npr nac nbd nnw nsn nwn nli nal nlo nwi ntr nbg now_ nis nbo nsz nnu) (Rel g a b) := by
  have hgr := hPe.1
  have hki := hPe.2.1
  have hma := hPe.2.2
  have hwk := hBk.1
  have hlat := core_lat hBk
  have hL := core_L hBk
  have hbr := hBo.1
  have hbp := hBo.2.1
  have hbt := hBo.2.2.1
  have hhd := hBo.2.2.2.2.2.2
  have hcs := hLk.1
  have hsz := hLk.2.1
  have hbb := hLk.2.2.1
  have hlk := lk_le hLk
  have hV : cs ≠ 0 → ∀ p, p < 495 → evR (nmI wk (laD wk dr) p) (cdF co 0 cs) [] = some [(txV bb sz wk (laD wk dr)) p] := fun q p _ => hLk.2.2.2.2 q wk (laD wk dr) p
  have hse := hCr.1
  have hsw := hCr.2
  have hsd := sdD_le cs bb sz wk (laD wk dr)
  have hsv : ∀ p, p < 495 → sdF cs (txV bb sz wk (laD wk dr)) p = if lk = 1 then clN (txV bb sz wk (laD wk dr) p) else 1 := fun p _ => lk_sd hLk _ _ p
  have hwo := hRf.1
  have hwc := hRf.2
  have htot := to_lt hPe hBo (laD wk dr) (sdF cs (txV bb sz wk (laD wk dr)))
  have e1 := cr_eq hBo gr ki ma (laD wk dr) (sdF cs (txV bb sz wk (laD wk dr)))
  have e2 := to_eq hBo gr ki ma (laD wk dr) (sdF cs (txV bb sz wk (laD wk dr)))
  have hts := hTp.1
  have htb := hTp.2.1
  have hbo := hTp.2.2
  refine ⟨.int (fndI 2), 10, 30, _, _, by decide, by decide, Or.inl ⟨rfl, _, rfl⟩, Ct.sub [0, 49, 1, 2, 3] rfl rfl ?_ (ct_as_k l g (a 0) (a 1) (a 9) (a 17) (a 24) (a 33) (a 36) (a 39) (a 40) (a 49) ts kp (a 2) (a 3) (a 4) (a 5) (a 6) (a 7) (a 8) gr br cs wk z fi ki ma q kd (hq) (hkd) (hki) (by rw [hkq]; exact hu)), Ct.sub [0, 3, 1] rfl rfl ?_ (ct_nas_k3 l g (b 0) (b 1) (b 2) (b 3) (b 4) (b 5) (b 6) (b 7) (b 8) (b 9) (b 10) (b 11) (b 12) (b 13) (b 14) (b 15) (b 16) (b 17) (b 18) (b 19) ts nta nop npr nac kp nbd 0 nnw nsn nwn fi gr wk lk sz br z ru ki ma bb hd ce q kd (hq) (hkd) (hkq) (hu)), ?_⟩
  · rintro v w ⟨rfl, rfl⟩; rfl
  · rintro v w ⟨rfl, rfl⟩; rfl
  · rintro v1 w1 v2 w2 ⟨wq1, ⟨rfl, rfl⟩, rfl⟩ ⟨wq2, ⟨rfl, rfl⟩, rfl⟩
    refine ⟨rfl, rfl, rel_mk g a b gr wk br cs lk sz z ru ki ma bp bt bb hd dr co ce kgr kwk kbr kcs klk ksz kz kru kki kma kbp kbt kbb khd kdr kco kce kp nkf ts (updN fi 2 (fi 2 + 1)) tb bo rn0 rc0 ra0 rft f0 tot lat se sw sd li th tw cr by_ va su mk sk wsm tk shF sb sn sv nta nop npr nac nbd nnw nsn nwn nli nal nlo nwi ntr nbg now_ nis nbo nsz nnu ?_ ?_ hPe hBk hBo hLk hRu hKp hTp hSh hCr hRf⟩
    · simp only [e1, e2, xW, nW, xSet, List.set_cons_zero, List.set_cons_succ]
    · simp only [xW, nW, xSet, List.set_cons_zero, List.set_cons_succ]

set_option maxRecDepth 100000 in
set_option maxHeartbeats 4000000 in
theorem pr_as_o3 (l : Launch) (g : XG) (a b : Nat → Nat) (gr wk br cs lk sz : Nat) (z : Int32) (ru ki ma bp bt bb hd dr : Nat → Nat) (co ce : Nat → Int32) (kgr kwk kbr kcs klk ksz : Nat) (kz : Int32) (kru kki kma kbp kbt kbb khd kdr : Nat → Nat) (kco kce : Nat → Int32) (kp : Int32) (nkf : Nat → Int32) (ts : Nat) (fi tb bo : Nat → Nat) (rn0 rc0 ra0 : Nat) (rft : Int32) (f0 : Nat → Int32) (tot lat : Nat) (se sw : Int32) (sd li th tw cr by_ : Nat → Nat) (va su : Nat → Int64) (mk : Nat → Nat) (sk : Nat → Int32) (wsm : Nat → Int64) (tk : Nat → Nat) (shF : Nat → Option Nat) (sb sn : Nat → Nat) (sv : Nat → Nat → Int64) (nta nop npr nac : Nat) (nbd nnw nsn nwn : Int32) (nli nal nlo nwi ntr nbg now_ : Nat → Nat) (nis nbo : Nat → Int32) (nsz : Nat → Nat) (nnu : Nat → Int64) (hPe : PeI gr ki ma) (hBk : BkI wk ce dr) (hBo : BoI br bp bt hd) (hLk : LkI cs co lk sz bb) (hRu : RuI ru) (hKp : KpI kp nkf kgr kwk kbr kcs klk ksz kz kru kki kma kbp kbt kbb khd kdr kco kce) (hTp : TpI ts tb bo) (hSh : ShI a shF sb sn sv nbo nsz nnu) (hCr : CrI gr wk br cs sz ki ma bp bt bb dr tot lat se sw sd cr th tw) (hRf : RfI gr wk cs sz ki ma hd bb dr nnw nsn nwn nli nal nlo nwi nac) (q kd : Nat) (hq : q < gr ∧ gr ≤ 12) (hkd : kd ≤ 7) (hkq : ki q = 3) (hu : udI 3 (nI kd) = 1) : PairP l g yX8_as cX8_as 3 (some .int) [.ref ((a 0)), .int (nI q), .int (nI kd)] yX9_as cX9_as 4 (some .int) [.ref ((b 0)), .int (nI q), .int (nI kd)] (xW g a gr wk br cs z ru ki ma bp bt co ce kgr kwk kbr kcs kz kru kki kma kbp kbt kco kce kp ts fi tb bo rn0 rc0 ra0 rft f0 tot lat se sw sd li th tw cr by_ va su mk sk wsm tk shF sb sn sv) (nW g b gr wk lk sz br z ru ki ma bb ce hd kp nkf ts fi tb nta nop npr nac nbd nnw nsn nwn nli nal nlo nwi ntr nbg now_ nis nbo nsz nnu) (Rel g a b) := by
  have hgr := hPe.1
  have hki := hPe.2.1
  have hma := hPe.2.2
  have hwk := hBk.1
  have hlat := core_lat hBk
  have hL := core_L hBk
  have hbr := hBo.1
  have hbp := hBo.2.1
  have hbt := hBo.2.2.1
  have hhd := hBo.2.2.2.2.2.2
  have hcs := hLk.1
  have hsz := hLk.2.1
  have hbb := hLk.2.2.1
  have hlk := lk_le hLk
  have hV : cs ≠ 0 → ∀ p, p < 495 → evR (nmI wk (laD wk dr) p) (cdF co 0 cs) [] = some [(txV bb sz wk (laD wk dr)) p] := fun q p _ => hLk.2.2.2.2 q wk (laD wk dr) p
  have hse := hCr.1
  have hsw := hCr.2
  have hsd := sdD_le cs bb sz wk (laD wk dr)
  have hsv : ∀ p, p < 495 → sdF cs (txV bb sz wk (laD wk dr)) p = if lk = 1 then clN (txV bb sz wk (laD wk dr) p) else 1 := fun p _ => lk_sd hLk _ _ p
  have hwo := hRf.1
  have hwc := hRf.2
  have htot := to_lt hPe hBo (laD wk dr) (sdF cs (txV bb sz wk (laD wk dr)))
  have e1 := cr_eq hBo gr ki ma (laD wk dr) (sdF cs (txV bb sz wk (laD wk dr)))
  have e2 := to_eq hBo gr ki ma (laD wk dr) (sdF cs (txV bb sz wk (laD wk dr)))
  have hts := hTp.1
  have htb := hTp.2.1
  have hbo := hTp.2.2
  refine ⟨.int (nI (ma q)), 10, 30, _, _, by decide, by decide, Or.inl ⟨rfl, _, rfl⟩, Ct.sub [0, 49, 1, 2, 3] rfl rfl ?_ (ct_as_o l g (a 0) (a 1) (a 9) (a 17) (a 24) (a 33) (a 36) (a 39) (a 40) (a 49) ts kp (a 2) (a 3) (a 4) (a 5) (a 6) (a 7) (a 8) gr br cs wk z fi ki ma q kd (hq) (hkd) (hki) (by rw [hkq]; exact hu)), Ct.sub [0, 3, 1] rfl rfl ?_ (ct_nas_o3 l g (b 0) (b 1) (b 2) (b 3) (b 4) (b 5) (b 6) (b 7) (b 8) (b 9) (b 10) (b 11) (b 12) (b 13) (b 14) (b 15) (b 16) (b 17) (b 18) (b 19) ts nta nop npr nac kp nbd 0 nnw nsn nwn fi gr wk lk sz br z ru ki ma bb hd ce q kd (hq) (hkd) (hkq) (hu)), ?_⟩
  · rintro v w ⟨rfl, rfl⟩; rfl
  · rintro v w ⟨rfl, rfl⟩; rfl
  · rintro v1 w1 v2 w2 ⟨wq1, ⟨rfl, rfl⟩, rfl⟩ ⟨wq2, ⟨rfl, rfl⟩, rfl⟩
    refine ⟨rfl, rfl, rel_mk g a b gr wk br cs lk sz z ru ki ma bp bt bb hd dr co ce kgr kwk kbr kcs klk ksz kz kru kki kma kbp kbt kbb khd kdr kco kce kp nkf ts fi tb bo rn0 rc0 ra0 rft f0 tot lat se sw sd li th tw cr by_ va su mk sk wsm tk shF sb sn sv nta nop npr nac nbd nnw nsn nwn nli nal nlo nwi ntr nbg now_ nis nbo nsz nnu ?_ ?_ hPe hBk hBo hLk hRu hKp hTp hSh hCr hRf⟩
    · simp only [e1, e2, xW, nW, xSet, List.set_cons_zero, List.set_cons_succ]
    · simp only [xW, nW, xSet, List.set_cons_zero, List.set_cons_succ]

set_option maxRecDepth 100000 in
set_option maxHeartbeats 4000000 in
theorem pr_as_k4 (l : Launch) (g : XG) (a b : Nat → Nat) (gr wk br cs lk sz : Nat) (z : Int32) (ru ki ma bp bt bb hd dr : Nat → Nat) (co ce : Nat → Int32) (kgr kwk kbr kcs klk ksz : Nat) (kz : Int32) (kru kki kma kbp kbt kbb khd kdr : Nat → Nat) (kco kce : Nat → Int32) (kp : Int32) (nkf : Nat → Int32) (ts : Nat) (fi tb bo : Nat → Nat) (rn0 rc0 ra0 : Nat) (rft : Int32) (f0 : Nat → Int32) (tot lat : Nat) (se sw : Int32) (sd li th tw cr by_ : Nat → Nat) (va su : Nat → Int64) (mk : Nat → Nat) (sk : Nat → Int32) (wsm : Nat → Int64) (tk : Nat → Nat) (shF : Nat → Option Nat) (sb sn : Nat → Nat) (sv : Nat → Nat → Int64) (nta nop npr nac : Nat) (nbd nnw nsn nwn : Int32) (nli nal nlo nwi ntr nbg now_ : Nat → Nat) (nis nbo : Nat → Int32) (nsz : Nat → Nat) (nnu : Nat → Int64) (hPe : PeI gr ki ma) (hBk : BkI wk ce dr) (hBo : BoI br bp bt hd) (hLk : LkI cs co lk sz bb) (hRu : RuI ru) (hKp : KpI kp nkf kgr kwk kbr kcs klk ksz kz kru kki kma kbp kbt kbb khd kdr kco kce) (hTp : TpI ts tb bo) (hSh : ShI a shF sb sn sv nbo nsz nnu) (hCr : CrI gr wk br cs sz ki ma bp bt bb dr tot lat se sw sd cr th tw) (hRf : RfI gr wk cs sz ki ma hd bb dr nnw nsn nwn nli nal nlo nwi nac) (q kd : Nat) (hq : q < gr ∧ gr ≤ 12) (hkd : kd ≤ 7) (hkq : ki q = 4) (hu : udI 4 (nI kd) = 0) : PairP l g yX8_as cX8_as 3 (some .int) [.ref ((a 0)), .int (nI q), .int (nI kd)] yX9_as cX9_as 4 (some .int) [.ref ((b 0)), .int (nI q), .int (nI kd)] (xW g a gr wk br cs z ru ki ma bp bt co ce kgr kwk kbr kcs kz kru kki kma kbp kbt kco kce kp ts fi tb bo rn0 rc0 ra0 rft f0 tot lat se sw sd li th tw cr by_ va su mk sk wsm tk shF sb sn sv) (nW g b gr wk lk sz br z ru ki ma bb ce hd kp nkf ts fi tb nta nop npr nac nbd nnw nsn nwn nli nal nlo nwi ntr nbg now_ nis nbo nsz nnu) (Rel g a b) := by
  have hgr := hPe.1
  have hki := hPe.2.1
  have hma := hPe.2.2
  have hwk := hBk.1
  have hlat := core_lat hBk
  have hL := core_L hBk
  have hbr := hBo.1
  have hbp := hBo.2.1
  have hbt := hBo.2.2.1
  have hhd := hBo.2.2.2.2.2.2
  have hcs := hLk.1
  have hsz := hLk.2.1
  have hbb := hLk.2.2.1
  have hlk := lk_le hLk
  have hV : cs ≠ 0 → ∀ p, p < 495 → evR (nmI wk (laD wk dr) p) (cdF co 0 cs) [] = some [(txV bb sz wk (laD wk dr)) p] := fun q p _ => hLk.2.2.2.2 q wk (laD wk dr) p
  have hse := hCr.1
  have hsw := hCr.2
  have hsd := sdD_le cs bb sz wk (laD wk dr)
  have hsv : ∀ p, p < 495 → sdF cs (txV bb sz wk (laD wk dr)) p = if lk = 1 then clN (txV bb sz wk (laD wk dr) p) else 1 := fun p _ => lk_sd hLk _ _ p
  have hwo := hRf.1
  have hwc := hRf.2
  have htot := to_lt hPe hBo (laD wk dr) (sdF cs (txV bb sz wk (laD wk dr)))
  have e1 := cr_eq hBo gr ki ma (laD wk dr) (sdF cs (txV bb sz wk (laD wk dr)))
  have e2 := to_eq hBo gr ki ma (laD wk dr) (sdF cs (txV bb sz wk (laD wk dr)))
  have hts := hTp.1
  have htb := hTp.2.1
  have hbo := hTp.2.2
  refine ⟨.int (fndI 2), 10, 30, _, _, by decide, by decide, Or.inl ⟨rfl, _, rfl⟩, Ct.sub [0, 49, 1, 2, 3] rfl rfl ?_ (ct_as_k l g (a 0) (a 1) (a 9) (a 17) (a 24) (a 33) (a 36) (a 39) (a 40) (a 49) ts kp (a 2) (a 3) (a 4) (a 5) (a 6) (a 7) (a 8) gr br cs wk z fi ki ma q kd (hq) (hkd) (hki) (by rw [hkq]; exact hu)), Ct.sub [0, 3, 1] rfl rfl ?_ (ct_nas_k4 l g (b 0) (b 1) (b 2) (b 3) (b 4) (b 5) (b 6) (b 7) (b 8) (b 9) (b 10) (b 11) (b 12) (b 13) (b 14) (b 15) (b 16) (b 17) (b 18) (b 19) ts nta nop npr nac kp nbd 0 nnw nsn nwn fi gr wk lk sz br z ru ki ma bb hd ce q kd (hq) (hkd) (hkq) (hu)), ?_⟩
  · rintro v w ⟨rfl, rfl⟩; rfl
  · rintro v w ⟨rfl, rfl⟩; rfl
  · rintro v1 w1 v2 w2 ⟨wq1, ⟨rfl, rfl⟩, rfl⟩ ⟨wq2, ⟨rfl, rfl⟩, rfl⟩
    refine ⟨rfl, rfl, rel_mk g a b gr wk br cs lk sz z ru ki ma bp bt bb hd dr co ce kgr kwk kbr kcs klk ksz kz kru kki kma kbp kbt kbb khd kdr kco kce kp nkf ts (updN fi 2 (fi 2 + 1)) tb bo rn0 rc0 ra0 rft f0 tot lat se sw sd li th tw cr by_ va su mk sk wsm tk shF sb sn sv nta nop npr nac nbd nnw nsn nwn nli nal nlo nwi ntr nbg now_ nis nbo nsz nnu ?_ ?_ hPe hBk hBo hLk hRu hKp hTp hSh hCr hRf⟩
    · simp only [e1, e2, xW, nW, xSet, List.set_cons_zero, List.set_cons_succ]
    · simp only [xW, nW, xSet, List.set_cons_zero, List.set_cons_succ]

set_option maxRecDepth 100000 in
set_option maxHeartbeats 4000000 in
theorem pr_as_o4 (l : Launch) (g : XG) (a b : Nat → Nat) (gr wk br cs lk sz : Nat) (z : Int32) (ru ki ma bp bt bb hd dr : Nat → Nat) (co ce : Nat → Int32) (kgr kwk kbr kcs klk ksz : Nat) (kz : Int32) (kru kki kma kbp kbt kbb khd kdr : Nat → Nat) (kco kce : Nat → Int32) (kp : Int32) (nkf : Nat → Int32) (ts : Nat) (fi tb bo : Nat → Nat) (rn0 rc0 ra0 : Nat) (rft : Int32) (f0 : Nat → Int32) (tot lat : Nat) (se sw : Int32) (sd li th tw cr by_ : Nat → Nat) (va su : Nat → Int64) (mk : Nat → Nat) (sk : Nat → Int32) (wsm : Nat → Int64) (tk : Nat → Nat) (shF : Nat → Option Nat) (sb sn : Nat → Nat) (sv : Nat → Nat → Int64) (nta nop npr nac : Nat) (nbd nnw nsn nwn : Int32) (nli nal nlo nwi ntr nbg now_ : Nat → Nat) (nis nbo : Nat → Int32) (nsz : Nat → Nat) (nnu : Nat → Int64) (hPe : PeI gr ki ma) (hBk : BkI wk ce dr) (hBo : BoI br bp bt hd) (hLk : LkI cs co lk sz bb) (hRu : RuI ru) (hKp : KpI kp nkf kgr kwk kbr kcs klk ksz kz kru kki kma kbp kbt kbb khd kdr kco kce) (hTp : TpI ts tb bo) (hSh : ShI a shF sb sn sv nbo nsz nnu) (hCr : CrI gr wk br cs sz ki ma bp bt bb dr tot lat se sw sd cr th tw) (hRf : RfI gr wk cs sz ki ma hd bb dr nnw nsn nwn nli nal nlo nwi nac) (q kd : Nat) (hq : q < gr ∧ gr ≤ 12) (hkd : kd ≤ 7) (hkq : ki q = 4) (hu : udI 4 (nI kd) = 1) : PairP l g yX8_as cX8_as 3 (some .int) [.ref ((a 0)), .int (nI q), .int (nI kd)] yX9_as cX9_as 4 (some .int) [.ref ((b 0)), .int (nI q), .int (nI kd)] (xW g a gr wk br cs z ru ki ma bp bt co ce kgr kwk kbr kcs kz kru kki kma kbp kbt kco kce kp ts fi tb bo rn0 rc0 ra0 rft f0 tot lat se sw sd li th tw cr by_ va su mk sk wsm tk shF sb sn sv) (nW g b gr wk lk sz br z ru ki ma bb ce hd kp nkf ts fi tb nta nop npr nac nbd nnw nsn nwn nli nal nlo nwi ntr nbg now_ nis nbo nsz nnu) (Rel g a b) := by
  have hgr := hPe.1
  have hki := hPe.2.1
  have hma := hPe.2.2
  have hwk := hBk.1
  have hlat := core_lat hBk
  have hL := core_L hBk
  have hbr := hBo.1
  have hbp := hBo.2.1
  have hbt := hBo.2.2.1
  have hhd := hBo.2.2.2.2.2.2
  have hcs := hLk.1
  have hsz := hLk.2.1
  have hbb := hLk.2.2.1
  have hlk := lk_le hLk
  have hV : cs ≠ 0 → ∀ p, p < 495 → evR (nmI wk (laD wk dr) p) (cdF co 0 cs) [] = some [(txV bb sz wk (laD wk dr)) p] := fun q p _ => hLk.2.2.2.2 q wk (laD wk dr) p
  have hse := hCr.1
  have hsw := hCr.2
  have hsd := sdD_le cs bb sz wk (laD wk dr)
  have hsv : ∀ p, p < 495 → sdF cs (txV bb sz wk (laD wk dr)) p = if lk = 1 then clN (txV bb sz wk (laD wk dr) p) else 1 := fun p _ => lk_sd hLk _ _ p
  have hwo := hRf.1
  have hwc := hRf.2
  have htot := to_lt hPe hBo (laD wk dr) (sdF cs (txV bb sz wk (laD wk dr)))
  have e1 := cr_eq hBo gr ki ma (laD wk dr) (sdF cs (txV bb sz wk (laD wk dr)))
  have e2 := to_eq hBo gr ki ma (laD wk dr) (sdF cs (txV bb sz wk (laD wk dr)))
  have hts := hTp.1
  have htb := hTp.2.1
  have hbo := hTp.2.2
  refine ⟨.int (nI (ma q)), 10, 30, _, _, by decide, by decide, Or.inl ⟨rfl, _, rfl⟩, Ct.sub [0, 49, 1, 2, 3] rfl rfl ?_ (ct_as_o l g (a 0) (a 1) (a 9) (a 17) (a 24) (a 33) (a 36) (a 39) (a 40) (a 49) ts kp (a 2) (a 3) (a 4) (a 5) (a 6) (a 7) (a 8) gr br cs wk z fi ki ma q kd (hq) (hkd) (hki) (by rw [hkq]; exact hu)), Ct.sub [0, 3, 1] rfl rfl ?_ (ct_nas_o4 l g (b 0) (b 1) (b 2) (b 3) (b 4) (b 5) (b 6) (b 7) (b 8) (b 9) (b 10) (b 11) (b 12) (b 13) (b 14) (b 15) (b 16) (b 17) (b 18) (b 19) ts nta nop npr nac kp nbd 0 nnw nsn nwn fi gr wk lk sz br z ru ki ma bb hd ce q kd (hq) (hkd) (hkq) (hu)), ?_⟩
  · rintro v w ⟨rfl, rfl⟩; rfl
  · rintro v w ⟨rfl, rfl⟩; rfl
  · rintro v1 w1 v2 w2 ⟨wq1, ⟨rfl, rfl⟩, rfl⟩ ⟨wq2, ⟨rfl, rfl⟩, rfl⟩
    refine ⟨rfl, rfl, rel_mk g a b gr wk br cs lk sz z ru ki ma bp bt bb hd dr co ce kgr kwk kbr kcs klk ksz kz kru kki kma kbp kbt kbb khd kdr kco kce kp nkf ts fi tb bo rn0 rc0 ra0 rft f0 tot lat se sw sd li th tw cr by_ va su mk sk wsm tk shF sb sn sv nta nop npr nac nbd nnw nsn nwn nli nal nlo nwi ntr nbg now_ nis nbo nsz nnu ?_ ?_ hPe hBk hBo hLk hRu hKp hTp hSh hCr hRf⟩
    · simp only [e1, e2, xW, nW, xSet, List.set_cons_zero, List.set_cons_succ]
    · simp only [xW, nW, xSet, List.set_cons_zero, List.set_cons_succ]

set_option maxRecDepth 100000 in
set_option maxHeartbeats 4000000 in
theorem pr_as_k5 (l : Launch) (g : XG) (a b : Nat → Nat) (gr wk br cs lk sz : Nat) (z : Int32) (ru ki ma bp bt bb hd dr : Nat → Nat) (co ce : Nat → Int32) (kgr kwk kbr kcs klk ksz : Nat) (kz : Int32) (kru kki kma kbp kbt kbb khd kdr : Nat → Nat) (kco kce : Nat → Int32) (kp : Int32) (nkf : Nat → Int32) (ts : Nat) (fi tb bo : Nat → Nat) (rn0 rc0 ra0 : Nat) (rft : Int32) (f0 : Nat → Int32) (tot lat : Nat) (se sw : Int32) (sd li th tw cr by_ : Nat → Nat) (va su : Nat → Int64) (mk : Nat → Nat) (sk : Nat → Int32) (wsm : Nat → Int64) (tk : Nat → Nat) (shF : Nat → Option Nat) (sb sn : Nat → Nat) (sv : Nat → Nat → Int64) (nta nop npr nac : Nat) (nbd nnw nsn nwn : Int32) (nli nal nlo nwi ntr nbg now_ : Nat → Nat) (nis nbo : Nat → Int32) (nsz : Nat → Nat) (nnu : Nat → Int64) (hPe : PeI gr ki ma) (hBk : BkI wk ce dr) (hBo : BoI br bp bt hd) (hLk : LkI cs co lk sz bb) (hRu : RuI ru) (hKp : KpI kp nkf kgr kwk kbr kcs klk ksz kz kru kki kma kbp kbt kbb khd kdr kco kce) (hTp : TpI ts tb bo) (hSh : ShI a shF sb sn sv nbo nsz nnu) (hCr : CrI gr wk br cs sz ki ma bp bt bb dr tot lat se sw sd cr th tw) (hRf : RfI gr wk cs sz ki ma hd bb dr nnw nsn nwn nli nal nlo nwi nac) (q kd : Nat) (hq : q < gr ∧ gr ≤ 12) (hkd : kd ≤ 7) (hkq : ki q = 5) (hu : udI 5 (nI kd) = 0) : PairP l g yX8_as cX8_as 3 (some .int) [.ref ((a 0)), .int (nI q), .int (nI kd)] yX9_as cX9_as 4 (some .int) [.ref ((b 0)), .int (nI q), .int (nI kd)] (xW g a gr wk br cs z ru ki ma bp bt co ce kgr kwk kbr kcs kz kru kki kma kbp kbt kco kce kp ts fi tb bo rn0 rc0 ra0 rft f0 tot lat se sw sd li th tw cr by_ va su mk sk wsm tk shF sb sn sv) (nW g b gr wk lk sz br z ru ki ma bb ce hd kp nkf ts fi tb nta nop npr nac nbd nnw nsn nwn nli nal nlo nwi ntr nbg now_ nis nbo nsz nnu) (Rel g a b) := by
  have hgr := hPe.1
  have hki := hPe.2.1
  have hma := hPe.2.2
  have hwk := hBk.1
  have hlat := core_lat hBk
  have hL := core_L hBk
  have hbr := hBo.1
  have hbp := hBo.2.1
  have hbt := hBo.2.2.1
  have hhd := hBo.2.2.2.2.2.2
  have hcs := hLk.1
  have hsz := hLk.2.1
  have hbb := hLk.2.2.1
  have hlk := lk_le hLk
  have hV : cs ≠ 0 → ∀ p, p < 495 → evR (nmI wk (laD wk dr) p) (cdF co 0 cs) [] = some [(txV bb sz wk (laD wk dr)) p] := fun q p _ => hLk.2.2.2.2 q wk (laD wk dr) p
  have hse := hCr.1
  have hsw := hCr.2
  have hsd := sdD_le cs bb sz wk (laD wk dr)
  have hsv : ∀ p, p < 495 → sdF cs (txV bb sz wk (laD wk dr)) p = if lk = 1 then clN (txV bb sz wk (laD wk dr) p) else 1 := fun p _ => lk_sd hLk _ _ p
  have hwo := hRf.1
  have hwc := hRf.2
  have htot := to_lt hPe hBo (laD wk dr) (sdF cs (txV bb sz wk (laD wk dr)))
  have e1 := cr_eq hBo gr ki ma (laD wk dr) (sdF cs (txV bb sz wk (laD wk dr)))
  have e2 := to_eq hBo gr ki ma (laD wk dr) (sdF cs (txV bb sz wk (laD wk dr)))
  have hts := hTp.1
  have htb := hTp.2.1
  have hbo := hTp.2.2
  refine ⟨.int (fndI 2), 10, 30, _, _, by decide, by decide, Or.inl ⟨rfl, _, rfl⟩, Ct.sub [0, 49, 1, 2, 3] rfl rfl ?_ (ct_as_k l g (a 0) (a 1) (a 9) (a 17) (a 24) (a 33) (a 36) (a 39) (a 40) (a 49) ts kp (a 2) (a 3) (a 4) (a 5) (a 6) (a 7) (a 8) gr br cs wk z fi ki ma q kd (hq) (hkd) (hki) (by rw [hkq]; exact hu)), Ct.sub [0, 3, 1] rfl rfl ?_ (ct_nas_k5 l g (b 0) (b 1) (b 2) (b 3) (b 4) (b 5) (b 6) (b 7) (b 8) (b 9) (b 10) (b 11) (b 12) (b 13) (b 14) (b 15) (b 16) (b 17) (b 18) (b 19) ts nta nop npr nac kp nbd 0 nnw nsn nwn fi gr wk lk sz br z ru ki ma bb hd ce q kd (hq) (hkd) (hkq) (hu)), ?_⟩
  · rintro v w ⟨rfl, rfl⟩; rfl
  · rintro v w ⟨rfl, rfl⟩; rfl
  · rintro v1 w1 v2 w2 ⟨wq1, ⟨rfl, rfl⟩, rfl⟩ ⟨wq2, ⟨rfl, rfl⟩, rfl⟩
    refine ⟨rfl, rfl, rel_mk g a b gr wk br cs lk sz z ru ki ma bp bt bb hd dr co ce kgr kwk kbr kcs klk ksz kz kru kki kma kbp kbt kbb khd kdr kco kce kp nkf ts (updN fi 2 (fi 2 + 1)) tb bo rn0 rc0 ra0 rft f0 tot lat se sw sd li th tw cr by_ va su mk sk wsm tk shF sb sn sv nta nop npr nac nbd nnw nsn nwn nli nal nlo nwi ntr nbg now_ nis nbo nsz nnu ?_ ?_ hPe hBk hBo hLk hRu hKp hTp hSh hCr hRf⟩
    · simp only [e1, e2, xW, nW, xSet, List.set_cons_zero, List.set_cons_succ]
    · simp only [xW, nW, xSet, List.set_cons_zero, List.set_cons_succ]

set_option maxRecDepth 100000 in
set_option maxHeartbeats 4000000 in
theorem pr_as_o5 (l : Launch) (g : XG) (a b : Nat → Nat) (gr wk br cs lk sz : Nat) (z : Int32) (ru ki ma bp bt bb hd dr : Nat → Nat) (co ce : Nat → Int32) (kgr kwk kbr kcs klk ksz : Nat) (kz : Int32) (kru kki kma kbp kbt kbb khd kdr : Nat → Nat) (kco kce : Nat → Int32) (kp : Int32) (nkf : Nat → Int32) (ts : Nat) (fi tb bo : Nat → Nat) (rn0 rc0 ra0 : Nat) (rft : Int32) (f0 : Nat → Int32) (tot lat : Nat) (se sw : Int32) (sd li th tw cr by_ : Nat → Nat) (va su : Nat → Int64) (mk : Nat → Nat) (sk : Nat → Int32) (wsm : Nat → Int64) (tk : Nat → Nat) (shF : Nat → Option Nat) (sb sn : Nat → Nat) (sv : Nat → Nat → Int64) (nta nop npr nac : Nat) (nbd nnw nsn nwn : Int32) (nli nal nlo nwi ntr nbg now_ : Nat → Nat) (nis nbo : Nat → Int32) (nsz : Nat → Nat) (nnu : Nat → Int64) (hPe : PeI gr ki ma) (hBk : BkI wk ce dr) (hBo : BoI br bp bt hd) (hLk : LkI cs co lk sz bb) (hRu : RuI ru) (hKp : KpI kp nkf kgr kwk kbr kcs klk ksz kz kru kki kma kbp kbt kbb khd kdr kco kce) (hTp : TpI ts tb bo) (hSh : ShI a shF sb sn sv nbo nsz nnu) (hCr : CrI gr wk br cs sz ki ma bp bt bb dr tot lat se sw sd cr th tw) (hRf : RfI gr wk cs sz ki ma hd bb dr nnw nsn nwn nli nal nlo nwi nac) (q kd : Nat) (hq : q < gr ∧ gr ≤ 12) (hkd : kd ≤ 7) (hkq : ki q = 5) (hu : udI 5 (nI kd) = 1) : PairP l g yX8_as cX8_as 3 (some .int) [.ref ((a 0)), .int (nI q), .int (nI kd)] yX9_as cX9_as 4 (some .int) [.ref ((b 0)), .int (nI q), .int (nI kd)] (xW g a gr wk br cs z ru ki ma bp bt co ce kgr kwk kbr kcs kz kru kki kma kbp kbt kco kce kp ts fi tb bo rn0 rc0 ra0 rft f0 tot lat se sw sd li th tw cr by_ va su mk sk wsm tk shF sb sn sv) (nW g b gr wk lk sz br z ru ki ma bb ce hd kp nkf ts fi tb nta nop npr nac nbd nnw nsn nwn nli nal nlo nwi ntr nbg now_ nis nbo nsz nnu) (Rel g a b) := by
  have hgr := hPe.1
  have hki := hPe.2.1
  have hma := hPe.2.2
  have hwk := hBk.1
  have hlat := core_lat hBk
  have hL := core_L hBk
  have hbr := hBo.1
  have hbp := hBo.2.1
  have hbt := hBo.2.2.1
  have hhd := hBo.2.2.2.2.2.2
  have hcs := hLk.1
  have hsz := hLk.2.1
  have hbb := hLk.2.2.1
  have hlk := lk_le hLk
  have hV : cs ≠ 0 → ∀ p, p < 495 → evR (nmI wk (laD wk dr) p) (cdF co 0 cs) [] = some [(txV bb sz wk (laD wk dr)) p] := fun q p _ => hLk.2.2.2.2 q wk (laD wk dr) p
  have hse := hCr.1
  have hsw := hCr.2
  have hsd := sdD_le cs bb sz wk (laD wk dr)
  have hsv : ∀ p, p < 495 → sdF cs (txV bb sz wk (laD wk dr)) p = if lk = 1 then clN (txV bb sz wk (laD wk dr) p) else 1 := fun p _ => lk_sd hLk _ _ p
  have hwo := hRf.1
  have hwc := hRf.2
  have htot := to_lt hPe hBo (laD wk dr) (sdF cs (txV bb sz wk (laD wk dr)))
  have e1 := cr_eq hBo gr ki ma (laD wk dr) (sdF cs (txV bb sz wk (laD wk dr)))
  have e2 := to_eq hBo gr ki ma (laD wk dr) (sdF cs (txV bb sz wk (laD wk dr)))
  have hts := hTp.1
  have htb := hTp.2.1
  have hbo := hTp.2.2
  refine ⟨.int (nI (ma q)), 10, 30, _, _, by decide, by decide, Or.inl ⟨rfl, _, rfl⟩, Ct.sub [0, 49, 1, 2, 3] rfl rfl ?_ (ct_as_o l g (a 0) (a 1) (a 9) (a 17) (a 24) (a 33) (a 36) (a 39) (a 40) (a 49) ts kp (a 2) (a 3) (a 4) (a 5) (a 6) (a 7) (a 8) gr br cs wk z fi ki ma q kd (hq) (hkd) (hki) (by rw [hkq]; exact hu)), Ct.sub [0, 3, 1] rfl rfl ?_ (ct_nas_o5 l g (b 0) (b 1) (b 2) (b 3) (b 4) (b 5) (b 6) (b 7) (b 8) (b 9) (b 10) (b 11) (b 12) (b 13) (b 14) (b 15) (b 16) (b 17) (b 18) (b 19) ts nta nop npr nac kp nbd 0 nnw nsn nwn fi gr wk lk sz br z ru ki ma bb hd ce q kd (hq) (hkd) (hkq) (hu)), ?_⟩
  · rintro v w ⟨rfl, rfl⟩; rfl
  · rintro v w ⟨rfl, rfl⟩; rfl
  · rintro v1 w1 v2 w2 ⟨wq1, ⟨rfl, rfl⟩, rfl⟩ ⟨wq2, ⟨rfl, rfl⟩, rfl⟩
    refine ⟨rfl, rfl, rel_mk g a b gr wk br cs lk sz z ru ki ma bp bt bb hd dr co ce kgr kwk kbr kcs klk ksz kz kru kki kma kbp kbt kbb khd kdr kco kce kp nkf ts fi tb bo rn0 rc0 ra0 rft f0 tot lat se sw sd li th tw cr by_ va su mk sk wsm tk shF sb sn sv nta nop npr nac nbd nnw nsn nwn nli nal nlo nwi ntr nbg now_ nis nbo nsz nnu ?_ ?_ hPe hBk hBo hLk hRu hKp hTp hSh hCr hRf⟩
    · simp only [e1, e2, xW, nW, xSet, List.set_cons_zero, List.set_cons_succ]
    · simp only [xW, nW, xSet, List.set_cons_zero, List.set_cons_succ]

set_option maxRecDepth 100000 in
set_option maxHeartbeats 4000000 in
theorem pr_as_k6 (l : Launch) (g : XG) (a b : Nat → Nat) (gr wk br cs lk sz : Nat) (z : Int32) (ru ki ma bp bt bb hd dr : Nat → Nat) (co ce : Nat → Int32) (kgr kwk kbr kcs klk ksz : Nat) (kz : Int32) (kru kki kma kbp kbt kbb khd kdr : Nat → Nat) (kco kce : Nat → Int32) (kp : Int32) (nkf : Nat → Int32) (ts : Nat) (fi tb bo : Nat → Nat) (rn0 rc0 ra0 : Nat) (rft : Int32) (f0 : Nat → Int32) (tot lat : Nat) (se sw : Int32) (sd li th tw cr by_ : Nat → Nat) (va su : Nat → Int64) (mk : Nat → Nat) (sk : Nat → Int32) (wsm : Nat → Int64) (tk : Nat → Nat) (shF : Nat → Option Nat) (sb sn : Nat → Nat) (sv : Nat → Nat → Int64) (nta nop npr nac : Nat) (nbd nnw nsn nwn : Int32) (nli nal nlo nwi ntr nbg now_ : Nat → Nat) (nis nbo : Nat → Int32) (nsz : Nat → Nat) (nnu : Nat → Int64) (hPe : PeI gr ki ma) (hBk : BkI wk ce dr) (hBo : BoI br bp bt hd) (hLk : LkI cs co lk sz bb) (hRu : RuI ru) (hKp : KpI kp nkf kgr kwk kbr kcs klk ksz kz kru kki kma kbp kbt kbb khd kdr kco kce) (hTp : TpI ts tb bo) (hSh : ShI a shF sb sn sv nbo nsz nnu) (hCr : CrI gr wk br cs sz ki ma bp bt bb dr tot lat se sw sd cr th tw) (hRf : RfI gr wk cs sz ki ma hd bb dr nnw nsn nwn nli nal nlo nwi nac) (q kd : Nat) (hq : q < gr ∧ gr ≤ 12) (hkd : kd ≤ 7) (hkq : ki q = 6) (hu : udI 6 (nI kd) = 0) : PairP l g yX8_as cX8_as 3 (some .int) [.ref ((a 0)), .int (nI q), .int (nI kd)] yX9_as cX9_as 4 (some .int) [.ref ((b 0)), .int (nI q), .int (nI kd)] (xW g a gr wk br cs z ru ki ma bp bt co ce kgr kwk kbr kcs kz kru kki kma kbp kbt kco kce kp ts fi tb bo rn0 rc0 ra0 rft f0 tot lat se sw sd li th tw cr by_ va su mk sk wsm tk shF sb sn sv) (nW g b gr wk lk sz br z ru ki ma bb ce hd kp nkf ts fi tb nta nop npr nac nbd nnw nsn nwn nli nal nlo nwi ntr nbg now_ nis nbo nsz nnu) (Rel g a b) := by
  have hgr := hPe.1
  have hki := hPe.2.1
  have hma := hPe.2.2
  have hwk := hBk.1
  have hlat := core_lat hBk
  have hL := core_L hBk
  have hbr := hBo.1
  have hbp := hBo.2.1
  have hbt := hBo.2.2.1
  have hhd := hBo.2.2.2.2.2.2
  have hcs := hLk.1
  have hsz := hLk.2.1
  have hbb := hLk.2.2.1
  have hlk := lk_le hLk
  have hV : cs ≠ 0 → ∀ p, p < 495 → evR (nmI wk (laD wk dr) p) (cdF co 0 cs) [] = some [(txV bb sz wk (laD wk dr)) p] := fun q p _ => hLk.2.2.2.2 q wk (laD wk dr) p
  have hse := hCr.1
  have hsw := hCr.2
  have hsd := sdD_le cs bb sz wk (laD wk dr)
  have hsv : ∀ p, p < 495 → sdF cs (txV bb sz wk (laD wk dr)) p = if lk = 1 then clN (txV bb sz wk (laD wk dr) p) else 1 := fun p _ => lk_sd hLk _ _ p
  have hwo := hRf.1
  have hwc := hRf.2
  have htot := to_lt hPe hBo (laD wk dr) (sdF cs (txV bb sz wk (laD wk dr)))
  have e1 := cr_eq hBo gr ki ma (laD wk dr) (sdF cs (txV bb sz wk (laD wk dr)))
  have e2 := to_eq hBo gr ki ma (laD wk dr) (sdF cs (txV bb sz wk (laD wk dr)))
  have hts := hTp.1
  have htb := hTp.2.1
  have hbo := hTp.2.2
  refine ⟨.int (fndI 2), 10, 30, _, _, by decide, by decide, Or.inl ⟨rfl, _, rfl⟩, Ct.sub [0, 49, 1, 2, 3] rfl rfl ?_ (ct_as_k l g (a 0) (a 1) (a 9) (a 17) (a 24) (a 33) (a 36) (a 39) (a 40) (a 49) ts kp (a 2) (a 3) (a 4) (a 5) (a 6) (a 7) (a 8) gr br cs wk z fi ki ma q kd (hq) (hkd) (hki) (by rw [hkq]; exact hu)), Ct.sub [0, 3, 1] rfl rfl ?_ (ct_nas_k6 l g (b 0) (b 1) (b 2) (b 3) (b 4) (b 5) (b 6) (b 7) (b 8) (b 9) (b 10) (b 11) (b 12) (b 13) (b 14) (b 15) (b 16) (b 17) (b 18) (b 19) ts nta nop npr nac kp nbd 0 nnw nsn nwn fi gr wk lk sz br z ru ki ma bb hd ce q kd (hq) (hkd) (hkq) (hu)), ?_⟩
  · rintro v w ⟨rfl, rfl⟩; rfl
  · rintro v w ⟨rfl, rfl⟩; rfl
  · rintro v1 w1 v2 w2 ⟨wq1, ⟨rfl, rfl⟩, rfl⟩ ⟨wq2, ⟨rfl, rfl⟩, rfl⟩
    refine ⟨rfl, rfl, rel_mk g a b gr wk br cs lk sz z ru ki ma bp bt bb hd dr co ce kgr kwk kbr kcs klk ksz kz kru kki kma kbp kbt kbb khd kdr kco kce kp nkf ts (updN fi 2 (fi 2 + 1)) tb bo rn0 rc0 ra0 rft f0 tot lat se sw sd li th tw cr by_ va su mk sk wsm tk shF sb sn sv nta nop npr nac nbd nnw nsn nwn nli nal nlo nwi ntr nbg now_ nis nbo nsz nnu ?_ ?_ hPe hBk hBo hLk hRu hKp hTp hSh hCr hRf⟩
    · simp only [e1, e2, xW, nW, xSet, List.set_cons_zero, List.set_cons_succ]
    · simp only [xW, nW, xSet, List.set_cons_zero, List.set_cons_succ]

set_option maxRecDepth 100000 in
set_option maxHeartbeats 4000000 in
theorem pr_as_o6 (l : Launch) (g : XG) (a b : Nat → Nat) (gr wk br cs lk sz : Nat) (z : Int32) (ru ki ma bp bt bb hd dr : Nat → Nat) (co ce : Nat → Int32) (kgr kwk kbr kcs klk ksz : Nat) (kz : Int32) (kru kki kma kbp kbt kbb khd kdr : Nat → Nat) (kco kce : Nat → Int32) (kp : Int32) (nkf : Nat → Int32) (ts : Nat) (fi tb bo : Nat → Nat) (rn0 rc0 ra0 : Nat) (rft : Int32) (f0 : Nat → Int32) (tot lat : Nat) (se sw : Int32) (sd li th tw cr by_ : Nat → Nat) (va su : Nat → Int64) (mk : Nat → Nat) (sk : Nat → Int32) (wsm : Nat → Int64) (tk : Nat → Nat) (shF : Nat → Option Nat) (sb sn : Nat → Nat) (sv : Nat → Nat → Int64) (nta nop npr nac : Nat) (nbd nnw nsn nwn : Int32) (nli nal nlo nwi ntr nbg now_ : Nat → Nat) (nis nbo : Nat → Int32) (nsz : Nat → Nat) (nnu : Nat → Int64) (hPe : PeI gr ki ma) (hBk : BkI wk ce dr) (hBo : BoI br bp bt hd) (hLk : LkI cs co lk sz bb) (hRu : RuI ru) (hKp : KpI kp nkf kgr kwk kbr kcs klk ksz kz kru kki kma kbp kbt kbb khd kdr kco kce) (hTp : TpI ts tb bo) (hSh : ShI a shF sb sn sv nbo nsz nnu) (hCr : CrI gr wk br cs sz ki ma bp bt bb dr tot lat se sw sd cr th tw) (hRf : RfI gr wk cs sz ki ma hd bb dr nnw nsn nwn nli nal nlo nwi nac) (q kd : Nat) (hq : q < gr ∧ gr ≤ 12) (hkd : kd ≤ 7) (hkq : ki q = 6) (hu : udI 6 (nI kd) = 1) : PairP l g yX8_as cX8_as 3 (some .int) [.ref ((a 0)), .int (nI q), .int (nI kd)] yX9_as cX9_as 4 (some .int) [.ref ((b 0)), .int (nI q), .int (nI kd)] (xW g a gr wk br cs z ru ki ma bp bt co ce kgr kwk kbr kcs kz kru kki kma kbp kbt kco kce kp ts fi tb bo rn0 rc0 ra0 rft f0 tot lat se sw sd li th tw cr by_ va su mk sk wsm tk shF sb sn sv) (nW g b gr wk lk sz br z ru ki ma bb ce hd kp nkf ts fi tb nta nop npr nac nbd nnw nsn nwn nli nal nlo nwi ntr nbg now_ nis nbo nsz nnu) (Rel g a b) := by
  have hgr := hPe.1
  have hki := hPe.2.1
  have hma := hPe.2.2
  have hwk := hBk.1
  have hlat := core_lat hBk
  have hL := core_L hBk
  have hbr := hBo.1
  have hbp := hBo.2.1
  have hbt := hBo.2.2.1
  have hhd := hBo.2.2.2.2.2.2
  have hcs := hLk.1
  have hsz := hLk.2.1
  have hbb := hLk.2.2.1
  have hlk := lk_le hLk
  have hV : cs ≠ 0 → ∀ p, p < 495 → evR (nmI wk (laD wk dr) p) (cdF co 0 cs) [] = some [(txV bb sz wk (laD wk dr)) p] := fun q p _ => hLk.2.2.2.2 q wk (laD wk dr) p
  have hse := hCr.1
  have hsw := hCr.2
  have hsd := sdD_le cs bb sz wk (laD wk dr)
  have hsv : ∀ p, p < 495 → sdF cs (txV bb sz wk (laD wk dr)) p = if lk = 1 then clN (txV bb sz wk (laD wk dr) p) else 1 := fun p _ => lk_sd hLk _ _ p
  have hwo := hRf.1
  have hwc := hRf.2
  have htot := to_lt hPe hBo (laD wk dr) (sdF cs (txV bb sz wk (laD wk dr)))
  have e1 := cr_eq hBo gr ki ma (laD wk dr) (sdF cs (txV bb sz wk (laD wk dr)))
  have e2 := to_eq hBo gr ki ma (laD wk dr) (sdF cs (txV bb sz wk (laD wk dr)))
  have hts := hTp.1
  have htb := hTp.2.1
  have hbo := hTp.2.2
  refine ⟨.int (nI (ma q)), 10, 30, _, _, by decide, by decide, Or.inl ⟨rfl, _, rfl⟩, Ct.sub [0, 49, 1, 2, 3] rfl rfl ?_ (ct_as_o l g (a 0) (a 1) (a 9) (a 17) (a 24) (a 33) (a 36) (a 39) (a 40) (a 49) ts kp (a 2) (a 3) (a 4) (a 5) (a 6) (a 7) (a 8) gr br cs wk z fi ki ma q kd (hq) (hkd) (hki) (by rw [hkq]; exact hu)), Ct.sub [0, 3, 1] rfl rfl ?_ (ct_nas_o6 l g (b 0) (b 1) (b 2) (b 3) (b 4) (b 5) (b 6) (b 7) (b 8) (b 9) (b 10) (b 11) (b 12) (b 13) (b 14) (b 15) (b 16) (b 17) (b 18) (b 19) ts nta nop npr nac kp nbd 0 nnw nsn nwn fi gr wk lk sz br z ru ki ma bb hd ce q kd (hq) (hkd) (hkq) (hu)), ?_⟩
  · rintro v w ⟨rfl, rfl⟩; rfl
  · rintro v w ⟨rfl, rfl⟩; rfl
  · rintro v1 w1 v2 w2 ⟨wq1, ⟨rfl, rfl⟩, rfl⟩ ⟨wq2, ⟨rfl, rfl⟩, rfl⟩
    refine ⟨rfl, rfl, rel_mk g a b gr wk br cs lk sz z ru ki ma bp bt bb hd dr co ce kgr kwk kbr kcs klk ksz kz kru kki kma kbp kbt kbb khd kdr kco kce kp nkf ts fi tb bo rn0 rc0 ra0 rft f0 tot lat se sw sd li th tw cr by_ va su mk sk wsm tk shF sb sn sv nta nop npr nac nbd nnw nsn nwn nli nal nlo nwi ntr nbg now_ nis nbo nsz nnu ?_ ?_ hPe hBk hBo hLk hRu hKp hTp hSh hCr hRf⟩
    · simp only [e1, e2, xW, nW, xSet, List.set_cons_zero, List.set_cons_succ]
    · simp only [xW, nW, xSet, List.set_cons_zero, List.set_cons_succ]

set_option maxRecDepth 100000 in
set_option maxHeartbeats 4000000 in
theorem pr_as_k7 (l : Launch) (g : XG) (a b : Nat → Nat) (gr wk br cs lk sz : Nat) (z : Int32) (ru ki ma bp bt bb hd dr : Nat → Nat) (co ce : Nat → Int32) (kgr kwk kbr kcs klk ksz : Nat) (kz : Int32) (kru kki kma kbp kbt kbb khd kdr : Nat → Nat) (kco kce : Nat → Int32) (kp : Int32) (nkf : Nat → Int32) (ts : Nat) (fi tb bo : Nat → Nat) (rn0 rc0 ra0 : Nat) (rft : Int32) (f0 : Nat → Int32) (tot lat : Nat) (se sw : Int32) (sd li th tw cr by_ : Nat → Nat) (va su : Nat → Int64) (mk : Nat → Nat) (sk : Nat → Int32) (wsm : Nat → Int64) (tk : Nat → Nat) (shF : Nat → Option Nat) (sb sn : Nat → Nat) (sv : Nat → Nat → Int64) (nta nop npr nac : Nat) (nbd nnw nsn nwn : Int32) (nli nal nlo nwi ntr nbg now_ : Nat → Nat) (nis nbo : Nat → Int32) (nsz : Nat → Nat) (nnu : Nat → Int64) (hPe : PeI gr ki ma) (hBk : BkI wk ce dr) (hBo : BoI br bp bt hd) (hLk : LkI cs co lk sz bb) (hRu : RuI ru) (hKp : KpI kp nkf kgr kwk kbr kcs klk ksz kz kru kki kma kbp kbt kbb khd kdr kco kce) (hTp : TpI ts tb bo) (hSh : ShI a shF sb sn sv nbo nsz nnu) (hCr : CrI gr wk br cs sz ki ma bp bt bb dr tot lat se sw sd cr th tw) (hRf : RfI gr wk cs sz ki ma hd bb dr nnw nsn nwn nli nal nlo nwi nac) (q kd : Nat) (hq : q < gr ∧ gr ≤ 12) (hkd : kd ≤ 7) (hkq : ki q = 7) (hu : udI 7 (nI kd) = 0) : PairP l g yX8_as cX8_as 3 (some .int) [.ref ((a 0)), .int (nI q), .int (nI kd)] yX9_as cX9_as 4 (some .int) [.ref ((b 0)), .int (nI q), .int (nI kd)] (xW g a gr wk br cs z ru ki ma bp bt co ce kgr kwk kbr kcs kz kru kki kma kbp kbt kco kce kp ts fi tb bo rn0 rc0 ra0 rft f0 tot lat se sw sd li th tw cr by_ va su mk sk wsm tk shF sb sn sv) (nW g b gr wk lk sz br z ru ki ma bb ce hd kp nkf ts fi tb nta nop npr nac nbd nnw nsn nwn nli nal nlo nwi ntr nbg now_ nis nbo nsz nnu) (Rel g a b) := by
  have hgr := hPe.1
  have hki := hPe.2.1
  have hma := hPe.2.2
  have hwk := hBk.1
  have hlat := core_lat hBk
  have hL := core_L hBk
  have hbr := hBo.1
  have hbp := hBo.2.1
  have hbt := hBo.2.2.1
  have hhd := hBo.2.2.2.2.2.2
  have hcs := hLk.1
  have hsz := hLk.2.1
  have hbb := hLk.2.2.1
  have hlk := lk_le hLk
  have hV : cs ≠ 0 → ∀ p, p < 495 → evR (nmI wk (laD wk dr) p) (cdF co 0 cs) [] = some [(txV bb sz wk (laD wk dr)) p] := fun q p _ => hLk.2.2.2.2 q wk (laD wk dr) p
  have hse := hCr.1
  have hsw := hCr.2
  have hsd := sdD_le cs bb sz wk (laD wk dr)
  have hsv : ∀ p, p < 495 → sdF cs (txV bb sz wk (laD wk dr)) p = if lk = 1 then clN (txV bb sz wk (laD wk dr) p) else 1 := fun p _ => lk_sd hLk _ _ p
  have hwo := hRf.1
  have hwc := hRf.2
  have htot := to_lt hPe hBo (laD wk dr) (sdF cs (txV bb sz wk (laD wk dr)))
  have e1 := cr_eq hBo gr ki ma (laD wk dr) (sdF cs (txV bb sz wk (laD wk dr)))
  have e2 := to_eq hBo gr ki ma (laD wk dr) (sdF cs (txV bb sz wk (laD wk dr)))
  have hts := hTp.1
  have htb := hTp.2.1
  have hbo := hTp.2.2
  refine ⟨.int (fndI 2), 10, 30, _, _, by decide, by decide, Or.inl ⟨rfl, _, rfl⟩, Ct.sub [0, 49, 1, 2, 3] rfl rfl ?_ (ct_as_k l g (a 0) (a 1) (a 9) (a 17) (a 24) (a 33) (a 36) (a 39) (a 40) (a 49) ts kp (a 2) (a 3) (a 4) (a 5) (a 6) (a 7) (a 8) gr br cs wk z fi ki ma q kd (hq) (hkd) (hki) (by rw [hkq]; exact hu)), Ct.sub [0, 3, 1] rfl rfl ?_ (ct_nas_k7 l g (b 0) (b 1) (b 2) (b 3) (b 4) (b 5) (b 6) (b 7) (b 8) (b 9) (b 10) (b 11) (b 12) (b 13) (b 14) (b 15) (b 16) (b 17) (b 18) (b 19) ts nta nop npr nac kp nbd 0 nnw nsn nwn fi gr wk lk sz br z ru ki ma bb hd ce q kd (hq) (hkd) (hkq) (hu)), ?_⟩
  · rintro v w ⟨rfl, rfl⟩; rfl
  · rintro v w ⟨rfl, rfl⟩; rfl
  · rintro v1 w1 v2 w2 ⟨wq1, ⟨rfl, rfl⟩, rfl⟩ ⟨wq2, ⟨rfl, rfl⟩, rfl⟩
    refine ⟨rfl, rfl, rel_mk g a b gr wk br cs lk sz z ru ki ma bp bt bb hd dr co ce kgr kwk kbr kcs klk ksz kz kru kki kma kbp kbt kbb khd kdr kco kce kp nkf ts (updN fi 2 (fi 2 + 1)) tb bo rn0 rc0 ra0 rft f0 tot lat se sw sd li th tw cr by_ va su mk sk wsm tk shF sb sn sv nta nop npr nac nbd nnw nsn nwn nli nal nlo nwi ntr nbg now_ nis nbo nsz nnu ?_ ?_ hPe hBk hBo hLk hRu hKp hTp hSh hCr hRf⟩
    · simp only [e1, e2, xW, nW, xSet, List.set_cons_zero, List.set_cons_succ]
    · simp only [xW, nW, xSet, List.set_cons_zero, List.set_cons_succ]

set_option maxRecDepth 100000 in
set_option maxHeartbeats 4000000 in
theorem pr_as_o7 (l : Launch) (g : XG) (a b : Nat → Nat) (gr wk br cs lk sz : Nat) (z : Int32) (ru ki ma bp bt bb hd dr : Nat → Nat) (co ce : Nat → Int32) (kgr kwk kbr kcs klk ksz : Nat) (kz : Int32) (kru kki kma kbp kbt kbb khd kdr : Nat → Nat) (kco kce : Nat → Int32) (kp : Int32) (nkf : Nat → Int32) (ts : Nat) (fi tb bo : Nat → Nat) (rn0 rc0 ra0 : Nat) (rft : Int32) (f0 : Nat → Int32) (tot lat : Nat) (se sw : Int32) (sd li th tw cr by_ : Nat → Nat) (va su : Nat → Int64) (mk : Nat → Nat) (sk : Nat → Int32) (wsm : Nat → Int64) (tk : Nat → Nat) (shF : Nat → Option Nat) (sb sn : Nat → Nat) (sv : Nat → Nat → Int64) (nta nop npr nac : Nat) (nbd nnw nsn nwn : Int32) (nli nal nlo nwi ntr nbg now_ : Nat → Nat) (nis nbo : Nat → Int32) (nsz : Nat → Nat) (nnu : Nat → Int64) (hPe : PeI gr ki ma) (hBk : BkI wk ce dr) (hBo : BoI br bp bt hd) (hLk : LkI cs co lk sz bb) (hRu : RuI ru) (hKp : KpI kp nkf kgr kwk kbr kcs klk ksz kz kru kki kma kbp kbt kbb khd kdr kco kce) (hTp : TpI ts tb bo) (hSh : ShI a shF sb sn sv nbo nsz nnu) (hCr : CrI gr wk br cs sz ki ma bp bt bb dr tot lat se sw sd cr th tw) (hRf : RfI gr wk cs sz ki ma hd bb dr nnw nsn nwn nli nal nlo nwi nac) (q kd : Nat) (hq : q < gr ∧ gr ≤ 12) (hkd : kd ≤ 7) (hkq : ki q = 7) (hu : udI 7 (nI kd) = 1) : PairP l g yX8_as cX8_as 3 (some .int) [.ref ((a 0)), .int (nI q), .int (nI kd)] yX9_as cX9_as 4 (some .int) [.ref ((b 0)), .int (nI q), .int (nI kd)] (xW g a gr wk br cs z ru ki ma bp bt co ce kgr kwk kbr kcs kz kru kki kma kbp kbt kco kce kp ts fi tb bo rn0 rc0 ra0 rft f0 tot lat se sw sd li th tw cr by_ va su mk sk wsm tk shF sb sn sv) (nW g b gr wk lk sz br z ru ki ma bb ce hd kp nkf ts fi tb nta nop npr nac nbd nnw nsn nwn nli nal nlo nwi ntr nbg now_ nis nbo nsz nnu) (Rel g a b) := by
  have hgr := hPe.1
  have hki := hPe.2.1
  have hma := hPe.2.2
  have hwk := hBk.1
  have hlat := core_lat hBk
  have hL := core_L hBk
  have hbr := hBo.1
  have hbp := hBo.2.1
  have hbt := hBo.2.2.1
  have hhd := hBo.2.2.2.2.2.2
  have hcs := hLk.1
  have hsz := hLk.2.1
  have hbb := hLk.2.2.1
  have hlk := lk_le hLk
  have hV : cs ≠ 0 → ∀ p, p < 495 → evR (nmI wk (laD wk dr) p) (cdF co 0 cs) [] = some [(txV bb sz wk (laD wk dr)) p] := fun q p _ => hLk.2.2.2.2 q wk (laD wk dr) p
  have hse := hCr.1
  have hsw := hCr.2
  have hsd := sdD_le cs bb sz wk (laD wk dr)
  have hsv : ∀ p, p < 495 → sdF cs (txV bb sz wk (laD wk dr)) p = if lk = 1 then clN (txV bb sz wk (laD wk dr) p) else 1 := fun p _ => lk_sd hLk _ _ p
  have hwo := hRf.1
  have hwc := hRf.2
  have htot := to_lt hPe hBo (laD wk dr) (sdF cs (txV bb sz wk (laD wk dr)))
  have e1 := cr_eq hBo gr ki ma (laD wk dr) (sdF cs (txV bb sz wk (laD wk dr)))
  have e2 := to_eq hBo gr ki ma (laD wk dr) (sdF cs (txV bb sz wk (laD wk dr)))
  have hts := hTp.1
  have htb := hTp.2.1
  have hbo := hTp.2.2
  refine ⟨.int (nI (ma q)), 10, 30, _, _, by decide, by decide, Or.inl ⟨rfl, _, rfl⟩, Ct.sub [0, 49, 1, 2, 3] rfl rfl ?_ (ct_as_o l g (a 0) (a 1) (a 9) (a 17) (a 24) (a 33) (a 36) (a 39) (a 40) (a 49) ts kp (a 2) (a 3) (a 4) (a 5) (a 6) (a 7) (a 8) gr br cs wk z fi ki ma q kd (hq) (hkd) (hki) (by rw [hkq]; exact hu)), Ct.sub [0, 3, 1] rfl rfl ?_ (ct_nas_o7 l g (b 0) (b 1) (b 2) (b 3) (b 4) (b 5) (b 6) (b 7) (b 8) (b 9) (b 10) (b 11) (b 12) (b 13) (b 14) (b 15) (b 16) (b 17) (b 18) (b 19) ts nta nop npr nac kp nbd 0 nnw nsn nwn fi gr wk lk sz br z ru ki ma bb hd ce q kd (hq) (hkd) (hkq) (hu)), ?_⟩
  · rintro v w ⟨rfl, rfl⟩; rfl
  · rintro v w ⟨rfl, rfl⟩; rfl
  · rintro v1 w1 v2 w2 ⟨wq1, ⟨rfl, rfl⟩, rfl⟩ ⟨wq2, ⟨rfl, rfl⟩, rfl⟩
    refine ⟨rfl, rfl, rel_mk g a b gr wk br cs lk sz z ru ki ma bp bt bb hd dr co ce kgr kwk kbr kcs klk ksz kz kru kki kma kbp kbt kbb khd kdr kco kce kp nkf ts fi tb bo rn0 rc0 ra0 rft f0 tot lat se sw sd li th tw cr by_ va su mk sk wsm tk shF sb sn sv nta nop npr nac nbd nnw nsn nwn nli nal nlo nwi ntr nbg now_ nis nbo nsz nnu ?_ ?_ hPe hBk hBo hLk hRu hKp hTp hSh hCr hRf⟩
    · simp only [e1, e2, xW, nW, xSet, List.set_cons_zero, List.set_cons_succ]
    · simp only [xW, nW, xSet, List.set_cons_zero, List.set_cons_succ]

set_option maxRecDepth 100000 in
set_option maxHeartbeats 4000000 in
theorem pm_place (l : Launch) (g : XG) (a b : Nat → Nat) {wX wM : va_W} (hR : Rel g a b wX wM) (x : Int32) : PairP l g yX8_place cX8_place 2 (some .int) [.ref (a 0), .int x] yX9_place cX9_place 2 (some .int) [.ref (b 0), .int x] wX wM (Rel g a b) := by
  refine rel_elim hR (fun gr wk br cs lk sz z ru ki ma bp bt bb hd dr co ce kgr kwk kbr kcs klk ksz kz kru kki kma kbp kbt kbb khd kdr kco kce kp nkf ts fi tb bo rn0 rc0 ra0 rft f0 tot lat se sw sd li th tw cr by_ va su mk sk wsm tk shF sb sn sv nta nop npr nac nbd nnw nsn nwn nli nal nlo nwi ntr nbg now_ nis nbo nsz nnu hx hm hPe hBk hBo hLk hRu hKp hTp hSh hCr hRf => ?_)
  subst hx
  subst hm
  by_cases h : isRowI x.toInt64 = 0
  · exact pr_place_b l g a b gr wk br cs lk sz z ru ki ma bp bt bb hd dr co ce kgr kwk kbr kcs klk ksz kz kru kki kma kbp kbt kbb khd kdr kco kce kp nkf ts fi tb bo rn0 rc0 ra0 rft f0 tot lat se sw sd li th tw cr by_ va su mk sk wsm tk shF sb sn sv nta nop npr nac nbd nnw nsn nwn nli nal nlo nwi ntr nbg now_ nis nbo nsz nnu hPe hBk hBo hLk hRu hKp hTp hSh hCr hRf x h
  · obtain ⟨h1, r, rfl, h2, h3⟩ := isRow_ok h
    exact pr_place_o l g a b gr wk br cs lk sz z ru ki ma bp bt bb hd dr co ce kgr kwk kbr kcs klk ksz kz kru kki kma kbp kbt kbb khd kdr kco kce kp nkf ts fi tb bo rn0 rc0 ra0 rft f0 tot lat se sw sd li th tw cr by_ va su mk sk wsm tk shF sb sn sv nta nop npr nac nbd nnw nsn nwn nli nal nlo nwi ntr nbg now_ nis nbo nsz nnu hPe hBk hBo hLk hRu hKp hTp hSh hCr hRf r h2 h3 h1

set_option maxRecDepth 100000 in
set_option maxHeartbeats 4000000 in
theorem pm_row (l : Launch) (g : XG) (a b : Nat → Nat) {wX wM : va_W} (hR : Rel g a b wX wM) (x : Int32) : PairP l g yX8_row cX8_row 2 (some .int) [.ref (a 0), .int x] yX9_row cX9_row 2 (some .int) [.ref (b 0), .int x] wX wM (Rel g a b) := by
  refine rel_elim hR (fun gr wk br cs lk sz z ru ki ma bp bt bb hd dr co ce kgr kwk kbr kcs klk ksz kz kru kki kma kbp kbt kbb khd kdr kco kce kp nkf ts fi tb bo rn0 rc0 ra0 rft f0 tot lat se sw sd li th tw cr by_ va su mk sk wsm tk shF sb sn sv nta nop npr nac nbd nnw nsn nwn nli nal nlo nwi ntr nbg now_ nis nbo nsz nnu hx hm hPe hBk hBo hLk hRu hKp hTp hSh hCr hRf => ?_)
  subst hx
  subst hm
  rcases wI_cases x (a := 0) (b := 494) (by decide) (by decide) with h | ⟨p, rfl, -, hp⟩
  · exact pr_row_b l g a b gr wk br cs lk sz z ru ki ma bp bt bb hd dr co ce kgr kwk kbr kcs klk ksz kz kru kki kma kbp kbt kbb khd kdr kco kce kp nkf ts fi tb bo rn0 rc0 ra0 rft f0 tot lat se sw sd li th tw cr by_ va su mk sk wsm tk shF sb sn sv nta nop npr nac nbd nnw nsn nwn nli nal nlo nwi ntr nbg now_ nis nbo nsz nnu hPe hBk hBo hLk hRu hKp hTp hSh hCr hRf x h
  · exact pr_row_o l g a b gr wk br cs lk sz z ru ki ma bp bt bb hd dr co ce kgr kwk kbr kcs klk ksz kz kru kki kma kbp kbt kbb khd kdr kco kce kp nkf ts fi tb bo rn0 rc0 ra0 rft f0 tot lat se sw sd li th tw cr by_ va su mk sk wsm tk shF sb sn sv nta nop npr nac nbd nnw nsn nwn nli nal nlo nwi ntr nbg now_ nis nbo nsz nnu hPe hBk hBo hLk hRu hKp hTp hSh hCr hRf p (by omega)

set_option maxRecDepth 100000 in
set_option maxHeartbeats 4000000 in
theorem pm_people (l : Launch) (g : XG) (a b : Nat → Nat) {wX wM : va_W} (hR : Rel g a b wX wM) (x : Int32) (y : Int32) : PairP l g yX8_people cX8_people 4 (some .int) [.ref (a 0), .int x, .int y] yX9_people cX9_people 3 (some .int) [.ref (b 0), .int x, .int y] wX wM (Rel g a b) := by
  refine rel_elim hR (fun gr wk br cs lk sz z ru ki ma bp bt bb hd dr co ce kgr kwk kbr kcs klk ksz kz kru kki kma kbp kbt kbb khd kdr kco kce kp nkf ts fi tb bo rn0 rc0 ra0 rft f0 tot lat se sw sd li th tw cr by_ va su mk sk wsm tk shF sb sn sv nta nop npr nac nbd nnw nsn nwn nli nal nlo nwi ntr nbg now_ nis nbo nsz nnu hx hm hPe hBk hBo hLk hRu hKp hTp hSh hCr hRf => ?_)
  subst hx
  subst hm
  rcases wI_cases x (a := 0) (b := 7) (by decide) (by decide) with h | ⟨kd, rfl, -, hk⟩
  · exact pr_people_b l g a b gr wk br cs lk sz z ru ki ma bp bt bb hd dr co ce kgr kwk kbr kcs klk ksz kz kru kki kma kbp kbt kbb khd kdr kco kce kp nkf ts fi tb bo rn0 rc0 ra0 rft f0 tot lat se sw sd li th tw cr by_ va su mk sk wsm tk shF sb sn sv nta nop npr nac nbd nnw nsn nwn nli nal nlo nwi ntr nbg now_ nis nbo nsz nnu hPe hBk hBo hLk hRu hKp hTp hSh hCr hRf x y (Or.inl h)
  rcases wI_cases y (a := 0) (b := 99999) (by decide) (by decide) with h | ⟨mn, rfl, -, hn⟩
  · exact pr_people_b l g a b gr wk br cs lk sz z ru ki ma bp bt bb hd dr co ce kgr kwk kbr kcs klk ksz kz kru kki kma kbp kbt kbb khd kdr kco kce kp nkf ts fi tb bo rn0 rc0 ra0 rft f0 tot lat se sw sd li th tw cr by_ va su mk sk wsm tk shF sb sn sv nta nop npr nac nbd nnw nsn nwn nli nal nlo nwi ntr nbg now_ nis nbo nsz nnu hPe hBk hBo hLk hRu hKp hTp hSh hCr hRf (nI kd) y (Or.inr h)
  have hgr := hPe.1
  rcases (by omega : gr = 12 ∨ gr < 12) with e | e
  · exact pr_people_f l g a b gr wk br cs lk sz z ru ki ma bp bt bb hd dr co ce kgr kwk kbr kcs klk ksz kz kru kki kma kbp kbt kbb khd kdr kco kce kp nkf ts fi tb bo rn0 rc0 ra0 rft f0 tot lat se sw sd li th tw cr by_ va su mk sk wsm tk shF sb sn sv nta nop npr nac nbd nnw nsn nwn nli nal nlo nwi ntr nbg now_ nis nbo nsz nnu hPe hBk hBo hLk hRu hKp hTp hSh hCr hRf kd mn hk hn e
  · exact pr_people_o l g a b gr wk br cs lk sz z ru ki ma bp bt bb hd dr co ce kgr kwk kbr kcs klk ksz kz kru kki kma kbp kbt kbb khd kdr kco kce kp nkf ts fi tb bo rn0 rc0 ra0 rft f0 tot lat se sw sd li th tw cr by_ va su mk sk wsm tk shF sb sn sv nta nop npr nac nbd nnw nsn nwn nli nal nlo nwi ntr nbg now_ nis nbo nsz nnu hPe hBk hBo hLk hRu hKp hTp hSh hCr hRf kd mn hk hn e

set_option maxRecDepth 100000 in
set_option maxHeartbeats 4000000 in
theorem pm_of (l : Launch) (g : XG) (a b : Nat → Nat) {wX wM : va_W} (hR : Rel g a b wX wM) (x : Int32) (y : Int32) : PairP l g yX8_of cX8_of 3 (some .int) [.ref (a 0), .int x, .int y] yX9_of cX9_of 3 (some .int) [.ref (b 0), .int x, .int y] wX wM (Rel g a b) := by
  refine rel_elim hR (fun gr wk br cs lk sz z ru ki ma bp bt bb hd dr co ce kgr kwk kbr kcs klk ksz kz kru kki kma kbp kbt kbb khd kdr kco kce kp nkf ts fi tb bo rn0 rc0 ra0 rft f0 tot lat se sw sd li th tw cr by_ va su mk sk wsm tk shF sb sn sv nta nop npr nac nbd nnw nsn nwn nli nal nlo nwi ntr nbg now_ nis nbo nsz nnu hx hm hPe hBk hBo hLk hRu hKp hTp hSh hCr hRf => ?_)
  subst hx
  subst hm
  rcases wI_pp x hPe.1 with h | ⟨q, rfl, hq⟩
  · exact pr_of_b l g a b gr wk br cs lk sz z ru ki ma bp bt bb hd dr co ce kgr kwk kbr kcs klk ksz kz kru kki kma kbp kbt kbb khd kdr kco kce kp nkf ts fi tb bo rn0 rc0 ra0 rft f0 tot lat se sw sd li th tw cr by_ va su mk sk wsm tk shF sb sn sv nta nop npr nac nbd nnw nsn nwn nli nal nlo nwi ntr nbg now_ nis nbo nsz nnu hPe hBk hBo hLk hRu hKp hTp hSh hCr hRf x y (Or.inl h)
  rcases wI_cases y (a := 0) (b := 1) (by decide) (by decide) with h | ⟨w, rfl, -, hw⟩
  · exact pr_of_b l g a b gr wk br cs lk sz z ru ki ma bp bt bb hd dr co ce kgr kwk kbr kcs klk ksz kz kru kki kma kbp kbt kbb khd kdr kco kce kp nkf ts fi tb bo rn0 rc0 ra0 rft f0 tot lat se sw sd li th tw cr by_ va su mk sk wsm tk shF sb sn sv nta nop npr nac nbd nnw nsn nwn nli nal nlo nwi ntr nbg now_ nis nbo nsz nnu hPe hBk hBo hLk hRu hKp hTp hSh hCr hRf (nI q) y (Or.inr h)
  rcases (by omega : w = 0 ∨ w = 1) with rfl | rfl
  · exact pr_of_0 l g a b gr wk br cs lk sz z ru ki ma bp bt bb hd dr co ce kgr kwk kbr kcs klk ksz kz kru kki kma kbp kbt kbb khd kdr kco kce kp nkf ts fi tb bo rn0 rc0 ra0 rft f0 tot lat se sw sd li th tw cr by_ va su mk sk wsm tk shF sb sn sv nta nop npr nac nbd nnw nsn nwn nli nal nlo nwi ntr nbg now_ nis nbo nsz nnu hPe hBk hBo hLk hRu hKp hTp hSh hCr hRf q hq
  · exact pr_of_1 l g a b gr wk br cs lk sz z ru ki ma bp bt bb hd dr co ce kgr kwk kbr kcs klk ksz kz kru kki kma kbp kbt kbb khd kdr kco kce kp nkf ts fi tb bo rn0 rc0 ra0 rft f0 tot lat se sw sd li th tw cr by_ va su mk sk wsm tk shF sb sn sv nta nop npr nac nbd nnw nsn nwn nli nal nlo nwi ntr nbg now_ nis nbo nsz nnu hPe hBk hBo hLk hRu hKp hTp hSh hCr hRf q hq

set_option maxRecDepth 100000 in
set_option maxHeartbeats 4000000 in
theorem pm_many (l : Launch) (g : XG) (a b : Nat → Nat) {wX wM : va_W} (hR : Rel g a b wX wM) (x : Int32) (y : Int32) : PairP l g yX8_many cX8_many 4 (some .int) [.ref (a 0), .int x, .int y] yX9_many cX9_many 4 (some .int) [.ref (b 0), .int x, .int y] wX wM (Rel g a b) := by
  refine rel_elim hR (fun gr wk br cs lk sz z ru ki ma bp bt bb hd dr co ce kgr kwk kbr kcs klk ksz kz kru kki kma kbp kbt kbb khd kdr kco kce kp nkf ts fi tb bo rn0 rc0 ra0 rft f0 tot lat se sw sd li th tw cr by_ va su mk sk wsm tk shF sb sn sv nta nop npr nac nbd nnw nsn nwn nli nal nlo nwi ntr nbg now_ nis nbo nsz nnu hx hm hPe hBk hBo hLk hRu hKp hTp hSh hCr hRf => ?_)
  subst hx
  subst hm
  rcases wI_pp x hPe.1 with h | ⟨q, rfl, hq⟩
  · exact pr_many_b l g a b gr wk br cs lk sz z ru ki ma bp bt bb hd dr co ce kgr kwk kbr kcs klk ksz kz kru kki kma kbp kbt kbb khd kdr kco kce kp nkf ts fi tb bo rn0 rc0 ra0 rft f0 tot lat se sw sd li th tw cr by_ va su mk sk wsm tk shF sb sn sv nta nop npr nac nbd nnw nsn nwn nli nal nlo nwi ntr nbg now_ nis nbo nsz nnu hPe hBk hBo hLk hRu hKp hTp hSh hCr hRf x y (Or.inl h)
  rcases wI_cases y (a := 0) (b := 99999) (by decide) (by decide) with h | ⟨mn, rfl, -, hn⟩
  · exact pr_many_b l g a b gr wk br cs lk sz z ru ki ma bp bt bb hd dr co ce kgr kwk kbr kcs klk ksz kz kru kki kma kbp kbt kbb khd kdr kco kce kp nkf ts fi tb bo rn0 rc0 ra0 rft f0 tot lat se sw sd li th tw cr by_ va su mk sk wsm tk shF sb sn sv nta nop npr nac nbd nnw nsn nwn nli nal nlo nwi ntr nbg now_ nis nbo nsz nnu hPe hBk hBo hLk hRu hKp hTp hSh hCr hRf (nI q) y (Or.inr h)
  · exact pr_many_o l g a b gr wk br cs lk sz z ru ki ma bp bt bb hd dr co ce kgr kwk kbr kcs klk ksz kz kru kki kma kbp kbt kbb khd kdr kco kce kp nkf ts fi tb bo rn0 rc0 ra0 rft f0 tot lat se sw sd li th tw cr by_ va su mk sk wsm tk shF sb sn sv nta nop npr nac nbd nnw nsn nwn nli nal nlo nwi ntr nbg now_ nis nbo nsz nnu hPe hBk hBo hLk hRu hKp hTp hSh hCr hRf q mn hq hn

set_option maxRecDepth 100000 in
set_option maxHeartbeats 4000000 in
theorem pm_as (l : Launch) (g : XG) (a b : Nat → Nat) {wX wM : va_W} (hR : Rel g a b wX wM) (x : Int32) (y : Int32) : PairP l g yX8_as cX8_as 3 (some .int) [.ref (a 0), .int x, .int y] yX9_as cX9_as 4 (some .int) [.ref (b 0), .int x, .int y] wX wM (Rel g a b) := by
  refine rel_elim hR (fun gr wk br cs lk sz z ru ki ma bp bt bb hd dr co ce kgr kwk kbr kcs klk ksz kz kru kki kma kbp kbt kbb khd kdr kco kce kp nkf ts fi tb bo rn0 rc0 ra0 rft f0 tot lat se sw sd li th tw cr by_ va su mk sk wsm tk shF sb sn sv nta nop npr nac nbd nnw nsn nwn nli nal nlo nwi ntr nbg now_ nis nbo nsz nnu hx hm hPe hBk hBo hLk hRu hKp hTp hSh hCr hRf => ?_)
  subst hx
  subst hm
  rcases wI_pp x hPe.1 with h | ⟨q, rfl, hq⟩
  · exact pr_as_b l g a b gr wk br cs lk sz z ru ki ma bp bt bb hd dr co ce kgr kwk kbr kcs klk ksz kz kru kki kma kbp kbt kbb khd kdr kco kce kp nkf ts fi tb bo rn0 rc0 ra0 rft f0 tot lat se sw sd li th tw cr by_ va su mk sk wsm tk shF sb sn sv nta nop npr nac nbd nnw nsn nwn nli nal nlo nwi ntr nbg now_ nis nbo nsz nnu hPe hBk hBo hLk hRu hKp hTp hSh hCr hRf x y (Or.inl h)
  rcases wI_cases y (a := 0) (b := 7) (by decide) (by decide) with h | ⟨kd, rfl, -, hn⟩
  · exact pr_as_b l g a b gr wk br cs lk sz z ru ki ma bp bt bb hd dr co ce kgr kwk kbr kcs klk ksz kz kru kki kma kbp kbt kbb khd kdr kco kce kp nkf ts fi tb bo rn0 rc0 ra0 rft f0 tot lat se sw sd li th tw cr by_ va su mk sk wsm tk shF sb sn sv nta nop npr nac nbd nnw nsn nwn nli nal nlo nwi ntr nbg now_ nis nbo nsz nnu hPe hBk hBo hLk hRu hKp hTp hSh hCr hRf (nI q) y (Or.inr h)
  have hkq := hPe.2.1 q
  rcases (by omega : ki q = 0 ∨ ki q = 1 ∨ ki q = 2 ∨ ki q = 3 ∨ ki q = 4 ∨ ki q = 5 ∨ ki q = 6 ∨ ki q = 7) with e | e | e | e | e | e | e | e
  · rcases udI_01 0 (nI kd) (by decide) with u | u
    · exact pr_as_k0 l g a b gr wk br cs lk sz z ru ki ma bp bt bb hd dr co ce kgr kwk kbr kcs klk ksz kz kru kki kma kbp kbt kbb khd kdr kco kce kp nkf ts fi tb bo rn0 rc0 ra0 rft f0 tot lat se sw sd li th tw cr by_ va su mk sk wsm tk shF sb sn sv nta nop npr nac nbd nnw nsn nwn nli nal nlo nwi ntr nbg now_ nis nbo nsz nnu hPe hBk hBo hLk hRu hKp hTp hSh hCr hRf q kd hq hn e u
    · exact pr_as_o0 l g a b gr wk br cs lk sz z ru ki ma bp bt bb hd dr co ce kgr kwk kbr kcs klk ksz kz kru kki kma kbp kbt kbb khd kdr kco kce kp nkf ts fi tb bo rn0 rc0 ra0 rft f0 tot lat se sw sd li th tw cr by_ va su mk sk wsm tk shF sb sn sv nta nop npr nac nbd nnw nsn nwn nli nal nlo nwi ntr nbg now_ nis nbo nsz nnu hPe hBk hBo hLk hRu hKp hTp hSh hCr hRf q kd hq hn e u
  · rcases udI_01 1 (nI kd) (by decide) with u | u
    · exact pr_as_k1 l g a b gr wk br cs lk sz z ru ki ma bp bt bb hd dr co ce kgr kwk kbr kcs klk ksz kz kru kki kma kbp kbt kbb khd kdr kco kce kp nkf ts fi tb bo rn0 rc0 ra0 rft f0 tot lat se sw sd li th tw cr by_ va su mk sk wsm tk shF sb sn sv nta nop npr nac nbd nnw nsn nwn nli nal nlo nwi ntr nbg now_ nis nbo nsz nnu hPe hBk hBo hLk hRu hKp hTp hSh hCr hRf q kd hq hn e u
    · exact pr_as_o1 l g a b gr wk br cs lk sz z ru ki ma bp bt bb hd dr co ce kgr kwk kbr kcs klk ksz kz kru kki kma kbp kbt kbb khd kdr kco kce kp nkf ts fi tb bo rn0 rc0 ra0 rft f0 tot lat se sw sd li th tw cr by_ va su mk sk wsm tk shF sb sn sv nta nop npr nac nbd nnw nsn nwn nli nal nlo nwi ntr nbg now_ nis nbo nsz nnu hPe hBk hBo hLk hRu hKp hTp hSh hCr hRf q kd hq hn e u
  · rcases udI_01 2 (nI kd) (by decide) with u | u
    · exact pr_as_k2 l g a b gr wk br cs lk sz z ru ki ma bp bt bb hd dr co ce kgr kwk kbr kcs klk ksz kz kru kki kma kbp kbt kbb khd kdr kco kce kp nkf ts fi tb bo rn0 rc0 ra0 rft f0 tot lat se sw sd li th tw cr by_ va su mk sk wsm tk shF sb sn sv nta nop npr nac nbd nnw nsn nwn nli nal nlo nwi ntr nbg now_ nis nbo nsz nnu hPe hBk hBo hLk hRu hKp hTp hSh hCr hRf q kd hq hn e u
    · exact pr_as_o2 l g a b gr wk br cs lk sz z ru ki ma bp bt bb hd dr co ce kgr kwk kbr kcs klk ksz kz kru kki kma kbp kbt kbb khd kdr kco kce kp nkf ts fi tb bo rn0 rc0 ra0 rft f0 tot lat se sw sd li th tw cr by_ va su mk sk wsm tk shF sb sn sv nta nop npr nac nbd nnw nsn nwn nli nal nlo nwi ntr nbg now_ nis nbo nsz nnu hPe hBk hBo hLk hRu hKp hTp hSh hCr hRf q kd hq hn e u
  · rcases udI_01 3 (nI kd) (by decide) with u | u
    · exact pr_as_k3 l g a b gr wk br cs lk sz z ru ki ma bp bt bb hd dr co ce kgr kwk kbr kcs klk ksz kz kru kki kma kbp kbt kbb khd kdr kco kce kp nkf ts fi tb bo rn0 rc0 ra0 rft f0 tot lat se sw sd li th tw cr by_ va su mk sk wsm tk shF sb sn sv nta nop npr nac nbd nnw nsn nwn nli nal nlo nwi ntr nbg now_ nis nbo nsz nnu hPe hBk hBo hLk hRu hKp hTp hSh hCr hRf q kd hq hn e u
    · exact pr_as_o3 l g a b gr wk br cs lk sz z ru ki ma bp bt bb hd dr co ce kgr kwk kbr kcs klk ksz kz kru kki kma kbp kbt kbb khd kdr kco kce kp nkf ts fi tb bo rn0 rc0 ra0 rft f0 tot lat se sw sd li th tw cr by_ va su mk sk wsm tk shF sb sn sv nta nop npr nac nbd nnw nsn nwn nli nal nlo nwi ntr nbg now_ nis nbo nsz nnu hPe hBk hBo hLk hRu hKp hTp hSh hCr hRf q kd hq hn e u
  · rcases udI_01 4 (nI kd) (by decide) with u | u
    · exact pr_as_k4 l g a b gr wk br cs lk sz z ru ki ma bp bt bb hd dr co ce kgr kwk kbr kcs klk ksz kz kru kki kma kbp kbt kbb khd kdr kco kce kp nkf ts fi tb bo rn0 rc0 ra0 rft f0 tot lat se sw sd li th tw cr by_ va su mk sk wsm tk shF sb sn sv nta nop npr nac nbd nnw nsn nwn nli nal nlo nwi ntr nbg now_ nis nbo nsz nnu hPe hBk hBo hLk hRu hKp hTp hSh hCr hRf q kd hq hn e u
    · exact pr_as_o4 l g a b gr wk br cs lk sz z ru ki ma bp bt bb hd dr co ce kgr kwk kbr kcs klk ksz kz kru kki kma kbp kbt kbb khd kdr kco kce kp nkf ts fi tb bo rn0 rc0 ra0 rft f0 tot lat se sw sd li th tw cr by_ va su mk sk wsm tk shF sb sn sv nta nop npr nac nbd nnw nsn nwn nli nal nlo nwi ntr nbg now_ nis nbo nsz nnu hPe hBk hBo hLk hRu hKp hTp hSh hCr hRf q kd hq hn e u
  · rcases udI_01 5 (nI kd) (by decide) with u | u
    · exact pr_as_k5 l g a b gr wk br cs lk sz z ru ki ma bp bt bb hd dr co ce kgr kwk kbr kcs klk ksz kz kru kki kma kbp kbt kbb khd kdr kco kce kp nkf ts fi tb bo rn0 rc0 ra0 rft f0 tot lat se sw sd li th tw cr by_ va su mk sk wsm tk shF sb sn sv nta nop npr nac nbd nnw nsn nwn nli nal nlo nwi ntr nbg now_ nis nbo nsz nnu hPe hBk hBo hLk hRu hKp hTp hSh hCr hRf q kd hq hn e u
    · exact pr_as_o5 l g a b gr wk br cs lk sz z ru ki ma bp bt bb hd dr co ce kgr kwk kbr kcs klk ksz kz kru kki kma kbp kbt kbb khd kdr kco kce kp nkf ts fi tb bo rn0 rc0 ra0 rft f0 tot lat se sw sd li th tw cr by_ va su mk sk wsm tk shF sb sn sv nta nop npr nac nbd nnw nsn nwn nli nal nlo nwi ntr nbg now_ nis nbo nsz nnu hPe hBk hBo hLk hRu hKp hTp hSh hCr hRf q kd hq hn e u
  · rcases udI_01 6 (nI kd) (by decide) with u | u
    · exact pr_as_k6 l g a b gr wk br cs lk sz z ru ki ma bp bt bb hd dr co ce kgr kwk kbr kcs klk ksz kz kru kki kma kbp kbt kbb khd kdr kco kce kp nkf ts fi tb bo rn0 rc0 ra0 rft f0 tot lat se sw sd li th tw cr by_ va su mk sk wsm tk shF sb sn sv nta nop npr nac nbd nnw nsn nwn nli nal nlo nwi ntr nbg now_ nis nbo nsz nnu hPe hBk hBo hLk hRu hKp hTp hSh hCr hRf q kd hq hn e u
    · exact pr_as_o6 l g a b gr wk br cs lk sz z ru ki ma bp bt bb hd dr co ce kgr kwk kbr kcs klk ksz kz kru kki kma kbp kbt kbb khd kdr kco kce kp nkf ts fi tb bo rn0 rc0 ra0 rft f0 tot lat se sw sd li th tw cr by_ va su mk sk wsm tk shF sb sn sv nta nop npr nac nbd nnw nsn nwn nli nal nlo nwi ntr nbg now_ nis nbo nsz nnu hPe hBk hBo hLk hRu hKp hTp hSh hCr hRf q kd hq hn e u
  · rcases udI_01 7 (nI kd) (by decide) with u | u
    · exact pr_as_k7 l g a b gr wk br cs lk sz z ru ki ma bp bt bb hd dr co ce kgr kwk kbr kcs klk ksz kz kru kki kma kbp kbt kbb khd kdr kco kce kp nkf ts fi tb bo rn0 rc0 ra0 rft f0 tot lat se sw sd li th tw cr by_ va su mk sk wsm tk shF sb sn sv nta nop npr nac nbd nnw nsn nwn nli nal nlo nwi ntr nbg now_ nis nbo nsz nnu hPe hBk hBo hLk hRu hKp hTp hSh hCr hRf q kd hq hn e u
    · exact pr_as_o7 l g a b gr wk br cs lk sz z ru ki ma bp bt bb hd dr co ce kgr kwk kbr kcs klk ksz kz kru kki kma kbp kbt kbb khd kdr kco kce kp nkf ts fi tb bo rn0 rc0 ra0 rft f0 tot lat se sw sd li th tw cr by_ va su mk sk wsm tk shF sb sn sv nta nop npr nac nbd nnw nsn nwn nli nal nlo nwi ntr nbg now_ nis nbo nsz nnu hPe hBk hBo hLk hRu hKp hTp hSh hCr hRf q kd hq hn e u
