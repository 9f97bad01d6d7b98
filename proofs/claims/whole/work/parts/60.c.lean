set_option maxRecDepth 100000 in
set_option maxHeartbeats 4000000 in
theorem pr_felt_b (l : Launch) (g : XG) (a b : Nat → Nat) (gr wk br cs lk sz : Nat) (z : Int32) (ru ki ma bp bt bb hd dr : Nat → Nat) (co ce : Nat → Int32) (kgr kwk kbr kcs klk ksz : Nat) (kz : Int32) (kru kki kma kbp kbt kbb khd kdr : Nat → Nat) (kco kce : Nat → Int32) (kp : Int32) (nkf : Nat → Int32) (ts : Nat) (fi tb bo : Nat → Nat) (rn0 rc0 ra0 : Nat) (rft : Int32) (f0 : Nat → Int32) (tot lat : Nat) (se sw : Int32) (sd li th tw cr by_ : Nat → Nat) (va su : Nat → Int64) (mk : Nat → Nat) (sk : Nat → Int32) (wsm : Nat → Int64) (tk : Nat → Nat) (shF : Nat → Option Nat) (sb sn : Nat → Nat) (sv : Nat → Nat → Int64) (nta nop npr nac : Nat) (nbd nnw nsn nwn : Int32) (nli nal nlo nwi ntr nbg now_ : Nat → Nat) (nis nbo : Nat → Int32) (nsz : Nat → Nat) (nnu : Nat → Int64) (hPe : PeI gr ki ma) (hBk : BkI wk ce dr) (hBo : BoI br bp bt hd) (hLk : LkI cs co lk sz bb) (hRu : RuI ru) (hKp : KpI kp nkf kgr kwk kbr kcs klk ksz kz kru kki kma kbp kbt kbb khd kdr kco kce) (hTp : TpI ts tb bo) (hSh : ShI a shF sb sn sv nbo nsz nnu) (hCr : CrI gr wk br cs sz ki ma bp bt bb dr tot lat se sw sd cr th tw) (hRf : RfI gr wk cs sz ki ma hd bb dr nnw nsn nwn nli nal nlo nwi nac) (nb : Int32) (hb : wI nb 0 11 = 0) : PairP l g yX8_felt cX8_felt 4 (some .int) [.ref ((a 0)), .int nb] yX9_felt cX9_felt 7 (some .int) [.ref ((b 0)), .int nb] (xW g a gr wk br cs z ru ki ma bp bt co ce kgr kwk kbr kcs kz kru kki kma kbp kbt kco kce kp ts fi tb bo rn0 rc0 ra0 rft f0 tot lat se sw sd li th tw cr by_ va su mk sk wsm tk shF sb sn sv) (nW g b gr wk lk sz br z ru ki ma bb ce hd kp nkf ts fi tb nta nop npr nac nbd nnw nsn nwn nli nal nlo nwi ntr nbg now_ nis nbo nsz nnu) (Rel g a b) := by
  have hgr := hPe.1
  have hki := hPe.2.1
  have hma := hPe.2.2
  have hwk := hBk.1
  have hlat := core_lat hBk
  have hL := core_L hBk
  have hbr := hBo.1
  have hbp := hBo.2.1
  have hbt := hBo.2.2.1
  have hhd := hBo.2.2.2.2.2.2
  have hcs := hLk.1
  have hsz := hLk.2.1
  have hbb := hLk.2.2.1
  have hlk := lk_le hLk
  have hV : cs ≠ 0 → ∀ p, p < 495 → evR (nmI wk (laD wk dr) p) (cdF co 0 cs) [] = some [(txV bb sz wk (laD wk dr)) p] := fun q p _ => hLk.2.2.2.2 q wk (laD wk dr) p
  have hse := hCr.1
  have hsw := hCr.2
  have hsd := sdD_le cs bb sz wk (laD wk dr)
  have hsv : ∀ p, p < 495 → sdF cs (txV bb sz wk (laD wk dr)) p = if lk = 1 then clN (txV bb sz wk (laD wk dr) p) else 1 := fun p _ => lk_sd hLk _ _ p
  have hwo := hRf.1
  have hwc := hRf.2
  have htot := to_lt hPe hBo (laD wk dr) (sdF cs (txV bb sz wk (laD wk dr)))
  have e1 := cr_eq hBo gr ki ma (laD wk dr) (sdF cs (txV bb sz wk (laD wk dr)))
  have e2 := to_eq hBo gr ki ma (laD wk dr) (sdF cs (txV bb sz wk (laD wk dr)))
  have hts := hTp.1
  have htb := hTp.2.1
  have hbo := hTp.2.2
  refine ⟨.int (fndI 0), 10, 34, _, _, by decide, by decide, Or.inl ⟨rfl, _, rfl⟩, Ct.sub [0, 49, 1] rfl rfl ?_ (ct_felt_b l g (a 0) (a 1) (a 9) (a 17) (a 24) (a 33) (a 36) (a 39) (a 40) (a 49) ts kp (a 2) (a 3) (a 4) (a 5) (a 6) (a 7) (a 8) gr br cs wk z fi nb (hb)), Ct.sub [0, 3, 1] rfl rfl ?_ (ct_nfelt_b l g (b 0) (b 1) (b 2) (b 3) (b 4) (b 5) (b 6) (b 7) (b 8) (b 9) (b 10) (b 11) (b 12) (b 13) (b 14) (b 15) (b 16) (b 17) (b 18) (b 19) ts nta nop npr nac kp nbd 0 nnw nsn nwn fi nb gr wk lk sz br z ru ki ma bb hd ce (hb)), ?_⟩
  · rintro v w ⟨rfl, rfl⟩; rfl
  · rintro v w ⟨rfl, rfl⟩; rfl
  · rintro v1 w1 v2 w2 ⟨wq1, ⟨rfl, rfl⟩, rfl⟩ ⟨wq2, ⟨rfl, rfl⟩, rfl⟩
    refine ⟨rfl, rfl, rel_mk g a b gr wk br cs lk sz z ru ki ma bp bt bb hd dr co ce kgr kwk kbr kcs klk ksz kz kru kki kma kbp kbt kbb khd kdr kco kce kp nkf ts (updN fi 0 (fi 0 + 1)) tb bo rn0 rc0 ra0 rft f0 tot lat se sw sd li th tw cr by_ va su mk sk wsm tk shF sb sn sv nta nop npr nac nbd nnw nsn nwn nli nal nlo nwi ntr nbg now_ nis nbo nsz nnu ?_ ?_ hPe hBk hBo hLk hRu hKp hTp hSh hCr hRf⟩
    · simp only [e1, e2, xW, nW, xSet, List.set_cons_zero, List.set_cons_succ, nI_zero]
    · simp only [xW, nW, xSet, List.set_cons_zero, List.set_cons_succ, nI_zero]

set_option maxRecDepth 100000 in
set_option maxHeartbeats 4000000 in
theorem pr_felt_n (l : Launch) (g : XG) (a b : Nat → Nat) (gr wk br cs lk sz : Nat) (z : Int32) (ru ki ma bp bt bb hd dr : Nat → Nat) (co ce : Nat → Int32) (kgr kwk kbr kcs klk ksz : Nat) (kz : Int32) (kru kki kma kbp kbt kbb khd kdr : Nat → Nat) (kco kce : Nat → Int32) (kp : Int32) (nkf : Nat → Int32) (ts : Nat) (fi tb bo : Nat → Nat) (rn0 rc0 ra0 : Nat) (rft : Int32) (f0 : Nat → Int32) (tot lat : Nat) (se sw : Int32) (sd li th tw cr by_ : Nat → Nat) (va su : Nat → Int64) (mk : Nat → Nat) (sk : Nat → Int32) (wsm : Nat → Int64) (tk : Nat → Nat) (shF : Nat → Option Nat) (sb sn : Nat → Nat) (sv : Nat → Nat → Int64) (nta nop npr nac : Nat) (nbd nnw nsn nwn : Int32) (nli nal nlo nwi ntr nbg now_ : Nat → Nat) (nis nbo : Nat → Int32) (nsz : Nat → Nat) (nnu : Nat → Int64) (hPe : PeI gr ki ma) (hBk : BkI wk ce dr) (hBo : BoI br bp bt hd) (hLk : LkI cs co lk sz bb) (hRu : RuI ru) (hKp : KpI kp nkf kgr kwk kbr kcs klk ksz kz kru kki kma kbp kbt kbb khd kdr kco kce) (hTp : TpI ts tb bo) (hSh : ShI a shF sb sn sv nbo nsz nnu) (hCr : CrI gr wk br cs sz ki ma bp bt bb dr tot lat se sw sd cr th tw) (hRf : RfI gr wk cs sz ki ma hd bb dr nnw nsn nwn nli nal nlo nwi nac) (n : Nat) (hn : n < 12) (hs : sumN (fun w => bitN (dr w) n) wk = 0 ∨ sumN (fun w => bitN (dr w) n) wk = wk) : PairP l g yX8_felt cX8_felt 4 (some .int) [.ref ((a 0)), .int (nI n)] yX9_felt cX9_felt 7 (some .int) [.ref ((b 0)), .int (nI n)] (xW g a gr wk br cs z ru ki ma bp bt co ce kgr kwk kbr kcs kz kru kki kma kbp kbt kco kce kp ts fi tb bo rn0 rc0 ra0 rft f0 tot lat se sw sd li th tw cr by_ va su mk sk wsm tk shF sb sn sv) (nW g b gr wk lk sz br z ru ki ma bb ce hd kp nkf ts fi tb nta nop npr nac nbd nnw nsn nwn nli nal nlo nwi ntr nbg now_ nis nbo nsz nnu) (Rel g a b) := by
  have hgr := hPe.1
  have hki := hPe.2.1
  have hma := hPe.2.2
  have hwk := hBk.1
  have hlat := core_lat hBk
  have hL := core_L hBk
  have hbr := hBo.1
  have hbp := hBo.2.1
  have hbt := hBo.2.2.1
  have hhd := hBo.2.2.2.2.2.2
  have hcs := hLk.1
  have hsz := hLk.2.1
  have hbb := hLk.2.2.1
  have hlk := lk_le hLk
  have hV : cs ≠ 0 → ∀ p, p < 495 → evR (nmI wk (laD wk dr) p) (cdF co 0 cs) [] = some [(txV bb sz wk (laD wk dr)) p] := fun q p _ => hLk.2.2.2.2 q wk (laD wk dr) p
  have hse := hCr.1
  have hsw := hCr.2
  have hsd := sdD_le cs bb sz wk (laD wk dr)
  have hsv : ∀ p, p < 495 → sdF cs (txV bb sz wk (laD wk dr)) p = if lk = 1 then clN (txV bb sz wk (laD wk dr) p) else 1 := fun p _ => lk_sd hLk _ _ p
  have hwo := hRf.1
  have hwc := hRf.2
  have htot := to_lt hPe hBo (laD wk dr) (sdF cs (txV bb sz wk (laD wk dr)))
  have e1 := cr_eq hBo gr ki ma (laD wk dr) (sdF cs (txV bb sz wk (laD wk dr)))
  have e2 := to_eq hBo gr ki ma (laD wk dr) (sdF cs (txV bb sz wk (laD wk dr)))
  have hts := hTp.1
  have htb := hTp.2.1
  have hbo := hTp.2.2
  refine ⟨.int (fndI 3), 10, 34, _, _, by decide, by decide, Or.inl ⟨rfl, _, rfl⟩, Ct.sub [0, 49, 1, 8] rfl rfl ?_ (ct_felt_n l g (a 0) (a 1) (a 9) (a 17) (a 24) (a 33) (a 36) (a 39) (a 40) (a 49) ts kp (a 2) (a 3) (a 4) (a 5) (a 6) (a 7) (a 8) gr br cs wk z fi ce n dr (hwk) (hn) (fun w hw => hBk.2.1 w hw) (hs)), Ct.sub [0, 3, 1] rfl rfl ?_ (ct_nfelt_n l g (b 0) (b 1) (b 2) (b 3) (b 4) (b 5) (b 6) (b 7) (b 8) (b 9) (b 10) (b 11) (b 12) (b 13) (b 14) (b 15) (b 16) (b 17) (b 18) (b 19) ts nta nop npr nac kp nbd 0 nnw nsn nwn gr wk lk sz br z ru ki ma bb hd ce n dr fi (hwk) (fun w hw => by rw [Nat.mul_comm]; exact hBk.2.1 w hw) (hn) (hs)), ?_⟩
  · rintro v w ⟨rfl, rfl⟩; rfl
  · rintro v w ⟨rfl, rfl⟩; rfl
  · rintro v1 w1 v2 w2 ⟨wq1, ⟨rfl, rfl⟩, rfl⟩ ⟨wq2, ⟨rfl, rfl⟩, rfl⟩
    refine ⟨rfl, rfl, rel_mk g a b gr wk br cs lk sz z ru ki ma bp bt bb hd dr co ce kgr kwk kbr kcs klk ksz kz kru kki kma kbp kbt kbb khd kdr kco kce kp nkf ts (updN fi 3 (fi 3 + 1)) tb bo rn0 rc0 ra0 rft f0 tot lat se sw sd li th tw cr by_ va su mk sk wsm tk shF sb sn sv nta nop npr nac nbd nnw nsn nwn nli nal nlo nwi ntr nbg now_ nis nbo nsz nnu ?_ ?_ hPe hBk hBo hLk hRu hKp hTp hSh hCr hRf⟩
    · simp only [e1, e2, xW, nW, xSet, List.set_cons_zero, List.set_cons_succ, nI_zero]
    · simp only [xW, nW, xSet, List.set_cons_zero, List.set_cons_succ, nI_zero]

set_option maxRecDepth 100000 in
set_option maxHeartbeats 4000000 in
theorem pr_felt_o (l : Launch) (g : XG) (a b : Nat → Nat) (gr wk br cs lk sz : Nat) (z : Int32) (ru ki ma bp bt bb hd dr : Nat → Nat) (co ce : Nat → Int32) (kgr kwk kbr kcs klk ksz : Nat) (kz : Int32) (kru kki kma kbp kbt kbb khd kdr : Nat → Nat) (kco kce : Nat → Int32) (kp : Int32) (nkf : Nat → Int32) (ts : Nat) (fi tb bo : Nat → Nat) (rn0 rc0 ra0 : Nat) (rft : Int32) (f0 : Nat → Int32) (tot lat : Nat) (se sw : Int32) (sd li th tw cr by_ : Nat → Nat) (va su : Nat → Int64) (mk : Nat → Nat) (sk : Nat → Int32) (wsm : Nat → Int64) (tk : Nat → Nat) (shF : Nat → Option Nat) (sb sn : Nat → Nat) (sv : Nat → Nat → Int64) (nta nop npr nac : Nat) (nbd nnw nsn nwn : Int32) (nli nal nlo nwi ntr nbg now_ : Nat → Nat) (nis nbo : Nat → Int32) (nsz : Nat → Nat) (nnu : Nat → Int64) (hPe : PeI gr ki ma) (hBk : BkI wk ce dr) (hBo : BoI br bp bt hd) (hLk : LkI cs co lk sz bb) (hRu : RuI ru) (hKp : KpI kp nkf kgr kwk kbr kcs klk ksz kz kru kki kma kbp kbt kbb khd kdr kco kce) (hTp : TpI ts tb bo) (hSh : ShI a shF sb sn sv nbo nsz nnu) (hCr : CrI gr wk br cs sz ki ma bp bt bb dr tot lat se sw sd cr th tw) (hRf : RfI gr wk cs sz ki ma hd bb dr nnw nsn nwn nli nal nlo nwi nac) (n : Nat) (hn : n < 12) (hs : ¬ sumN (fun w => bitN (dr w) n) wk = 0 ∧ ¬ sumN (fun w => bitN (dr w) n) wk = wk) : PairP l g yX8_felt cX8_felt 4 (some .int) [.ref ((a 0)), .int (nI n)] yX9_felt cX9_felt 7 (some .int) [.ref ((b 0)), .int (nI n)] (xW g a gr wk br cs z ru ki ma bp bt co ce kgr kwk kbr kcs kz kru kki kma kbp kbt kco kce kp ts fi tb bo rn0 rc0 ra0 rft f0 tot lat se sw sd li th tw cr by_ va su mk sk wsm tk shF sb sn sv) (nW g b gr wk lk sz br z ru ki ma bb ce hd kp nkf ts fi tb nta nop npr nac nbd nnw nsn nwn nli nal nlo nwi ntr nbg now_ nis nbo nsz nnu) (Rel g a b) := by
  have hgr := hPe.1
  have hki := hPe.2.1
  have hma := hPe.2.2
  have hwk := hBk.1
  have hlat := core_lat hBk
  have hL := core_L hBk
  have hbr := hBo.1
  have hbp := hBo.2.1
  have hbt := hBo.2.2.1
  have hhd := hBo.2.2.2.2.2.2
  have hcs := hLk.1
  have hsz := hLk.2.1
  have hbb := hLk.2.2.1
  have hlk := lk_le hLk
  have hV : cs ≠ 0 → ∀ p, p < 495 → evR (nmI wk (laD wk dr) p) (cdF co 0 cs) [] = some [(txV bb sz wk (laD wk dr)) p] := fun q p _ => hLk.2.2.2.2 q wk (laD wk dr) p
  have hse := hCr.1
  have hsw := hCr.2
  have hsd := sdD_le cs bb sz wk (laD wk dr)
  have hsv : ∀ p, p < 495 → sdF cs (txV bb sz wk (laD wk dr)) p = if lk = 1 then clN (txV bb sz wk (laD wk dr) p) else 1 := fun p _ => lk_sd hLk _ _ p
  have hwo := hRf.1
  have hwc := hRf.2
  have htot := to_lt hPe hBo (laD wk dr) (sdF cs (txV bb sz wk (laD wk dr)))
  have e1 := cr_eq hBo gr ki ma (laD wk dr) (sdF cs (txV bb sz wk (laD wk dr)))
  have e2 := to_eq hBo gr ki ma (laD wk dr) (sdF cs (txV bb sz wk (laD wk dr)))
  have hts := hTp.1
  have htb := hTp.2.1
  have hbo := hTp.2.2
  refine ⟨.int (rtwI ce dr n wk 1 / nI (sumN (fun w => bitN (dr w) n) wk) - rtwI ce dr n wk 0 / nI (wk - sumN (fun w => bitN (dr w) n) wk)), 10, 34, _, _, by decide, by decide, Or.inl ⟨rfl, _, rfl⟩, Ct.sub [0, 49, 1, 8] rfl rfl ?_ (ct_felt_o l g (a 0) (a 1) (a 9) (a 17) (a 24) (a 33) (a 36) (a 39) (a 40) (a 49) ts kp (a 2) (a 3) (a 4) (a 5) (a 6) (a 7) (a 8) gr br cs wk z fi ce n dr (hwk) (hn) (fun w hw => hBk.2.1 w hw) (hs)), Ct.sub [0, 3, 1] rfl rfl ?_ (ct_nfelt_o l g (b 0) (b 1) (b 2) (b 3) (b 4) (b 5) (b 6) (b 7) (b 8) (b 9) (b 10) (b 11) (b 12) (b 13) (b 14) (b 15) (b 16) (b 17) (b 18) (b 19) ts nta nop npr nac kp nbd 0 nnw nsn nwn gr wk lk sz br z ru ki ma bb hd ce n dr fi (hwk) (fun w hw => by rw [Nat.mul_comm]; exact hBk.2.1 w hw) (hn) (hs)), ?_⟩
  · rintro v w ⟨rfl, rfl⟩; rfl
  · rintro v w ⟨rfl, rfl⟩; rfl
  · rintro v1 w1 v2 w2 ⟨wq1, ⟨rfl, rfl⟩, rfl⟩ ⟨wq2, ⟨rfl, rfl⟩, rfl⟩
    refine ⟨rfl, by rw [rtw_eq1, rtw_eq0], rel_mk g a b gr wk br cs lk sz z ru ki ma bp bt bb hd dr co ce kgr kwk kbr kcs klk ksz kz kru kki kma kbp kbt kbb khd kdr kco kce kp nkf ts fi tb bo rn0 rc0 ra0 rft f0 tot lat se sw sd li th tw cr by_ va su mk sk wsm tk shF sb sn sv nta nop npr nac nbd nnw nsn nwn nli nal nlo nwi ntr nbg now_ nis nbo nsz nnu ?_ ?_ hPe hBk hBo hLk hRu hKp hTp hSh hCr hRf⟩
    · simp only [e1, e2, xW, nW, xSet, List.set_cons_zero, List.set_cons_succ, nI_zero]
    · simp only [xW, nW, xSet, List.set_cons_zero, List.set_cons_succ, nI_zero]

set_option maxRecDepth 100000 in
set_option maxHeartbeats 4000000 in
theorem pr_alone_b (l : Launch) (g : XG) (a b : Nat → Nat) (gr wk br cs lk sz : Nat) (z : Int32) (ru ki ma bp bt bb hd dr : Nat → Nat) (co ce : Nat → Int32) (kgr kwk kbr kcs klk ksz : Nat) (kz : Int32) (kru kki kma kbp kbt kbb khd kdr : Nat → Nat) (kco kce : Nat → Int32) (kp : Int32) (nkf : Nat → Int32) (ts : Nat) (fi tb bo : Nat → Nat) (rn0 rc0 ra0 : Nat) (rft : Int32) (f0 : Nat → Int32) (tot lat : Nat) (se sw : Int32) (sd li th tw cr by_ : Nat → Nat) (va su : Nat → Int64) (mk : Nat → Nat) (sk : Nat → Int32) (wsm : Nat → Int64) (tk : Nat → Nat) (shF : Nat → Option Nat) (sb sn : Nat → Nat) (sv : Nat → Nat → Int64) (nta nop npr nac : Nat) (nbd nnw nsn nwn : Int32) (nli nal nlo nwi ntr nbg now_ : Nat → Nat) (nis nbo : Nat → Int32) (nsz : Nat → Nat) (nnu : Nat → Int64) (hPe : PeI gr ki ma) (hBk : BkI wk ce dr) (hBo : BoI br bp bt hd) (hLk : LkI cs co lk sz bb) (hRu : RuI ru) (hKp : KpI kp nkf kgr kwk kbr kcs klk ksz kz kru kki kma kbp kbt kbb khd kdr kco kce) (hTp : TpI ts tb bo) (hSh : ShI a shF sb sn sv nbo nsz nnu) (hCr : CrI gr wk br cs sz ki ma bp bt bb dr tot lat se sw sd cr th tw) (hRf : RfI gr wk cs sz ki ma hd bb dr nnw nsn nwn nli nal nlo nwi nac) (wh : Int32) (hb : wI wh 0 1 = 0) : PairP l g yX8_alone cX8_alone 5 (some .int) [.ref ((a 0)), .int wh] yX9_alone cX9_alone 5 (some .int) [.ref ((b 0)), .int wh] (xW g a gr wk br cs z ru ki ma bp bt co ce kgr kwk kbr kcs kz kru kki kma kbp kbt kco kce kp ts fi tb bo rn0 rc0 ra0 rft f0 tot lat se sw sd li th tw cr by_ va su mk sk wsm tk shF sb sn sv) (nW g b gr wk lk sz br z ru ki ma bb ce hd kp nkf ts fi tb nta nop npr nac nbd nnw nsn nwn nli nal nlo nwi ntr nbg now_ nis nbo nsz nnu) (Rel g a b) := by
  have hgr := hPe.1
  have hki := hPe.2.1
  have hma := hPe.2.2
  have hwk := hBk.1
  have hlat := core_lat hBk
  have hL := core_L hBk
  have hbr := hBo.1
  have hbp := hBo.2.1
  have hbt := hBo.2.2.1
  have hhd := hBo.2.2.2.2.2.2
  have hcs := hLk.1
  have hsz := hLk.2.1
  have hbb := hLk.2.2.1
  have hlk := lk_le hLk
  have hV : cs ≠ 0 → ∀ p, p < 495 → evR (nmI wk (laD wk dr) p) (cdF co 0 cs) [] = some [(txV bb sz wk (laD wk dr)) p] := fun q p _ => hLk.2.2.2.2 q wk (laD wk dr) p
  have hse := hCr.1
  have hsw := hCr.2
  have hsd := sdD_le cs bb sz wk (laD wk dr)
  have hsv : ∀ p, p < 495 → sdF cs (txV bb sz wk (laD wk dr)) p = if lk = 1 then clN (txV bb sz wk (laD wk dr) p) else 1 := fun p _ => lk_sd hLk _ _ p
  have hwo := hRf.1
  have hwc := hRf.2
  have htot := to_lt hPe hBo (laD wk dr) (sdF cs (txV bb sz wk (laD wk dr)))
  have e1 := cr_eq hBo gr ki ma (laD wk dr) (sdF cs (txV bb sz wk (laD wk dr)))
  have e2 := to_eq hBo gr ki ma (laD wk dr) (sdF cs (txV bb sz wk (laD wk dr)))
  have hts := hTp.1
  have htb := hTp.2.1
  have hbo := hTp.2.2
  refine ⟨.int (fndI 0), 32, 34, _, _, by decide, by decide, Or.inl ⟨rfl, _, rfl⟩, Ct.sub [0, 49, 1] rfl rfl ?_ (ct_alone_b l g (a 0) (a 1) (a 9) (a 17) (a 24) (a 33) (a 36) (a 39) (a 40) (a 49) ts kp (a 2) (a 3) (a 4) (a 5) (a 6) (a 7) (a 8) gr br cs wk z fi wh (hb)), Ct.sub [0, 3] rfl rfl ?_ (ct_nalone_b l g (b 0) (b 1) (b 2) (b 3) (b 4) (b 5) (b 6) (b 7) (b 8) (b 9) (b 10) (b 11) (b 12) (b 13) (b 14) (b 15) (b 16) (b 17) (b 18) (b 19) ts nta nop npr nac kp nbd 0 nnw nsn nwn fi wh (hb)), ?_⟩
  · rintro v w ⟨rfl, rfl⟩; rfl
  · rintro v w ⟨rfl, rfl⟩; rfl
  · rintro v1 w1 v2 w2 ⟨wq1, ⟨rfl, rfl⟩, rfl⟩ ⟨wq2, ⟨rfl, rfl⟩, rfl⟩
    refine ⟨rfl, rfl, rel_mk g a b gr wk br cs lk sz z ru ki ma bp bt bb hd dr co ce kgr kwk kbr kcs klk ksz kz kru kki kma kbp kbt kbb khd kdr kco kce kp nkf ts (updN fi 0 (fi 0 + 1)) tb bo rn0 rc0 ra0 rft f0 tot lat se sw sd li th tw cr by_ va su mk sk wsm tk shF sb sn sv nta nop npr nac nbd nnw nsn nwn nli nal nlo nwi ntr nbg now_ nis nbo nsz nnu ?_ ?_ hPe hBk hBo hLk hRu hKp hTp hSh hCr hRf⟩
    · simp only [e1, e2, xW, nW, xSet, List.set_cons_zero, List.set_cons_succ, nI_zero]
    · simp only [xW, nW, xSet, List.set_cons_zero, List.set_cons_succ, nI_zero]

set_option maxRecDepth 100000 in
set_option maxHeartbeats 4000000 in
theorem pr_alone_0 (l : Launch) (g : XG) (a b : Nat → Nat) (gr wk br cs lk sz : Nat) (z : Int32) (ru ki ma bp bt bb hd dr : Nat → Nat) (co ce : Nat → Int32) (kgr kwk kbr kcs klk ksz : Nat) (kz : Int32) (kru kki kma kbp kbt kbb khd kdr : Nat → Nat) (kco kce : Nat → Int32) (kp : Int32) (nkf : Nat → Int32) (ts : Nat) (fi tb bo : Nat → Nat) (rn0 rc0 ra0 : Nat) (rft : Int32) (f0 : Nat → Int32) (tot lat : Nat) (se sw : Int32) (sd li th tw cr by_ : Nat → Nat) (va su : Nat → Int64) (mk : Nat → Nat) (sk : Nat → Int32) (wsm : Nat → Int64) (tk : Nat → Nat) (shF : Nat → Option Nat) (sb sn : Nat → Nat) (sv : Nat → Nat → Int64) (nta nop npr nac : Nat) (nbd nnw nsn nwn : Int32) (nli nal nlo nwi ntr nbg now_ : Nat → Nat) (nis nbo : Nat → Int32) (nsz : Nat → Nat) (nnu : Nat → Int64) (hPe : PeI gr ki ma) (hBk : BkI wk ce dr) (hBo : BoI br bp bt hd) (hLk : LkI cs co lk sz bb) (hRu : RuI ru) (hKp : KpI kp nkf kgr kwk kbr kcs klk ksz kz kru kki kma kbp kbt kbb khd kdr kco kce) (hTp : TpI ts tb bo) (hSh : ShI a shF sb sn sv nbo nsz nnu) (hCr : CrI gr wk br cs sz ki ma bp bt bb dr tot lat se sw sd cr th tw) (hRf : RfI gr wk cs sz ki ma hd bb dr nnw nsn nwn nli nal nlo nwi nac) : PairP l g yX8_alone cX8_alone 5 (some .int) [.ref ((a 0)), .int 0] yX9_alone cX9_alone 5 (some .int) [.ref ((b 0)), .int 0] (xW g a gr wk br cs z ru ki ma bp bt co ce kgr kwk kbr kcs kz kru kki kma kbp kbt kco kce kp ts fi tb bo rn0 rc0 ra0 rft f0 tot lat se sw sd li th tw cr by_ va su mk sk wsm tk shF sb sn sv) (nW g b gr wk lk sz br z ru ki ma bb ce hd kp nkf ts fi tb nta nop npr nac nbd nnw nsn nwn nli nal nlo nwi ntr nbg now_ nis nbo nsz nnu) (Rel g a b) := by
  have hgr := hPe.1
  have hki := hPe.2.1
  have hma := hPe.2.2
  have hwk := hBk.1
  have hlat := core_lat hBk
  have hL := core_L hBk
  have hbr := hBo.1
  have hbp := hBo.2.1
  have hbt := hBo.2.2.1
  have hhd := hBo.2.2.2.2.2.2
  have hcs := hLk.1
  have hsz := hLk.2.1
  have hbb := hLk.2.2.1
  have hlk := lk_le hLk
  have hV : cs ≠ 0 → ∀ p, p < 495 → evR (nmI wk (laD wk dr) p) (cdF co 0 cs) [] = some [(txV bb sz wk (laD wk dr)) p] := fun q p _ => hLk.2.2.2.2 q wk (laD wk dr) p
  have hse := hCr.1
  have hsw := hCr.2
  have hsd := sdD_le cs bb sz wk (laD wk dr)
  have hsv : ∀ p, p < 495 → sdF cs (txV bb sz wk (laD wk dr)) p = if lk = 1 then clN (txV bb sz wk (laD wk dr) p) else 1 := fun p _ => lk_sd hLk _ _ p
  have hwo := hRf.1
  have hwc := hRf.2
  have htot := to_lt hPe hBo (laD wk dr) (sdF cs (txV bb sz wk (laD wk dr)))
  have e1 := cr_eq hBo gr ki ma (laD wk dr) (sdF cs (txV bb sz wk (laD wk dr)))
  have e2 := to_eq hBo gr ki ma (laD wk dr) (sdF cs (txV bb sz wk (laD wk dr)))
  have hts := hTp.1
  have htb := hTp.2.1
  have hbo := hTp.2.2
  refine ⟨.int (nI (alC (crF gr ki ma bp bt br (laD wk dr) (sdF cs (txV bb sz wk (laD wk dr)))) 495)), 32, 34, _, _, by decide, by decide, Or.inl ⟨rfl, _, rfl⟩, Ct.sub [0, 49, 24, 25, 26, 29, 17, 18, 19, 31, 32, 1, 2, 3, 4, 5, 6, 8] rfl rfl ?_ (ct_alone_0 l g (a 0) (a 9) (a 33) (a 36) (a 39) (a 40) (a 49) ts kp (a 24) (a 1) (a 17) (a 31) (a 20) (a 25) (a 26) (a 27) (a 28) (a 29) (a 30) tot lat se sw (a 18) (a 19) (a 32) (a 2) (a 3) (a 4) (a 5) (a 6) (a 7) (a 8) gr br cs wk z sd li cr ki ma bp bt co ce sk (txV bb sz wk (laD wk dr)) (laD wk dr) fi (hgr) (hbr) (hcs) (hwk) (hki) (hma) (hbp) (hlat) (hL) (hV) (hse)), Ct.sub [0, 3, 1, 8, 7, 4, 6, 12, 13, 14] rfl rfl ?_ (ct_nalone_0 l g (b 0) (b 1) (b 2) (b 3) (b 4) (b 5) (b 6) (b 7) (b 8) (b 9) (b 10) (b 11) (b 12) (b 13) (b 14) (b 15) (b 16) (b 17) (b 18) (b 19) ts nta nop npr nac kp nbd nnw nsn nwn gr wk lk sz br z ru ki ma bb hd ce tb nli nal nlo (sdF cs (txV bb sz wk (laD wk dr))) (laD wk dr) fi 0 (hgr) (hki) (hma) (hwk) (hlat) (hL) (hsz) (hbb) (hsd) (hsv) (hlk) (hwo)), ?_⟩
  · rintro v w ⟨li2_x, sk2_x, rfl, rfl⟩; rfl
  · rintro v w ⟨zat_n, zop_n, zbd_n, zpr_n, lo2_n, rfl, rfl, P0n⟩; rfl
  · rintro v1 w1 v2 w2 ⟨wq1, ⟨li2_x, sk2_x, rfl, rfl⟩, rfl⟩ ⟨wq2, ⟨zat_n, zop_n, zbd_n, zpr_n, lo2_n, rfl, rfl, P0n⟩, rfl⟩
    refine ⟨rfl, by rw [e1, al_cnt], rel_mk g a b gr wk br cs lk sz z ru ki ma bp bt bb hd dr co ce kgr kwk kbr kcs klk ksz kz kru kki kma kbp kbt kbb khd kdr kco kce kp nkf ts fi tb bo rn0 rc0 ra0 rft f0 (totF gr ki ma bp bt br (laD wk dr) (sdF cs (txV bb sz wk (laD wk dr)))) (laD wk dr) 1 sw (sdF cs (txV bb sz wk (laD wk dr))) li2_x th tw (crF gr ki ma bp bt br (laD wk dr) (sdF cs (txV bb sz wk (laD wk dr)))) by_ va su mk sk2_x wsm tk shF sb sn sv zat_n zop_n zpr_n (toH gr ki ma hd (laD wk dr) (sdF cs (txV bb sz wk (laD wk dr)))) zbd_n 0 0 (wnI nnw nwn) (sdF cs (txV bb sz wk (laD wk dr))) (crH gr ki ma hd (laD wk dr) (sdF cs (txV bb sz wk (laD wk dr)))) lo2_n nwi ntr nbg now_ nis nbo nsz nnu ?_ ?_ hPe hBk hBo hLk hRu hKp hTp hSh ⟨Or.inr ⟨rfl, rfl, rfl, rfl, rfl⟩, hCr.2⟩ ⟨Or.inr ⟨rfl, rfl, rfl, rfl, rfl, P0n⟩, by rw [wnI_0]; exact hRf.2⟩⟩
    · simp only [e1, e2, xW, nW, xSet, List.set_cons_zero, List.set_cons_succ, nI_zero]
    · simp only [xW, nW, xSet, List.set_cons_zero, List.set_cons_succ, nI_zero]

set_option maxRecDepth 100000 in
set_option maxHeartbeats 4000000 in
theorem pr_alone_1 (l : Launch) (g : XG) (a b : Nat → Nat) (gr wk br cs lk sz : Nat) (z : Int32) (ru ki ma bp bt bb hd dr : Nat → Nat) (co ce : Nat → Int32) (kgr kwk kbr kcs klk ksz : Nat) (kz : Int32) (kru kki kma kbp kbt kbb khd kdr : Nat → Nat) (kco kce : Nat → Int32) (kp : Int32) (nkf : Nat → Int32) (ts : Nat) (fi tb bo : Nat → Nat) (rn0 rc0 ra0 : Nat) (rft : Int32) (f0 : Nat → Int32) (tot lat : Nat) (se sw : Int32) (sd li th tw cr by_ : Nat → Nat) (va su : Nat → Int64) (mk : Nat → Nat) (sk : Nat → Int32) (wsm : Nat → Int64) (tk : Nat → Nat) (shF : Nat → Option Nat) (sb sn : Nat → Nat) (sv : Nat → Nat → Int64) (nta nop npr nac : Nat) (nbd nnw nsn nwn : Int32) (nli nal nlo nwi ntr nbg now_ : Nat → Nat) (nis nbo : Nat → Int32) (nsz : Nat → Nat) (nnu : Nat → Int64) (hPe : PeI gr ki ma) (hBk : BkI wk ce dr) (hBo : BoI br bp bt hd) (hLk : LkI cs co lk sz bb) (hRu : RuI ru) (hKp : KpI kp nkf kgr kwk kbr kcs klk ksz kz kru kki kma kbp kbt kbb khd kdr kco kce) (hTp : TpI ts tb bo) (hSh : ShI a shF sb sn sv nbo nsz nnu) (hCr : CrI gr wk br cs sz ki ma bp bt bb dr tot lat se sw sd cr th tw) (hRf : RfI gr wk cs sz ki ma hd bb dr nnw nsn nwn nli nal nlo nwi nac) (p : Nat) (hp1 : p < 495) (hal : alA (crF gr ki ma bp bt br (laD wk dr) (sdF cs (txV bb sz wk (laD wk dr)))) 495 = nI p) : PairP l g yX8_alone cX8_alone 5 (some .int) [.ref ((a 0)), .int 1] yX9_alone cX9_alone 5 (some .int) [.ref ((b 0)), .int 1] (xW g a gr wk br cs z ru ki ma bp bt co ce kgr kwk kbr kcs kz kru kki kma kbp kbt kco kce kp ts fi tb bo rn0 rc0 ra0 rft f0 tot lat se sw sd li th tw cr by_ va su mk sk wsm tk shF sb sn sv) (nW g b gr wk lk sz br z ru ki ma bb ce hd kp nkf ts fi tb nta nop npr nac nbd nnw nsn nwn nli nal nlo nwi ntr nbg now_ nis nbo nsz nnu) (Rel g a b) := by
  have hgr := hPe.1
  have hki := hPe.2.1
  have hma := hPe.2.2
  have hwk := hBk.1
  have hlat := core_lat hBk
  have hL := core_L hBk
  have hbr := hBo.1
  have hbp := hBo.2.1
  have hbt := hBo.2.2.1
  have hhd := hBo.2.2.2.2.2.2
  have hcs := hLk.1
  have hsz := hLk.2.1
  have hbb := hLk.2.2.1
  have hlk := lk_le hLk
  have hV : cs ≠ 0 → ∀ p, p < 495 → evR (nmI wk (laD wk dr) p) (cdF co 0 cs) [] = some [(txV bb sz wk (laD wk dr)) p] := fun q p _ => hLk.2.2.2.2 q wk (laD wk dr) p
  have hse := hCr.1
  have hsw := hCr.2
  have hsd := sdD_le cs bb sz wk (laD wk dr)
  have hsv : ∀ p, p < 495 → sdF cs (txV bb sz wk (laD wk dr)) p = if lk = 1 then clN (txV bb sz wk (laD wk dr) p) else 1 := fun p _ => lk_sd hLk _ _ p
  have hwo := hRf.1
  have hwc := hRf.2
  have htot := to_lt hPe hBo (laD wk dr) (sdF cs (txV bb sz wk (laD wk dr)))
  have e1 := cr_eq hBo gr ki ma (laD wk dr) (sdF cs (txV bb sz wk (laD wk dr)))
  have e2 := to_eq hBo gr ki ma (laD wk dr) (sdF cs (txV bb sz wk (laD wk dr)))
  have hts := hTp.1
  have htb := hTp.2.1
  have hbo := hTp.2.2
  refine ⟨.int (nI p), 32, 34, _, _, by decide, by decide, Or.inl ⟨rfl, _, rfl⟩, Ct.sub [0, 49, 24, 25, 26, 29, 17, 18, 19, 31, 32, 1, 2, 3, 4, 5, 6, 8] rfl rfl ?_ (ct_alone_1 l g (a 0) (a 9) (a 33) (a 36) (a 39) (a 40) (a 49) ts kp (a 24) (a 1) (a 17) (a 31) (a 20) (a 25) (a 26) (a 27) (a 28) (a 29) (a 30) tot lat se sw (a 18) (a 19) (a 32) (a 2) (a 3) (a 4) (a 5) (a 6) (a 7) (a 8) gr br cs wk z sd li cr ki ma bp bt co ce sk (txV bb sz wk (laD wk dr)) (laD wk dr) fi p (hgr) (hbr) (hcs) (hwk) (hki) (hma) (hbp) (hlat) (hL) (hV) (hse) (hp1) (hal)), Ct.sub [0, 3, 1, 8, 7, 4, 6, 12, 13, 14] rfl rfl ?_ (ct_nalone_1 l g (b 0) (b 1) (b 2) (b 3) (b 4) (b 5) (b 6) (b 7) (b 8) (b 9) (b 10) (b 11) (b 12) (b 13) (b 14) (b 15) (b 16) (b 17) (b 18) (b 19) ts nta nop npr nac kp nbd nnw nsn nwn gr wk lk sz br z ru ki ma bb hd ce tb nli nal nlo (sdF cs (txV bb sz wk (laD wk dr))) (laD wk dr) fi p (hgr) (hki) (hma) (hwk) (hlat) (hL) (hsz) (hbb) (hsd) (hsv) (hlk) (hwo) (hp1) (by rw [← al_fst, ← e1]; exact hal)), ?_⟩
  · rintro v w ⟨li2_x, sk2_x, rfl, rfl⟩; rfl
  · rintro v w ⟨zat_n, zop_n, zbd_n, zpr_n, lo2_n, rfl, rfl, P0n⟩; rfl
  · rintro v1 w1 v2 w2 ⟨wq1, ⟨li2_x, sk2_x, rfl, rfl⟩, rfl⟩ ⟨wq2, ⟨zat_n, zop_n, zbd_n, zpr_n, lo2_n, rfl, rfl, P0n⟩, rfl⟩
    refine ⟨rfl, rfl, rel_mk g a b gr wk br cs lk sz z ru ki ma bp bt bb hd dr co ce kgr kwk kbr kcs klk ksz kz kru kki kma kbp kbt kbb khd kdr kco kce kp nkf ts fi tb bo rn0 rc0 ra0 rft f0 (totF gr ki ma bp bt br (laD wk dr) (sdF cs (txV bb sz wk (laD wk dr)))) (laD wk dr) 1 sw (sdF cs (txV bb sz wk (laD wk dr))) li2_x th tw (crF gr ki ma bp bt br (laD wk dr) (sdF cs (txV bb sz wk (laD wk dr)))) by_ va su mk sk2_x wsm tk shF sb sn sv zat_n zop_n zpr_n (toH gr ki ma hd (laD wk dr) (sdF cs (txV bb sz wk (laD wk dr)))) zbd_n 0 0 (wnI nnw nwn) (sdF cs (txV bb sz wk (laD wk dr))) (crH gr ki ma hd (laD wk dr) (sdF cs (txV bb sz wk (laD wk dr)))) lo2_n nwi ntr nbg now_ nis nbo nsz nnu ?_ ?_ hPe hBk hBo hLk hRu hKp hTp hSh ⟨Or.inr ⟨rfl, rfl, rfl, rfl, rfl⟩, hCr.2⟩ ⟨Or.inr ⟨rfl, rfl, rfl, rfl, rfl, P0n⟩, by rw [wnI_0]; exact hRf.2⟩⟩
    · simp only [e1, e2, xW, nW, xSet, List.set_cons_zero, List.set_cons_succ, nI_zero]
    · simp only [xW, nW, xSet, List.set_cons_zero, List.set_cons_succ, nI_zero]

set_option maxRecDepth 100000 in
set_option maxHeartbeats 4000000 in
theorem pr_alone_n (l : Launch) (g : XG) (a b : Nat → Nat) (gr wk br cs lk sz : Nat) (z : Int32) (ru ki ma bp bt bb hd dr : Nat → Nat) (co ce : Nat → Int32) (kgr kwk kbr kcs klk ksz : Nat) (kz : Int32) (kru kki kma kbp kbt kbb khd kdr : Nat → Nat) (kco kce : Nat → Int32) (kp : Int32) (nkf : Nat → Int32) (ts : Nat) (fi tb bo : Nat → Nat) (rn0 rc0 ra0 : Nat) (rft : Int32) (f0 : Nat → Int32) (tot lat : Nat) (se sw : Int32) (sd li th tw cr by_ : Nat → Nat) (va su : Nat → Int64) (mk : Nat → Nat) (sk : Nat → Int32) (wsm : Nat → Int64) (tk : Nat → Nat) (shF : Nat → Option Nat) (sb sn : Nat → Nat) (sv : Nat → Nat → Int64) (nta nop npr nac : Nat) (nbd nnw nsn nwn : Int32) (nli nal nlo nwi ntr nbg now_ : Nat → Nat) (nis nbo : Nat → Int32) (nsz : Nat → Nat) (nnu : Nat → Int64) (hPe : PeI gr ki ma) (hBk : BkI wk ce dr) (hBo : BoI br bp bt hd) (hLk : LkI cs co lk sz bb) (hRu : RuI ru) (hKp : KpI kp nkf kgr kwk kbr kcs klk ksz kz kru kki kma kbp kbt kbb khd kdr kco kce) (hTp : TpI ts tb bo) (hSh : ShI a shF sb sn sv nbo nsz nnu) (hCr : CrI gr wk br cs sz ki ma bp bt bb dr tot lat se sw sd cr th tw) (hRf : RfI gr wk cs sz ki ma hd bb dr nnw nsn nwn nli nal nlo nwi nac) (hal : alA (crF gr ki ma bp bt br (laD wk dr) (sdF cs (txV bb sz wk (laD wk dr)))) 495 = -1) : PairP l g yX8_alone cX8_alone 5 (some .int) [.ref ((a 0)), .int 1] yX9_alone cX9_alone 5 (some .int) [.ref ((b 0)), .int 1] (xW g a gr wk br cs z ru ki ma bp bt co ce kgr kwk kbr kcs kz kru kki kma kbp kbt kco kce kp ts fi tb bo rn0 rc0 ra0 rft f0 tot lat se sw sd li th tw cr by_ va su mk sk wsm tk shF sb sn sv) (nW g b gr wk lk sz br z ru ki ma bb ce hd kp nkf ts fi tb nta nop npr nac nbd nnw nsn nwn nli nal nlo nwi ntr nbg now_ nis nbo nsz nnu) (Rel g a b) := by
  have hgr := hPe.1
  have hki := hPe.2.1
  have hma := hPe.2.2
  have hwk := hBk.1
  have hlat := core_lat hBk
  have hL := core_L hBk
  have hbr := hBo.1
  have hbp := hBo.2.1
  have hbt := hBo.2.2.1
  have hhd := hBo.2.2.2.2.2.2
  have hcs := hLk.1
  have hsz := hLk.2.1
  have hbb := hLk.2.2.1
  have hlk := lk_le hLk
  have hV : cs ≠ 0 → ∀ p, p < 495 → evR (nmI wk (laD wk dr) p) (cdF co 0 cs) [] = some [(txV bb sz wk (laD wk dr)) p] := fun q p _ => hLk.2.2.2.2 q wk (laD wk dr) p
  have hse := hCr.1
  have hsw := hCr.2
  have hsd := sdD_le cs bb sz wk (laD wk dr)
  have hsv : ∀ p, p < 495 → sdF cs (txV bb sz wk (laD wk dr)) p = if lk = 1 then clN (txV bb sz wk (laD wk dr) p) else 1 := fun p _ => lk_sd hLk _ _ p
  have hwo := hRf.1
  have hwc := hRf.2
  have htot := to_lt hPe hBo (laD wk dr) (sdF cs (txV bb sz wk (laD wk dr)))
  have e1 := cr_eq hBo gr ki ma (laD wk dr) (sdF cs (txV bb sz wk (laD wk dr)))
  have e2 := to_eq hBo gr ki ma (laD wk dr) (sdF cs (txV bb sz wk (laD wk dr)))
  have hts := hTp.1
  have htb := hTp.2.1
  have hbo := hTp.2.2
  refine ⟨.int (fndI 3), 32, 34, _, _, by decide, by decide, Or.inl ⟨rfl, _, rfl⟩, Ct.sub [0, 49, 24, 25, 26, 29, 17, 18, 19, 31, 32, 1, 2, 3, 4, 5, 6, 8] rfl rfl ?_ (ct_alone_n l g (a 0) (a 9) (a 33) (a 36) (a 39) (a 40) (a 49) ts kp (a 24) (a 1) (a 17) (a 31) (a 20) (a 25) (a 26) (a 27) (a 28) (a 29) (a 30) tot lat se sw (a 18) (a 19) (a 32) (a 2) (a 3) (a 4) (a 5) (a 6) (a 7) (a 8) gr br cs wk z sd li cr ki ma bp bt co ce sk (txV bb sz wk (laD wk dr)) (laD wk dr) fi (hgr) (hbr) (hcs) (hwk) (hki) (hma) (hbp) (hlat) (hL) (hV) (hse) (hal)), Ct.sub [0, 3, 1, 8, 7, 4, 6, 12, 13, 14] rfl rfl ?_ (ct_nalone_n l g (b 0) (b 1) (b 2) (b 3) (b 4) (b 5) (b 6) (b 7) (b 8) (b 9) (b 10) (b 11) (b 12) (b 13) (b 14) (b 15) (b 16) (b 17) (b 18) (b 19) ts nta nop npr nac kp nbd nnw nsn nwn gr wk lk sz br z ru ki ma bb hd ce tb nli nal nlo (sdF cs (txV bb sz wk (laD wk dr))) (laD wk dr) fi 0 (hgr) (hki) (hma) (hwk) (hlat) (hL) (hsz) (hbb) (hsd) (hsv) (hlk) (hwo) (by rw [← al_fst, ← e1]; exact hal)), ?_⟩
  · rintro v w ⟨li2_x, sk2_x, rfl, rfl⟩; rfl
  · rintro v w ⟨zat_n, zop_n, zbd_n, zpr_n, lo2_n, rfl, rfl, P0n⟩; rfl
  · rintro v1 w1 v2 w2 ⟨wq1, ⟨li2_x, sk2_x, rfl, rfl⟩, rfl⟩ ⟨wq2, ⟨zat_n, zop_n, zbd_n, zpr_n, lo2_n, rfl, rfl, P0n⟩, rfl⟩
    refine ⟨rfl, rfl, rel_mk g a b gr wk br cs lk sz z ru ki ma bp bt bb hd dr co ce kgr kwk kbr kcs klk ksz kz kru kki kma kbp kbt kbb khd kdr kco kce kp nkf ts (updN fi 3 (fi 3 + 1)) tb bo rn0 rc0 ra0 rft f0 (totF gr ki ma bp bt br (laD wk dr) (sdF cs (txV bb sz wk (laD wk dr)))) (laD wk dr) 1 sw (sdF cs (txV bb sz wk (laD wk dr))) li2_x th tw (crF gr ki ma bp bt br (laD wk dr) (sdF cs (txV bb sz wk (laD wk dr)))) by_ va su mk sk2_x wsm tk shF sb sn sv zat_n zop_n zpr_n (toH gr ki ma hd (laD wk dr) (sdF cs (txV bb sz wk (laD wk dr)))) zbd_n 0 0 (wnI nnw nwn) (sdF cs (txV bb sz wk (laD wk dr))) (crH gr ki ma hd (laD wk dr) (sdF cs (txV bb sz wk (laD wk dr)))) lo2_n nwi ntr nbg now_ nis nbo nsz nnu ?_ ?_ hPe hBk hBo hLk hRu hKp hTp hSh ⟨Or.inr ⟨rfl, rfl, rfl, rfl, rfl⟩, hCr.2⟩ ⟨Or.inr ⟨rfl, rfl, rfl, rfl, rfl, P0n⟩, by rw [wnI_0]; exact hRf.2⟩⟩
    · simp only [e1, e2, xW, nW, xSet, List.set_cons_zero, List.set_cons_succ, nI_zero]
    · simp only [xW, nW, xSet, List.set_cons_zero, List.set_cons_succ, nI_zero]

set_option maxRecDepth 100000 in
set_option maxHeartbeats 4000000 in
theorem pr_image_o (l : Launch) (g : XG) (a b : Nat → Nat) (gr wk br cs lk sz : Nat) (z : Int32) (ru ki ma bp bt bb hd dr : Nat → Nat) (co ce : Nat → Int32) (kgr kwk kbr kcs klk ksz : Nat) (kz : Int32) (kru kki kma kbp kbt kbb khd kdr : Nat → Nat) (kco kce : Nat → Int32) (kp : Int32) (nkf : Nat → Int32) (ts : Nat) (fi tb bo : Nat → Nat) (rn0 rc0 ra0 : Nat) (rft : Int32) (f0 : Nat → Int32) (tot lat : Nat) (se sw : Int32) (sd li th tw cr by_ : Nat → Nat) (va su : Nat → Int64) (mk : Nat → Nat) (sk : Nat → Int32) (wsm : Nat → Int64) (tk : Nat → Nat) (shF : Nat → Option Nat) (sb sn : Nat → Nat) (sv : Nat → Nat → Int64) (nta nop npr nac : Nat) (nbd nnw nsn nwn : Int32) (nli nal nlo nwi ntr nbg now_ : Nat → Nat) (nis nbo : Nat → Int32) (nsz : Nat → Nat) (nnu : Nat → Int64) (hPe : PeI gr ki ma) (hBk : BkI wk ce dr) (hBo : BoI br bp bt hd) (hLk : LkI cs co lk sz bb) (hRu : RuI ru) (hKp : KpI kp nkf kgr kwk kbr kcs klk ksz kz kru kki kma kbp kbt kbb khd kdr kco kce) (hTp : TpI ts tb bo) (hSh : ShI a shF sb sn sv nbo nsz nnu) (hCr : CrI gr wk br cs sz ki ma bp bt bb dr tot lat se sw sd cr th tw) (hRf : RfI gr wk cs sz ki ma hd bb dr nnw nsn nwn nli nal nlo nwi nac) : PairP l g yX8_image cX8_image 1 (some .int) [.ref ((a 0))] yX9_image cX9_image 2 (some .int) [.ref ((b 0))] (xW g a gr wk br cs z ru ki ma bp bt co ce kgr kwk kbr kcs kz kru kki kma kbp kbt kco kce kp ts fi tb bo rn0 rc0 ra0 rft f0 tot lat se sw sd li th tw cr by_ va su mk sk wsm tk shF sb sn sv) (nW g b gr wk lk sz br z ru ki ma bb ce hd kp nkf ts fi tb nta nop npr nac nbd nnw nsn nwn nli nal nlo nwi ntr nbg now_ nis nbo nsz nnu) (Rel g a b) := by
  have hgr := hPe.1
  have hki := hPe.2.1
  have hma := hPe.2.2
  have hwk := hBk.1
  have hlat := core_lat hBk
  have hL := core_L hBk
  have hbr := hBo.1
  have hbp := hBo.2.1
  have hbt := hBo.2.2.1
  have hhd := hBo.2.2.2.2.2.2
  have hcs := hLk.1
  have hsz := hLk.2.1
  have hbb := hLk.2.2.1
  have hlk := lk_le hLk
  have hV : cs ≠ 0 → ∀ p, p < 495 → evR (nmI wk (laD wk dr) p) (cdF co 0 cs) [] = some [(txV bb sz wk (laD wk dr)) p] := fun q p _ => hLk.2.2.2.2 q wk (laD wk dr) p
  have hse := hCr.1
  have hsw := hCr.2
  have hsd := sdD_le cs bb sz wk (laD wk dr)
  have hsv : ∀ p, p < 495 → sdF cs (txV bb sz wk (laD wk dr)) p = if lk = 1 then clN (txV bb sz wk (laD wk dr) p) else 1 := fun p _ => lk_sd hLk _ _ p
  have hwo := hRf.1
  have hwc := hRf.2
  have htot := to_lt hPe hBo (laD wk dr) (sdF cs (txV bb sz wk (laD wk dr)))
  have e1 := cr_eq hBo gr ki ma (laD wk dr) (sdF cs (txV bb sz wk (laD wk dr)))
  have e2 := to_eq hBo gr ki ma (laD wk dr) (sdF cs (txV bb sz wk (laD wk dr)))
  have hts := hTp.1
  have htb := hTp.2.1
  have hbo := hTp.2.2
  refine ⟨.int 1, 10, 34, _, _, by decide, by decide, Or.inl ⟨rfl, _, rfl⟩, Ct.sub [0, 1, 2, 3, 4, 5, 6, 7, 8, 9, 10, 11, 12, 13, 14, 15, 16] rfl rfl ?_ (ct_image_o l g (a 0) (a 17) (a 24) (a 33) (a 36) (a 39) (a 40) (a 49) ts kp (a 1) (a 2) (a 3) (a 4) (a 5) (a 6) (a 7) (a 8) ki ma bp bt co ru ce gr br cs wk z (a 9) (a 10) (a 11) (a 12) (a 13) (a 14) (a 15) (a 16) kki kma kbp kbt kru kco kce kgr kbr kcs kwk kz ), Ct.sub [0, 1, 2] rfl rfl ?_ (ct_nimage_o l g (b 0) (b 1) (b 2) (b 3) (b 4) (b 5) (b 6) (b 7) (b 8) (b 9) (b 10) (b 11) (b 12) (b 13) (b 14) (b 15) (b 16) (b 17) (b 18) (b 19) ts nta nop npr nac kp nbd 0 nnw nsn nwn gr wk lk sz br z ru ki ma bb hd ce nkf ), ?_⟩
  · rintro v w ⟨rfl, rfl⟩; rfl
  · rintro v w ⟨rfl, rfl⟩; rfl
  · rintro v1 w1 v2 w2 ⟨wq1, ⟨rfl, rfl⟩, rfl⟩ ⟨wq2, ⟨rfl, rfl⟩, rfl⟩
    refine ⟨rfl, rfl, rel_mk g a b gr wk br cs lk sz z ru ki ma bp bt bb hd dr co ce gr wk br cs lk sz z ru ki ma bp bt bb hd dr co ce 1 (msF gr wk z lk sz br ru ki ma bb ce hd) ts fi tb bo rn0 rc0 ra0 rft f0 tot lat se sw sd li th tw cr by_ va su mk sk wsm tk shF sb sn sv nta nop npr nac nbd nnw nsn nwn nli nal nlo nwi ntr nbg now_ nis nbo nsz nnu ?_ ?_ hPe hBk hBo hLk hRu (kp_keep (kp := 1) hPe hBk hBo hLk hRu) hTp hSh hCr hRf⟩
    · simp only [e1, e2, xW, nW, xSet, List.set_cons_zero, List.set_cons_succ, nI_zero]
    · simp only [xW, nW, xSet, List.set_cons_zero, List.set_cons_succ, nI_zero]

set_option maxRecDepth 100000 in
set_option maxHeartbeats 4000000 in
theorem pr_undo_n (l : Launch) (g : XG) (a b : Nat → Nat) (gr wk br cs lk sz : Nat) (z : Int32) (ru ki ma bp bt bb hd dr : Nat → Nat) (co ce : Nat → Int32) (kgr kwk kbr kcs klk ksz : Nat) (kz : Int32) (kru kki kma kbp kbt kbb khd kdr : Nat → Nat) (kco kce nkf : Nat → Int32) (ts : Nat) (fi tb bo : Nat → Nat) (rn0 rc0 ra0 : Nat) (rft : Int32) (f0 : Nat → Int32) (tot lat : Nat) (se sw : Int32) (sd li th tw cr by_ : Nat → Nat) (va su : Nat → Int64) (mk : Nat → Nat) (sk : Nat → Int32) (wsm : Nat → Int64) (tk : Nat → Nat) (shF : Nat → Option Nat) (sb sn : Nat → Nat) (sv : Nat → Nat → Int64) (nta nop npr nac : Nat) (nbd nnw nsn nwn : Int32) (nli nal nlo nwi ntr nbg now_ : Nat → Nat) (nis nbo : Nat → Int32) (nsz : Nat → Nat) (nnu : Nat → Int64) (hPe : PeI gr ki ma) (hBk : BkI wk ce dr) (hBo : BoI br bp bt hd) (hLk : LkI cs co lk sz bb) (hRu : RuI ru) (hKp : KpI 0 nkf kgr kwk kbr kcs klk ksz kz kru kki kma kbp kbt kbb khd kdr kco kce) (hTp : TpI ts tb bo) (hSh : ShI a shF sb sn sv nbo nsz nnu) (hCr : CrI gr wk br cs sz ki ma bp bt bb dr tot lat se sw sd cr th tw) (hRf : RfI gr wk cs sz ki ma hd bb dr nnw nsn nwn nli nal nlo nwi nac) : PairP l g yX8_undo cX8_undo 1 (some .int) [.ref ((a 0))] yX9_undo cX9_undo 2 (some .int) [.ref ((b 0))] (xW g a gr wk br cs z ru ki ma bp bt co ce kgr kwk kbr kcs kz kru kki kma kbp kbt kco kce 0 ts fi tb bo rn0 rc0 ra0 rft f0 tot lat se sw sd li th tw cr by_ va su mk sk wsm tk shF sb sn sv) (nW g b gr wk lk sz br z ru ki ma bb ce hd 0 nkf ts fi tb nta nop npr nac nbd nnw nsn nwn nli nal nlo nwi ntr nbg now_ nis nbo nsz nnu) (Rel g a b) := by
  have hgr := hPe.1
  have hki := hPe.2.1
  have hma := hPe.2.2
  have hwk := hBk.1
  have hlat := core_lat hBk
  have hL := core_L hBk
  have hbr := hBo.1
  have hbp := hBo.2.1
  have hbt := hBo.2.2.1
  have hhd := hBo.2.2.2.2.2.2
  have hcs := hLk.1
  have hsz := hLk.2.1
  have hbb := hLk.2.2.1
  have hlk := lk_le hLk
  have hV : cs ≠ 0 → ∀ p, p < 495 → evR (nmI wk (laD wk dr) p) (cdF co 0 cs) [] = some [(txV bb sz wk (laD wk dr)) p] := fun q p _ => hLk.2.2.2.2 q wk (laD wk dr) p
  have hse := hCr.1
  have hsw := hCr.2
  have hsd := sdD_le cs bb sz wk (laD wk dr)
  have hsv : ∀ p, p < 495 → sdF cs (txV bb sz wk (laD wk dr)) p = if lk = 1 then clN (txV bb sz wk (laD wk dr) p) else 1 := fun p _ => lk_sd hLk _ _ p
  have hwo := hRf.1
  have hwc := hRf.2
  have htot := to_lt hPe hBo (laD wk dr) (sdF cs (txV bb sz wk (laD wk dr)))
  have e1 := cr_eq hBo gr ki ma (laD wk dr) (sdF cs (txV bb sz wk (laD wk dr)))
  have e2 := to_eq hBo gr ki ma (laD wk dr) (sdF cs (txV bb sz wk (laD wk dr)))
  have hts := hTp.1
  have htb := hTp.2.1
  have hbo := hTp.2.2
  refine ⟨.int (fndI 3), 10, 34, _, _, by decide, by decide, Or.inl ⟨rfl, _, rfl⟩, Ct.sub [0, 49, 1] rfl rfl ?_ (ct_undo_n l g (a 0) (a 1) (a 9) (a 17) (a 24) (a 33) (a 36) (a 39) (a 40) (a 49) ts 0 (a 2) (a 3) (a 4) (a 5) (a 6) (a 7) (a 8) gr br cs wk z fi ), Ct.sub [0, 3] rfl rfl ?_ (ct_nundo_n l g (b 0) (b 1) (b 2) (b 3) (b 4) (b 5) (b 6) (b 7) (b 8) (b 9) (b 10) (b 11) (b 12) (b 13) (b 14) (b 15) (b 16) (b 17) (b 18) (b 19) ts nta nop npr nac 0 nbd 0 nnw nsn nwn fi ), ?_⟩
  · rintro v w ⟨rfl, rfl⟩; rfl
  · rintro v w ⟨rfl, rfl⟩; rfl
  · rintro v1 w1 v2 w2 ⟨wq1, ⟨rfl, rfl⟩, rfl⟩ ⟨wq2, ⟨rfl, rfl⟩, rfl⟩
    refine ⟨rfl, rfl, rel_mk g a b gr wk br cs lk sz z ru ki ma bp bt bb hd dr co ce kgr kwk kbr kcs klk ksz kz kru kki kma kbp kbt kbb khd kdr kco kce 0 nkf ts (updN fi 3 (fi 3 + 1)) tb bo rn0 rc0 ra0 rft f0 tot lat se sw sd li th tw cr by_ va su mk sk wsm tk shF sb sn sv nta nop npr nac nbd nnw nsn nwn nli nal nlo nwi ntr nbg now_ nis nbo nsz nnu ?_ ?_ hPe hBk hBo hLk hRu hKp hTp hSh hCr hRf⟩
    · simp only [e1, e2, xW, nW, xSet, List.set_cons_zero, List.set_cons_succ, nI_zero]
    · simp only [xW, nW, xSet, List.set_cons_zero, List.set_cons_succ, nI_zero]

set_option maxRecDepth 100000 in
set_option maxHeartbeats 4000000 in
theorem pr_undo_o (l : Launch) (g : XG) (a b : Nat → Nat) (gr wk br cs lk sz : Nat) (z : Int32) (ru ki ma bp bt bb hd dr : Nat → Nat) (co ce : Nat → Int32) (kgr kwk kbr kcs klk ksz : Nat) (kz : Int32) (kru kki kma kbp kbt kbb khd kdr : Nat → Nat) (kco kce : Nat → Int32) (ts : Nat) (fi tb bo : Nat → Nat) (rn0 rc0 ra0 : Nat) (rft : Int32) (f0 : Nat → Int32) (tot lat : Nat) (se sw : Int32) (sd li th tw cr by_ : Nat → Nat) (va su : Nat → Int64) (mk : Nat → Nat) (sk : Nat → Int32) (wsm : Nat → Int64) (tk : Nat → Nat) (shF : Nat → Option Nat) (sb sn : Nat → Nat) (sv : Nat → Nat → Int64) (nta nop npr nac : Nat) (nbd nnw nsn nwn : Int32) (nli nal nlo nwi ntr nbg now_ : Nat → Nat) (nis nbo : Nat → Int32) (nsz : Nat → Nat) (nnu : Nat → Int64) (hPe : PeI gr ki ma) (hBk : BkI wk ce dr) (hBo : BoI br bp bt hd) (hLk : LkI cs co lk sz bb) (hRu : RuI ru) (hKp : KpI 1 (msF kgr kwk kz klk ksz kbr kru kki kma kbb kce khd) kgr kwk kbr kcs klk ksz kz kru kki kma kbp kbt kbb khd kdr kco kce) (hTp : TpI ts tb bo) (hSh : ShI a shF sb sn sv nbo nsz nnu) (hCr : CrI gr wk br cs sz ki ma bp bt bb dr tot lat se sw sd cr th tw) (hRf : RfI gr wk cs sz ki ma hd bb dr nnw nsn nwn nli nal nlo nwi nac) : PairP l g yX8_undo cX8_undo 1 (some .int) [.ref ((a 0))] yX9_undo cX9_undo 2 (some .int) [.ref ((b 0))] (xW g a gr wk br cs z ru ki ma bp bt co ce kgr kwk kbr kcs kz kru kki kma kbp kbt kco kce 1 ts fi tb bo rn0 rc0 ra0 rft f0 tot lat se sw sd li th tw cr by_ va su mk sk wsm tk shF sb sn sv) (nW g b gr wk lk sz br z ru ki ma bb ce hd 1 (msF kgr kwk kz klk ksz kbr kru kki kma kbb kce khd) ts fi tb nta nop npr nac nbd nnw nsn nwn nli nal nlo nwi ntr nbg now_ nis nbo nsz nnu) (Rel g a b) := by
  have hgr := hPe.1
  have hki := hPe.2.1
  have hma := hPe.2.2
  have hwk := hBk.1
  have hlat := core_lat hBk
  have hL := core_L hBk
  have hbr := hBo.1
  have hbp := hBo.2.1
  have hbt := hBo.2.2.1
  have hhd := hBo.2.2.2.2.2.2
  have hcs := hLk.1
  have hsz := hLk.2.1
  have hbb := hLk.2.2.1
  have hlk := lk_le hLk
  have hV : cs ≠ 0 → ∀ p, p < 495 → evR (nmI wk (laD wk dr) p) (cdF co 0 cs) [] = some [(txV bb sz wk (laD wk dr)) p] := fun q p _ => hLk.2.2.2.2 q wk (laD wk dr) p
  have hse := hCr.1
  have hsw := hCr.2
  have hsd := sdD_le cs bb sz wk (laD wk dr)
  have hsv : ∀ p, p < 495 → sdF cs (txV bb sz wk (laD wk dr)) p = if lk = 1 then clN (txV bb sz wk (laD wk dr) p) else 1 := fun p _ => lk_sd hLk _ _ p
  have hwo := hRf.1
  have hwc := hRf.2
  have htot := to_lt hPe hBo (laD wk dr) (sdF cs (txV bb sz wk (laD wk dr)))
  have e1 := cr_eq hBo gr ki ma (laD wk dr) (sdF cs (txV bb sz wk (laD wk dr)))
  have e2 := to_eq hBo gr ki ma (laD wk dr) (sdF cs (txV bb sz wk (laD wk dr)))
  have hts := hTp.1
  have htb := hTp.2.1
  have hbo := hTp.2.2
  obtain ⟨k1, k2, k3, k4, k5, -⟩ := hKp.2 rfl
  refine ⟨.int (nI kwk), 10, 34, _, _, by decide, by decide, Or.inl ⟨rfl, _, rfl⟩, Ct.sub [0, 1, 2, 3, 4, 5, 6, 7, 8, 9, 10, 11, 12, 13, 14, 15, 16, 24] rfl rfl ?_ (ct_undo_o l g (a 0) (a 17) (a 24) (a 33) (a 36) (a 39) (a 40) (a 49) ts 1 (a 1) (a 2) (a 3) (a 4) (a 5) (a 6) (a 7) (a 8) ki ma bp bt co ru ce gr br cs wk z (a 9) (a 10) (a 11) (a 12) (a 13) (a 14) (a 15) (a 16) kki kma kbp kbt kru kco kce kgr kbr kcs kwk kz (a 31) (a 20) (a 25) (a 26) (a 27) (a 28) (a 29) (a 30) tot lat se sw ), Ct.sub [0, 1, 2] rfl rfl ?_ (ct_nundo_o l g (b 0) (b 1) (b 2) (b 3) (b 4) (b 5) (b 6) (b 7) (b 8) (b 9) (b 10) (b 11) (b 12) (b 13) (b 14) (b 15) (b 16) (b 17) (b 18) (b 19) ts nta nop npr nac nbd 0 nnw nsn nwn kgr kwk klk ksz kbr kz kru kki kma kbb khd kce (msF gr wk z lk sz br ru ki ma bb ce hd) ), ?_⟩
  · rintro v w ⟨rfl, rfl⟩; rfl
  · rintro v w ⟨rfl, rfl⟩; rfl
  · rintro v1 w1 v2 w2 ⟨wq1, ⟨rfl, rfl⟩, rfl⟩ ⟨wq2, ⟨rfl, rfl⟩, rfl⟩
    refine ⟨rfl, rfl, rel_mk g a b kgr kwk kbr kcs klk ksz kz kru kki kma kbp kbt kbb khd kdr kco kce kgr kwk kbr kcs klk ksz kz kru kki kma kbp kbt kbb khd kdr kco kce 1 (msF kgr kwk kz klk ksz kbr kru kki kma kbb kce khd) ts fi tb bo rn0 rc0 ra0 rft f0 tot lat 0 0 sd li th tw cr by_ va su mk sk wsm tk shF sb sn sv nta nop npr nac nbd 1 1 nwn nli nal nlo nwi ntr nbg now_ nis nbo nsz nnu ?_ ?_ (k1) (k2) (k3) (k4) (k5) hKp hTp hSh ⟨Or.inl rfl, Or.inl rfl⟩ ⟨Or.inl ⟨rfl, Or.inl rfl⟩, Or.inl (wnI_1 _)⟩⟩
    · simp only [e1, e2, xW, nW, xSet, List.set_cons_zero, List.set_cons_succ, nI_zero]
    · simp only [xW, nW, xSet, List.set_cons_zero, List.set_cons_succ, nI_zero]

set_option maxRecDepth 100000 in
set_option maxHeartbeats 4000000 in
theorem pr_tear_o (l : Launch) (g : XG) (a b : Nat → Nat) (gr wk br cs lk sz : Nat) (z : Int32) (ru ki ma bp bt bb hd dr : Nat → Nat) (co ce : Nat → Int32) (kgr kwk kbr kcs klk ksz : Nat) (kz : Int32) (kru kki kma kbp kbt kbb khd kdr : Nat → Nat) (kco kce : Nat → Int32) (kp : Int32) (nkf : Nat → Int32) (ts : Nat) (fi tb bo : Nat → Nat) (rn0 rc0 ra0 : Nat) (rft : Int32) (f0 : Nat → Int32) (tot lat : Nat) (se sw : Int32) (sd li th tw cr by_ : Nat → Nat) (va su : Nat → Int64) (mk : Nat → Nat) (sk : Nat → Int32) (wsm : Nat → Int64) (tk : Nat → Nat) (shF : Nat → Option Nat) (sb sn : Nat → Nat) (sv : Nat → Nat → Int64) (nta nop npr nac : Nat) (nbd nnw nsn nwn : Int32) (nli nal nlo nwi ntr nbg now_ : Nat → Nat) (nis nbo : Nat → Int32) (nsz : Nat → Nat) (nnu : Nat → Int64) (hPe : PeI gr ki ma) (hBk : BkI wk ce dr) (hBo : BoI br bp bt hd) (hLk : LkI cs co lk sz bb) (hRu : RuI ru) (hKp : KpI kp nkf kgr kwk kbr kcs klk ksz kz kru kki kma kbp kbt kbb khd kdr kco kce) (hTp : TpI ts tb bo) (hSh : ShI a shF sb sn sv nbo nsz nnu) (hCr : CrI gr wk br cs sz ki ma bp bt bb dr tot lat se sw sd cr th tw) (hRf : RfI gr wk cs sz ki ma hd bb dr nnw nsn nwn nli nal nlo nwi nac) : PairP l g yX8_tear cX8_tear 2 (some .int) [.ref ((a 0))] yX9_tear cX9_tear 2 (some .int) [.ref ((b 0))] (xW g a gr wk br cs z ru ki ma bp bt co ce kgr kwk kbr kcs kz kru kki kma kbp kbt kco kce kp ts fi tb bo rn0 rc0 ra0 rft f0 tot lat se sw sd li th tw cr by_ va su mk sk wsm tk shF sb sn sv) (nW g b gr wk lk sz br z ru ki ma bb ce hd kp nkf ts fi tb nta nop npr nac nbd nnw nsn nwn nli nal nlo nwi ntr nbg now_ nis nbo nsz nnu) (Rel g a b) := by
  have hgr := hPe.1
  have hki := hPe.2.1
  have hma := hPe.2.2
  have hwk := hBk.1
  have hlat := core_lat hBk
  have hL := core_L hBk
  have hbr := hBo.1
  have hbp := hBo.2.1
  have hbt := hBo.2.2.1
  have hhd := hBo.2.2.2.2.2.2
  have hcs := hLk.1
  have hsz := hLk.2.1
  have hbb := hLk.2.2.1
  have hlk := lk_le hLk
  have hV : cs ≠ 0 → ∀ p, p < 495 → evR (nmI wk (laD wk dr) p) (cdF co 0 cs) [] = some [(txV bb sz wk (laD wk dr)) p] := fun q p _ => hLk.2.2.2.2 q wk (laD wk dr) p
  have hse := hCr.1
  have hsw := hCr.2
  have hsd := sdD_le cs bb sz wk (laD wk dr)
  have hsv : ∀ p, p < 495 → sdF cs (txV bb sz wk (laD wk dr)) p = if lk = 1 then clN (txV bb sz wk (laD wk dr) p) else 1 := fun p _ => lk_sd hLk _ _ p
  have hwo := hRf.1
  have hwc := hRf.2
  have htot := to_lt hPe hBo (laD wk dr) (sdF cs (txV bb sz wk (laD wk dr)))
  have e1 := cr_eq hBo gr ki ma (laD wk dr) (sdF cs (txV bb sz wk (laD wk dr)))
  have e2 := to_eq hBo gr ki ma (laD wk dr) (sdF cs (txV bb sz wk (laD wk dr)))
  have hts := hTp.1
  have htb := hTp.2.1
  have hbo := hTp.2.2
  refine ⟨.int (if kp = 0 then 0 else 1), 10, 34, _, _, by decide, by decide, Or.inl ⟨rfl, _, rfl⟩, Ct.sub [0] rfl rfl ?_ (ct_tear_o l g (a 0) (a 1) (a 9) (a 17) (a 24) (a 33) (a 36) (a 39) (a 40) (a 49) ts kp ), Ct.sub [0] rfl rfl ?_ (ct_ntear_o l g (b 0) (b 1) (b 2) (b 3) (b 4) (b 5) (b 6) (b 7) (b 8) (b 9) (b 10) (b 11) (b 12) (b 13) (b 14) (b 15) (b 16) (b 17) (b 18) (b 19) ts nta nop npr nac kp nbd 0 nnw nsn nwn ), ?_⟩
  · rintro v w ⟨rfl, rfl⟩; rfl
  · rintro v w ⟨rfl, rfl⟩; rfl
  · rintro v1 w1 v2 w2 ⟨wq1, ⟨rfl, rfl⟩, rfl⟩ ⟨wq2, ⟨rfl, rfl⟩, rfl⟩
    refine ⟨rfl, rfl, rel_mk g a b gr wk br cs lk sz z ru ki ma bp bt bb hd dr co ce kgr kwk kbr kcs klk ksz kz kru kki kma kbp kbt kbb khd kdr kco kce 0 nkf ts fi tb bo rn0 rc0 ra0 rft f0 tot lat se sw sd li th tw cr by_ va su mk sk wsm tk shF sb sn sv nta nop npr nac nbd nnw nsn nwn nli nal nlo nwi ntr nbg now_ nis nbo nsz nnu ?_ ?_ hPe hBk hBo hLk hRu (⟨Or.inl rfl, fun q => absurd q (by decide)⟩) hTp hSh hCr hRf⟩
    · simp only [e1, e2, xW, nW, xSet, List.set_cons_zero, List.set_cons_succ, nI_zero]
    · simp only [xW, nW, xSet, List.set_cons_zero, List.set_cons_succ, nI_zero]

set_option maxRecDepth 100000 in
set_option maxHeartbeats 4000000 in
theorem pm_felt (l : Launch) (g : XG) (a b : Nat → Nat) {wX wM : va_W} (hR : Rel g a b wX wM) (x : Int32) : PairP l g yX8_felt cX8_felt 4 (some .int) [.ref (a 0), .int x] yX9_felt cX9_felt 7 (some .int) [.ref (b 0), .int x] wX wM (Rel g a b) := by
  refine rel_elim hR (fun gr wk br cs lk sz z ru ki ma bp bt bb hd dr co ce kgr kwk kbr kcs klk ksz kz kru kki kma kbp kbt kbb khd kdr kco kce kp nkf ts fi tb bo rn0 rc0 ra0 rft f0 tot lat se sw sd li th tw cr by_ va su mk sk wsm tk shF sb sn sv nta nop npr nac nbd nnw nsn nwn nli nal nlo nwi ntr nbg now_ nis nbo nsz nnu hx hm hPe hBk hBo hLk hRu hKp hTp hSh hCr hRf => ?_)
  subst hx
  subst hm
  rcases wI_cases x (a := 0) (b := 11) (by decide) (by decide) with h | ⟨n, rfl, -, hn⟩
  · exact pr_felt_b l g a b gr wk br cs lk sz z ru ki ma bp bt bb hd dr co ce kgr kwk kbr kcs klk ksz kz kru kki kma kbp kbt kbb khd kdr kco kce kp nkf ts fi tb bo rn0 rc0 ra0 rft f0 tot lat se sw sd li th tw cr by_ va su mk sk wsm tk shF sb sn sv nta nop npr nac nbd nnw nsn nwn nli nal nlo nwi ntr nbg now_ nis nbo nsz nnu hPe hBk hBo hLk hRu hKp hTp hSh hCr hRf x h
  by_cases c : sumN (fun w => bitN (dr w) n) wk = 0 ∨ sumN (fun w => bitN (dr w) n) wk = wk
  · exact pr_felt_n l g a b gr wk br cs lk sz z ru ki ma bp bt bb hd dr co ce kgr kwk kbr kcs klk ksz kz kru kki kma kbp kbt kbb khd kdr kco kce kp nkf ts fi tb bo rn0 rc0 ra0 rft f0 tot lat se sw sd li th tw cr by_ va su mk sk wsm tk shF sb sn sv nta nop npr nac nbd nnw nsn nwn nli nal nlo nwi ntr nbg now_ nis nbo nsz nnu hPe hBk hBo hLk hRu hKp hTp hSh hCr hRf n (by omega) c
  · exact pr_felt_o l g a b gr wk br cs lk sz z ru ki ma bp bt bb hd dr co ce kgr kwk kbr kcs klk ksz kz kru kki kma kbp kbt kbb khd kdr kco kce kp nkf ts fi tb bo rn0 rc0 ra0 rft f0 tot lat se sw sd li th tw cr by_ va su mk sk wsm tk shF sb sn sv nta nop npr nac nbd nnw nsn nwn nli nal nlo nwi ntr nbg now_ nis nbo nsz nnu hPe hBk hBo hLk hRu hKp hTp hSh hCr hRf n (by omega) ⟨fun q => c (Or.inl q), fun q => c (Or.inr q)⟩

set_option maxRecDepth 100000 in
set_option maxHeartbeats 4000000 in
theorem pm_alone (l : Launch) (g : XG) (a b : Nat → Nat) {wX wM : va_W} (hR : Rel g a b wX wM) (x : Int32) : PairP l g yX8_alone cX8_alone 5 (some .int) [.ref (a 0), .int x] yX9_alone cX9_alone 5 (some .int) [.ref (b 0), .int x] wX wM (Rel g a b) := by
  refine rel_elim hR (fun gr wk br cs lk sz z ru ki ma bp bt bb hd dr co ce kgr kwk kbr kcs klk ksz kz kru kki kma kbp kbt kbb khd kdr kco kce kp nkf ts fi tb bo rn0 rc0 ra0 rft f0 tot lat se sw sd li th tw cr by_ va su mk sk wsm tk shF sb sn sv nta nop npr nac nbd nnw nsn nwn nli nal nlo nwi ntr nbg now_ nis nbo nsz nnu hx hm hPe hBk hBo hLk hRu hKp hTp hSh hCr hRf => ?_)
  subst hx
  subst hm
  rcases wI_cases x (a := 0) (b := 1) (by decide) (by decide) with h | ⟨w, rfl, -, hw⟩
  · exact pr_alone_b l g a b gr wk br cs lk sz z ru ki ma bp bt bb hd dr co ce kgr kwk kbr kcs klk ksz kz kru kki kma kbp kbt kbb khd kdr kco kce kp nkf ts fi tb bo rn0 rc0 ra0 rft f0 tot lat se sw sd li th tw cr by_ va su mk sk wsm tk shF sb sn sv nta nop npr nac nbd nnw nsn nwn nli nal nlo nwi ntr nbg now_ nis nbo nsz nnu hPe hBk hBo hLk hRu hKp hTp hSh hCr hRf x h
  rcases (by omega : w = 0 ∨ w = 1) with rfl | rfl
  · exact pr_alone_0 l g a b gr wk br cs lk sz z ru ki ma bp bt bb hd dr co ce kgr kwk kbr kcs klk ksz kz kru kki kma kbp kbt kbb khd kdr kco kce kp nkf ts fi tb bo rn0 rc0 ra0 rft f0 tot lat se sw sd li th tw cr by_ va su mk sk wsm tk shF sb sn sv nta nop npr nac nbd nnw nsn nwn nli nal nlo nwi ntr nbg now_ nis nbo nsz nnu hPe hBk hBo hLk hRu hKp hTp hSh hCr hRf 
  · rcases alA_cases (crF gr ki ma bp bt br (laD wk dr) (sdF cs (txV bb sz wk (laD wk dr)))) with h | ⟨p, hp, h⟩
    · exact pr_alone_n l g a b gr wk br cs lk sz z ru ki ma bp bt bb hd dr co ce kgr kwk kbr kcs klk ksz kz kru kki kma kbp kbt kbb khd kdr kco kce kp nkf ts fi tb bo rn0 rc0 ra0 rft f0 tot lat se sw sd li th tw cr by_ va su mk sk wsm tk shF sb sn sv nta nop npr nac nbd nnw nsn nwn nli nal nlo nwi ntr nbg now_ nis nbo nsz nnu hPe hBk hBo hLk hRu hKp hTp hSh hCr hRf h
    · exact pr_alone_1 l g a b gr wk br cs lk sz z ru ki ma bp bt bb hd dr co ce kgr kwk kbr kcs klk ksz kz kru kki kma kbp kbt kbb khd kdr kco kce kp nkf ts fi tb bo rn0 rc0 ra0 rft f0 tot lat se sw sd li th tw cr by_ va su mk sk wsm tk shF sb sn sv nta nop npr nac nbd nnw nsn nwn nli nal nlo nwi ntr nbg now_ nis nbo nsz nnu hPe hBk hBo hLk hRu hKp hTp hSh hCr hRf p hp h

set_option maxRecDepth 100000 in
set_option maxHeartbeats 4000000 in
theorem pm_image (l : Launch) (g : XG) (a b : Nat → Nat) {wX wM : va_W} (hR : Rel g a b wX wM) : PairP l g yX8_image cX8_image 1 (some .int) [.ref (a 0)] yX9_image cX9_image 2 (some .int) [.ref (b 0)] wX wM (Rel g a b) := by
  refine rel_elim hR (fun gr wk br cs lk sz z ru ki ma bp bt bb hd dr co ce kgr kwk kbr kcs klk ksz kz kru kki kma kbp kbt kbb khd kdr kco kce kp nkf ts fi tb bo rn0 rc0 ra0 rft f0 tot lat se sw sd li th tw cr by_ va su mk sk wsm tk shF sb sn sv nta nop npr nac nbd nnw nsn nwn nli nal nlo nwi ntr nbg now_ nis nbo nsz nnu hx hm hPe hBk hBo hLk hRu hKp hTp hSh hCr hRf => ?_)
  subst hx
  subst hm
  exact pr_image_o l g a b gr wk br cs lk sz z ru ki ma bp bt bb hd dr co ce kgr kwk kbr kcs klk ksz kz kru kki kma kbp kbt kbb khd kdr kco kce kp nkf ts fi tb bo rn0 rc0 ra0 rft f0 tot lat se sw sd li th tw cr by_ va su mk sk wsm tk shF sb sn sv nta nop npr nac nbd nnw nsn nwn nli nal nlo nwi ntr nbg now_ nis nbo nsz nnu hPe hBk hBo hLk hRu hKp hTp hSh hCr hRf

set_option maxRecDepth 100000 in
set_option maxHeartbeats 4000000 in
theorem pm_undo (l : Launch) (g : XG) (a b : Nat → Nat) {wX wM : va_W} (hR : Rel g a b wX wM) : PairP l g yX8_undo cX8_undo 1 (some .int) [.ref (a 0)] yX9_undo cX9_undo 2 (some .int) [.ref (b 0)] wX wM (Rel g a b) := by
  refine rel_elim hR (fun gr wk br cs lk sz z ru ki ma bp bt bb hd dr co ce kgr kwk kbr kcs klk ksz kz kru kki kma kbp kbt kbb khd kdr kco kce kp nkf ts fi tb bo rn0 rc0 ra0 rft f0 tot lat se sw sd li th tw cr by_ va su mk sk wsm tk shF sb sn sv nta nop npr nac nbd nnw nsn nwn nli nal nlo nwi ntr nbg now_ nis nbo nsz nnu hx hm hPe hBk hBo hLk hRu hKp hTp hSh hCr hRf => ?_)
  subst hx
  subst hm
  rcases hKp.1 with h | h
  · subst h
    exact pr_undo_n l g a b gr wk br cs lk sz z ru ki ma bp bt bb hd dr co ce kgr kwk kbr kcs klk ksz kz kru kki kma kbp kbt kbb khd kdr kco kce nkf ts fi tb bo rn0 rc0 ra0 rft f0 tot lat se sw sd li th tw cr by_ va su mk sk wsm tk shF sb sn sv nta nop npr nac nbd nnw nsn nwn nli nal nlo nwi ntr nbg now_ nis nbo nsz nnu hPe hBk hBo hLk hRu hKp hTp hSh hCr hRf 
  · subst h
    obtain ⟨-, -, -, -, -, e⟩ := hKp.2 rfl
    subst e
    exact pr_undo_o l g a b gr wk br cs lk sz z ru ki ma bp bt bb hd dr co ce kgr kwk kbr kcs klk ksz kz kru kki kma kbp kbt kbb khd kdr kco kce ts fi tb bo rn0 rc0 ra0 rft f0 tot lat se sw sd li th tw cr by_ va su mk sk wsm tk shF sb sn sv nta nop npr nac nbd nnw nsn nwn nli nal nlo nwi ntr nbg now_ nis nbo nsz nnu hPe hBk hBo hLk hRu hKp hTp hSh hCr hRf

set_option maxRecDepth 100000 in
set_option maxHeartbeats 4000000 in
theorem pm_tear (l : Launch) (g : XG) (a b : Nat → Nat) {wX wM : va_W} (hR : Rel g a b wX wM) : PairP l g yX8_tear cX8_tear 2 (some .int) [.ref (a 0)] yX9_tear cX9_tear 2 (some .int) [.ref (b 0)] wX wM (Rel g a b) := by
  refine rel_elim hR (fun gr wk br cs lk sz z ru ki ma bp bt bb hd dr co ce kgr kwk kbr kcs klk ksz kz kru kki kma kbp kbt kbb khd kdr kco kce kp nkf ts fi tb bo rn0 rc0 ra0 rft f0 tot lat se sw sd li th tw cr by_ va su mk sk wsm tk shF sb sn sv nta nop npr nac nbd nnw nsn nwn nli nal nlo nwi ntr nbg now_ nis nbo nsz nnu hx hm hPe hBk hBo hLk hRu hKp hTp hSh hCr hRf => ?_)
  subst hx
  subst hm
  exact pr_tear_o l g a b gr wk br cs lk sz z ru ki ma bp bt bb hd dr co ce kgr kwk kbr kcs klk ksz kz kru kki kma kbp kbt kbb khd kdr kco kce kp nkf ts fi tb bo rn0 rc0 ra0 rft f0 tot lat se sw sd li th tw cr by_ va su mk sk wsm tk shF sb sn sv nta nop npr nac nbd nnw nsn nwn nli nal nlo nwi ntr nbg now_ nis nbo nsz nnu hPe hBk hBo hLk hRu hKp hTp hSh hCr hRf
