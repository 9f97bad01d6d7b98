set_option maxRecDepth 100000 in
set_option maxHeartbeats 4000000 in
theorem pr_worth_b (l : Launch) (g : XG) (a b : Nat → Nat) (gr wk br cs lk sz : Nat) (z : Int32) (ru ki ma bp bt bb hd dr : Nat → Nat) (co ce : Nat → Int32) (kgr kwk kbr kcs klk ksz : Nat) (kz : Int32) (kru kki kma kbp kbt kbb khd kdr : Nat → Nat) (kco kce : Nat → Int32) (kp : Int32) (nkf : Nat → Int32) (ts : Nat) (fi tb bo : Nat → Nat) (rn0 rc0 ra0 : Nat) (rft : Int32) (f0 : Nat → Int32) (tot lat : Nat) (se sw : Int32) (sd li th tw cr by_ : Nat → Nat) (va su : Nat → Int64) (mk : Nat → Nat) (sk : Nat → Int32) (wsm : Nat → Int64) (tk : Nat → Nat) (shF : Nat → Option Nat) (sb sn : Nat → Nat) (sv : Nat → Nat → Int64) (nta nop npr nac : Nat) (nbd nnw nsn nwn : Int32) (nli nal nlo nwi ntr nbg now_ : Nat → Nat) (nis nbo : Nat → Int32) (nsz : Nat → Nat) (nnu : Nat → Int64) (hPe : PeI gr ki ma) (hBk : BkI wk ce dr) (hBo : BoI br bp bt hd) (hLk : LkI cs co lk sz bb) (hRu : RuI ru) (hKp : KpI kp nkf kgr kwk kbr kcs klk ksz kz kru kki kma kbp kbt kbb khd kdr kco kce) (hTp : TpI ts tb bo) (hSh : ShI a shF sb sn sv nbo nsz nnu) (hCr : CrI gr wk br cs sz ki ma bp bt bb dr tot lat se sw sd cr th tw) (hRf : RfI gr wk cs sz ki ma hd bb dr nnw nsn nwn nli nal nlo nwi nac) (pl : Int32) (hb : wI pl 0 494 = 0) : PairP l g yX8_worth cX8_worth 2 (some .int) [.ref ((a 0)), .int pl] yX9_worth cX9_worth 2 (some .int) [.ref ((b 0)), .int pl] (xW g a gr wk br cs z ru ki ma bp bt co ce kgr kwk kbr kcs kz kru kki kma kbp kbt kco kce kp ts fi tb bo rn0 rc0 ra0 rft f0 tot lat se sw sd li th tw cr by_ va su mk sk wsm tk shF sb sn sv) (nW g b gr wk lk sz br z ru ki ma bb ce hd kp nkf ts fi tb nta nop npr nac nbd nnw nsn nwn nli nal nlo nwi ntr nbg now_ nis nbo nsz nnu) (Rel g a b) := by
  have hgr := hPe.1
  have hki := hPe.2.1
  have hma := hPe.2.2
  have hwk := hBk.1
  have hlat := core_lat hBk
  have hL := core_L hBk
  have hbr := hBo.1
  have hbp := hBo.2.1
  have hbt := hBo.2.2.1
  have hhd := hBo.2.2.2.2.2.2
  have hcs := hLk.1
  have hsz := hLk.2.1
  have hbb := hLk.2.2.1
  have hlk := lk_le hLk
  have hV : cs ≠ 0 → ∀ p, p < 495 → evR (nmI wk (laD wk dr) p) (cdF co 0 cs) [] = some [(txV bb sz wk (laD wk dr)) p] := fun q p _ => hLk.2.2.2.2 q wk (laD wk dr) p
  have hse := hCr.1
  have hsw := hCr.2
  have hsd := sdD_le cs bb sz wk (laD wk dr)
  have hsv : ∀ p, p < 495 → sdF cs (txV bb sz wk (laD wk dr)) p = if lk = 1 then clN (txV bb sz wk (laD wk dr) p) else 1 := fun p _ => lk_sd hLk _ _ p
  have hwo := hRf.1
  have hwc := hRf.2
  have htot := to_lt hPe hBo (laD wk dr) (sdF cs (txV bb sz wk (laD wk dr)))
  have e1 := cr_eq hBo gr ki ma (laD wk dr) (sdF cs (txV bb sz wk (laD wk dr)))
  have e2 := to_eq hBo gr ki ma (laD wk dr) (sdF cs (txV bb sz wk (laD wk dr)))
  have hts := hTp.1
  have htb := hTp.2.1
  have hbo := hTp.2.2
  refine ⟨.int (fndI 0), 10, 34, _, _, by decide, by decide, Or.inl ⟨rfl, _, rfl⟩, Ct.sub [0, 49, 1] rfl rfl ?_ (ct_worth_b l g (a 0) (a 1) (a 9) (a 17) (a 24) (a 33) (a 36) (a 39) (a 40) (a 49) ts kp (a 2) (a 3) (a 4) (a 5) (a 6) (a 7) (a 8) gr br cs wk z fi pl (hb)), Ct.sub [0, 3] rfl rfl ?_ (ct_nworth_b l g (b 0) (b 1) (b 2) (b 3) (b 4) (b 5) (b 6) (b 7) (b 8) (b 9) (b 10) (b 11) (b 12) (b 13) (b 14) (b 15) (b 16) (b 17) (b 18) (b 19) ts nta nop npr nac kp nbd 0 nnw nsn nwn fi pl (hb)), ?_⟩
  · rintro v w ⟨rfl, rfl⟩; rfl
  · rintro v w ⟨rfl, rfl⟩; rfl
  · rintro v1 w1 v2 w2 ⟨wq1, ⟨rfl, rfl⟩, hw1⟩ ⟨wq2, ⟨rfl, rfl⟩, hw2⟩
    rw [hw1, hw2]
    refine ⟨rfl, rfl, rel_mk g a b gr wk br cs lk sz z ru ki ma bp bt bb hd dr co ce kgr kwk kbr kcs klk ksz kz kru kki kma kbp kbt kbb khd kdr kco kce kp nkf ts (updN fi 0 (fi 0 + 1)) tb bo rn0 rc0 ra0 rft f0 tot lat se sw sd li th tw cr by_ va su mk sk wsm tk shF sb sn sv nta nop npr nac nbd nnw nsn nwn nli nal nlo nwi ntr nbg now_ nis nbo nsz nnu ?_ ?_ hPe hBk hBo hLk hRu hKp hTp hSh hCr hRf⟩
    · simp only [e1, e2, xW, nW, xSet, List.set_cons_zero, List.set_cons_succ, nI_zero]
    · simp only [xW, nW, xSet, List.set_cons_zero, List.set_cons_succ, nI_zero]

set_option maxRecDepth 100000 in
set_option maxHeartbeats 4000000 in
theorem pr_worth_o (l : Launch) (g : XG) (a b : Nat → Nat) (gr wk br cs lk sz : Nat) (z : Int32) (ru ki ma bp bt bb hd dr : Nat → Nat) (co ce : Nat → Int32) (kgr kwk kbr kcs klk ksz : Nat) (kz : Int32) (kru kki kma kbp kbt kbb khd kdr : Nat → Nat) (kco kce : Nat → Int32) (kp : Int32) (nkf : Nat → Int32) (ts : Nat) (fi tb bo : Nat → Nat) (rn0 rc0 ra0 : Nat) (rft : Int32) (f0 : Nat → Int32) (tot lat : Nat) (se sw : Int32) (sd li th tw cr by_ : Nat → Nat) (va su : Nat → Int64) (mk : Nat → Nat) (sk : Nat → Int32) (wsm : Nat → Int64) (tk : Nat → Nat) (shF : Nat → Option Nat) (sb sn : Nat → Nat) (sv : Nat → Nat → Int64) (nta nop npr nac : Nat) (nbd nnw nsn nwn : Int32) (nli nal nlo nwi ntr nbg now_ : Nat → Nat) (nis nbo : Nat → Int32) (nsz : Nat → Nat) (nnu : Nat → Int64) (hPe : PeI gr ki ma) (hBk : BkI wk ce dr) (hBo : BoI br bp bt hd) (hLk : LkI cs co lk sz bb) (hRu : RuI ru) (hKp : KpI kp nkf kgr kwk kbr kcs klk ksz kz kru kki kma kbp kbt kbb khd kdr kco kce) (hTp : TpI ts tb bo) (hSh : ShI a shF sb sn sv nbo nsz nnu) (hCr : CrI gr wk br cs sz ki ma bp bt bb dr tot lat se sw sd cr th tw) (hRf : RfI gr wk cs sz ki ma hd bb dr nnw nsn nwn nli nal nlo nwi nac) (p : Nat) (hp : p < 495) : PairP l g yX8_worth cX8_worth 2 (some .int) [.ref ((a 0)), .int (nI p)] yX9_worth cX9_worth 2 (some .int) [.ref ((b 0)), .int (nI p)] (xW g a gr wk br cs z ru ki ma bp bt co ce kgr kwk kbr kcs kz kru kki kma kbp kbt kco kce kp ts fi tb bo rn0 rc0 ra0 rft f0 tot lat se sw sd li th tw cr by_ va su mk sk wsm tk shF sb sn sv) (nW g b gr wk lk sz br z ru ki ma bb ce hd kp nkf ts fi tb nta nop npr nac nbd nnw nsn nwn nli nal nlo nwi ntr nbg now_ nis nbo nsz nnu) (Rel g a b) := by
  have hgr := hPe.1
  have hki := hPe.2.1
  have hma := hPe.2.2
  have hwk := hBk.1
  have hlat := core_lat hBk
  have hL := core_L hBk
  have hbr := hBo.1
  have hbp := hBo.2.1
  have hbt := hBo.2.2.1
  have hhd := hBo.2.2.2.2.2.2
  have hcs := hLk.1
  have hsz := hLk.2.1
  have hbb := hLk.2.2.1
  have hlk := lk_le hLk
  have hV : cs ≠ 0 → ∀ p, p < 495 → evR (nmI wk (laD wk dr) p) (cdF co 0 cs) [] = some [(txV bb sz wk (laD wk dr)) p] := fun q p _ => hLk.2.2.2.2 q wk (laD wk dr) p
  have hse := hCr.1
  have hsw := hCr.2
  have hsd := sdD_le cs bb sz wk (laD wk dr)
  have hsv : ∀ p, p < 495 → sdF cs (txV bb sz wk (laD wk dr)) p = if lk = 1 then clN (txV bb sz wk (laD wk dr) p) else 1 := fun p _ => lk_sd hLk _ _ p
  have hwo := hRf.1
  have hwc := hRf.2
  have htot := to_lt hPe hBo (laD wk dr) (sdF cs (txV bb sz wk (laD wk dr)))
  have e1 := cr_eq hBo gr ki ma (laD wk dr) (sdF cs (txV bb sz wk (laD wk dr)))
  have e2 := to_eq hBo gr ki ma (laD wk dr) (sdF cs (txV bb sz wk (laD wk dr)))
  have hts := hTp.1
  have htb := hTp.2.1
  have hbo := hTp.2.2
  have htl := to_le hPe hBo (laD wk dr) (sdF cs (txV bb sz wk (laD wk dr)))
  have hsum : sumN (crH gr ki ma hd (laD wk dr) (sdF cs (txV bb sz wk (laD wk dr)))) 495 = (toH gr ki ma hd (laD wk dr) (sdF cs (txV bb sz wk (laD wk dr)))) := rfl
  have hcb : ∀ p, (crH gr ki ma hd (laD wk dr) (sdF cs (txV bb sz wk (laD wk dr)))) p ≤ 2 ^ 30 := cr_all hPe hBo (laD wk dr) hsd
  refine ⟨.int ((worthL ru (totF gr ki ma bp bt br (laD wk dr) (sdF cs (txV bb sz wk (laD wk dr)))) (crF gr ki ma bp bt br (laD wk dr) (sdF cs (txV bb sz wk (laD wk dr)))) (thF (crF gr ki ma bp bt br (laD wk dr) (sdF cs (txV bb sz wk (laD wk dr))))) (twF (crF gr ki ma bp bt br (laD wk dr) (sdF cs (txV bb sz wk (laD wk dr))))) p (ru 7)).toInt32), 10, 34, _, _, by decide, by decide, Or.inl ⟨rfl, _, rfl⟩, Ct.sub [0, 24, 25, 26, 29, 17, 18, 19, 31, 32, 1, 2, 3, 4, 5, 6, 8, 20, 21, 22, 23, 27, 28, 33, 7] rfl rfl ?_ (ct_worth_o l g (a 0) (a 9) (a 33) (a 34) (a 35) (a 36) (a 39) (a 40) (a 49) ts kp (a 24) (a 1) (a 17) (a 31) (a 20) (a 25) (a 26) (a 27) (a 28) (a 29) (a 30) tot lat se sw (a 18) (a 19) (a 32) (a 2) (a 3) (a 4) (a 5) (a 6) (a 7) (a 8) gr br cs wk z sd li cr ki ma bp bt co ce sk (txV bb sz wk (laD wk dr)) (laD wk dr) (a 21) (a 22) (a 23) va su mk th tw ru p (hgr) (hbr) (hcs) (hwk) (hki) (hma) (hbp) (hlat) (hL) (hV) (hse) (hsw) (hp)), Ct.sub [0, 1, 8, 7, 4, 6, 12, 13, 14, 15] rfl rfl ?_ (ct_nworth_o l g (b 0) (b 1) (b 2) (b 3) (b 4) (b 5) (b 6) (b 7) (b 8) (b 9) (b 10) (b 11) (b 12) (b 13) (b 14) (b 15) (b 16) (b 17) (b 18) (b 19) ts nta nop npr nac kp nbd nnw nsn nwn gr wk lk sz br z ru ki ma bb hd ce tb nli nal nlo (sdF cs (txV bb sz wk (laD wk dr))) (laD wk dr) nwi p (hgr) (hki) (hma) (hwk) (hlat) (hL) (hsz) (hbb) (hsd) (hsv) (hlk) (hwo) (hwc) (htot) (hp)), ?_⟩
  · rintro v w ⟨li2_x, sk2_x, va2_x, su2_x, mk2_x, rfl, rfl⟩; rfl
  · rintro v w ⟨zat_n, zop_n, zbd_n, zpr_n, lo2_n, rfl, rfl, P0n⟩; rfl
  · rintro v1 w1 v2 w2 ⟨wq1, ⟨li2_x, sk2_x, va2_x, su2_x, mk2_x, rfl, rfl⟩, hw1⟩ ⟨wq2, ⟨zat_n, zop_n, zbd_n, zpr_n, lo2_n, rfl, rfl, P0n⟩, hw2⟩
    rw [hw1, hw2]
    refine ⟨rfl, by rw [e1, e2]; exact congrArg (fun x => some (Value.int x)) (worth_eq hp hRu htl hsum), rel_mk g a b gr wk br cs lk sz z ru ki ma bp bt bb hd dr co ce kgr kwk kbr kcs klk ksz kz kru kki kma kbp kbt kbb khd kdr kco kce kp nkf ts fi tb bo rn0 rc0 ra0 rft f0 (totF gr ki ma bp bt br (laD wk dr) (sdF cs (txV bb sz wk (laD wk dr)))) (laD wk dr) 1 1 (sdF cs (txV bb sz wk (laD wk dr))) li2_x (thF (crF gr ki ma bp bt br (laD wk dr) (sdF cs (txV bb sz wk (laD wk dr))))) (twF (crF gr ki ma bp bt br (laD wk dr) (sdF cs (txV bb sz wk (laD wk dr))))) (crF gr ki ma bp bt br (laD wk dr) (sdF cs (txV bb sz wk (laD wk dr)))) by_ va2_x su2_x mk2_x sk2_x wsm tk shF sb sn sv zat_n zop_n zpr_n (toH gr ki ma hd (laD wk dr) (sdF cs (txV bb sz wk (laD wk dr)))) zbd_n 0 0 0 (sdF cs (txV bb sz wk (laD wk dr))) (crH gr ki ma hd (laD wk dr) (sdF cs (txV bb sz wk (laD wk dr)))) lo2_n (wiF (crH gr ki ma hd (laD wk dr) (sdF cs (txV bb sz wk (laD wk dr))))) ntr nbg now_ nis nbo nsz nnu ?_ ?_ hPe hBk hBo hLk hRu hKp hTp hSh ⟨Or.inr ⟨rfl, rfl, rfl, rfl, rfl⟩, Or.inr ⟨rfl, rfl, rfl⟩⟩ ⟨Or.inr ⟨rfl, rfl, rfl, rfl, rfl, P0n⟩, Or.inr ⟨wnI_0 _, rfl⟩⟩⟩
    · simp only [e1, e2, xW, nW, xSet, List.set_cons_zero, List.set_cons_succ, nI_zero]
    · simp only [xW, nW, xSet, List.set_cons_zero, List.set_cons_succ, nI_zero]

set_option maxRecDepth 100000 in
set_option maxHeartbeats 4000000 in
theorem pr_best_b (l : Launch) (g : XG) (a b : Nat → Nat) (gr wk br cs lk sz : Nat) (z : Int32) (ru ki ma bp bt bb hd dr : Nat → Nat) (co ce : Nat → Int32) (kgr kwk kbr kcs klk ksz : Nat) (kz : Int32) (kru kki kma kbp kbt kbb khd kdr : Nat → Nat) (kco kce : Nat → Int32) (kp : Int32) (nkf : Nat → Int32) (ts : Nat) (fi tb bo : Nat → Nat) (rn0 rc0 ra0 : Nat) (rft : Int32) (f0 : Nat → Int32) (tot lat : Nat) (se sw : Int32) (sd li th tw cr by_ : Nat → Nat) (va su : Nat → Int64) (mk : Nat → Nat) (sk : Nat → Int32) (wsm : Nat → Int64) (tk : Nat → Nat) (shF : Nat → Option Nat) (sb sn : Nat → Nat) (sv : Nat → Nat → Int64) (nta nop npr nac : Nat) (nbd nnw nsn nwn : Int32) (nli nal nlo nwi ntr nbg now_ : Nat → Nat) (nis nbo : Nat → Int32) (nsz : Nat → Nat) (nnu : Nat → Int64) (hPe : PeI gr ki ma) (hBk : BkI wk ce dr) (hBo : BoI br bp bt hd) (hLk : LkI cs co lk sz bb) (hRu : RuI ru) (hKp : KpI kp nkf kgr kwk kbr kcs klk ksz kz kru kki kma kbp kbt kbb khd kdr kco kce) (hTp : TpI ts tb bo) (hSh : ShI a shF sb sn sv nbo nsz nnu) (hCr : CrI gr wk br cs sz ki ma bp bt bb dr tot lat se sw sd cr th tw) (hRf : RfI gr wk cs sz ki ma hd bb dr nnw nsn nwn nli nal nlo nwi nac) (wh : Int32) (hb : wI wh 0 1 = 0) : PairP l g yX8_best cX8_best 3 (some .int) [.ref ((a 0)), .int wh] yX9_best cX9_best 8 (some .int) [.ref ((b 0)), .int wh] (xW g a gr wk br cs z ru ki ma bp bt co ce kgr kwk kbr kcs kz kru kki kma kbp kbt kco kce kp ts fi tb bo rn0 rc0 ra0 rft f0 tot lat se sw sd li th tw cr by_ va su mk sk wsm tk shF sb sn sv) (nW g b gr wk lk sz br z ru ki ma bb ce hd kp nkf ts fi tb nta nop npr nac nbd nnw nsn nwn nli nal nlo nwi ntr nbg now_ nis nbo nsz nnu) (Rel g a b) := by
  have hgr := hPe.1
  have hki := hPe.2.1
  have hma := hPe.2.2
  have hwk := hBk.1
  have hlat := core_lat hBk
  have hL := core_L hBk
  have hbr := hBo.1
  have hbp := hBo.2.1
  have hbt := hBo.2.2.1
  have hhd := hBo.2.2.2.2.2.2
  have hcs := hLk.1
  have hsz := hLk.2.1
  have hbb := hLk.2.2.1
  have hlk := lk_le hLk
  have hV : cs ≠ 0 → ∀ p, p < 495 → evR (nmI wk (laD wk dr) p) (cdF co 0 cs) [] = some [(txV bb sz wk (laD wk dr)) p] := fun q p _ => hLk.2.2.2.2 q wk (laD wk dr) p
  have hse := hCr.1
  have hsw := hCr.2
  have hsd := sdD_le cs bb sz wk (laD wk dr)
  have hsv : ∀ p, p < 495 → sdF cs (txV bb sz wk (laD wk dr)) p = if lk = 1 then clN (txV bb sz wk (laD wk dr) p) else 1 := fun p _ => lk_sd hLk _ _ p
  have hwo := hRf.1
  have hwc := hRf.2
  have htot := to_lt hPe hBo (laD wk dr) (sdF cs (txV bb sz wk (laD wk dr)))
  have e1 := cr_eq hBo gr ki ma (laD wk dr) (sdF cs (txV bb sz wk (laD wk dr)))
  have e2 := to_eq hBo gr ki ma (laD wk dr) (sdF cs (txV bb sz wk (laD wk dr)))
  have hts := hTp.1
  have htb := hTp.2.1
  have hbo := hTp.2.2
  refine ⟨.int (fndI 0), 10, 34, _, _, by decide, by decide, Or.inl ⟨rfl, _, rfl⟩, Ct.sub [0, 49, 1] rfl rfl ?_ (ct_best_b l g (a 0) (a 1) (a 9) (a 17) (a 24) (a 33) (a 36) (a 39) (a 40) (a 49) ts kp (a 2) (a 3) (a 4) (a 5) (a 6) (a 7) (a 8) gr br cs wk z fi wh (hb)), Ct.sub [0, 3] rfl rfl ?_ (ct_nbest_b l g (b 0) (b 1) (b 2) (b 3) (b 4) (b 5) (b 6) (b 7) (b 8) (b 9) (b 10) (b 11) (b 12) (b 13) (b 14) (b 15) (b 16) (b 17) (b 18) (b 19) ts nta nop npr nac kp nbd 0 nnw nsn nwn fi wh (hb)), ?_⟩
  · rintro v w ⟨rfl, rfl⟩; rfl
  · rintro v w ⟨rfl, rfl⟩; rfl
  · rintro v1 w1 v2 w2 ⟨wq1, ⟨rfl, rfl⟩, hw1⟩ ⟨wq2, ⟨rfl, rfl⟩, hw2⟩
    rw [hw1, hw2]
    refine ⟨rfl, rfl, rel_mk g a b gr wk br cs lk sz z ru ki ma bp bt bb hd dr co ce kgr kwk kbr kcs klk ksz kz kru kki kma kbp kbt kbb khd kdr kco kce kp nkf ts (updN fi 0 (fi 0 + 1)) tb bo rn0 rc0 ra0 rft f0 tot lat se sw sd li th tw cr by_ va su mk sk wsm tk shF sb sn sv nta nop npr nac nbd nnw nsn nwn nli nal nlo nwi ntr nbg now_ nis nbo nsz nnu ?_ ?_ hPe hBk hBo hLk hRu hKp hTp hSh hCr hRf⟩
    · simp only [e1, e2, xW, nW, xSet, List.set_cons_zero, List.set_cons_succ, nI_zero]
    · simp only [xW, nW, xSet, List.set_cons_zero, List.set_cons_succ, nI_zero]

set_option maxRecDepth 100000 in
set_option maxHeartbeats 4000000 in
theorem pr_best_0 (l : Launch) (g : XG) (a b : Nat → Nat) (gr wk br cs lk sz : Nat) (z : Int32) (ru ki ma bp bt bb hd dr : Nat → Nat) (co ce : Nat → Int32) (kgr kwk kbr kcs klk ksz : Nat) (kz : Int32) (kru kki kma kbp kbt kbb khd kdr : Nat → Nat) (kco kce : Nat → Int32) (kp : Int32) (nkf : Nat → Int32) (ts : Nat) (fi tb bo : Nat → Nat) (rn0 rc0 ra0 : Nat) (rft : Int32) (f0 : Nat → Int32) (tot lat : Nat) (se sw : Int32) (sd li th tw cr by_ : Nat → Nat) (va su : Nat → Int64) (mk : Nat → Nat) (sk : Nat → Int32) (wsm : Nat → Int64) (tk : Nat → Nat) (shF : Nat → Option Nat) (sb sn : Nat → Nat) (sv : Nat → Nat → Int64) (nta nop npr nac : Nat) (nbd nnw nsn nwn : Int32) (nli nal nlo nwi ntr nbg now_ : Nat → Nat) (nis nbo : Nat → Int32) (nsz : Nat → Nat) (nnu : Nat → Int64) (hPe : PeI gr ki ma) (hBk : BkI wk ce dr) (hBo : BoI br bp bt hd) (hLk : LkI cs co lk sz bb) (hRu : RuI ru) (hKp : KpI kp nkf kgr kwk kbr kcs klk ksz kz kru kki kma kbp kbt kbb khd kdr kco kce) (hTp : TpI ts tb bo) (hSh : ShI a shF sb sn sv nbo nsz nnu) (hCr : CrI gr wk br cs sz ki ma bp bt bb dr tot lat se sw sd cr th tw) (hRf : RfI gr wk cs sz ki ma hd bb dr nnw nsn nwn nli nal nlo nwi nac) : PairP l g yX8_best cX8_best 3 (some .int) [.ref ((a 0)), .int 0] yX9_best cX9_best 8 (some .int) [.ref ((b 0)), .int 0] (xW g a gr wk br cs z ru ki ma bp bt co ce kgr kwk kbr kcs kz kru kki kma kbp kbt kco kce kp ts fi tb bo rn0 rc0 ra0 rft f0 tot lat se sw sd li th tw cr by_ va su mk sk wsm tk shF sb sn sv) (nW g b gr wk lk sz br z ru ki ma bb ce hd kp nkf ts fi tb nta nop npr nac nbd nnw nsn nwn nli nal nlo nwi ntr nbg now_ nis nbo nsz nnu) (Rel g a b) := by
  have hgr := hPe.1
  have hki := hPe.2.1
  have hma := hPe.2.2
  have hwk := hBk.1
  have hlat := core_lat hBk
  have hL := core_L hBk
  have hbr := hBo.1
  have hbp := hBo.2.1
  have hbt := hBo.2.2.1
  have hhd := hBo.2.2.2.2.2.2
  have hcs := hLk.1
  have hsz := hLk.2.1
  have hbb := hLk.2.2.1
  have hlk := lk_le hLk
  have hV : cs ≠ 0 → ∀ p, p < 495 → evR (nmI wk (laD wk dr) p) (cdF co 0 cs) [] = some [(txV bb sz wk (laD wk dr)) p] := fun q p _ => hLk.2.2.2.2 q wk (laD wk dr) p
  have hse := hCr.1
  have hsw := hCr.2
  have hsd := sdD_le cs bb sz wk (laD wk dr)
  have hsv : ∀ p, p < 495 → sdF cs (txV bb sz wk (laD wk dr)) p = if lk = 1 then clN (txV bb sz wk (laD wk dr) p) else 1 := fun p _ => lk_sd hLk _ _ p
  have hwo := hRf.1
  have hwc := hRf.2
  have htot := to_lt hPe hBo (laD wk dr) (sdF cs (txV bb sz wk (laD wk dr)))
  have e1 := cr_eq hBo gr ki ma (laD wk dr) (sdF cs (txV bb sz wk (laD wk dr)))
  have e2 := to_eq hBo gr ki ma (laD wk dr) (sdF cs (txV bb sz wk (laD wk dr)))
  have hts := hTp.1
  have htb := hTp.2.1
  have hbo := hTp.2.2
  have htl := to_le hPe hBo (laD wk dr) (sdF cs (txV bb sz wk (laD wk dr)))
  have hsum : sumN (crH gr ki ma hd (laD wk dr) (sdF cs (txV bb sz wk (laD wk dr)))) 495 = (toH gr ki ma hd (laD wk dr) (sdF cs (txV bb sz wk (laD wk dr)))) := rfl
  have hcb : ∀ p, (crH gr ki ma hd (laD wk dr) (sdF cs (txV bb sz wk (laD wk dr)))) p ≤ 2 ^ 30 := cr_all hPe hBo (laD wk dr) hsd
  refine ⟨.int (nI (bsT (bsS ru (wkPot ru (totF gr ki ma bp bt br (laD wk dr) (sdF cs (txV bb sz wk (laD wk dr))))) (crF gr ki ma bp bt br (laD wk dr) (sdF cs (txV bb sz wk (laD wk dr)))) (thF (crF gr ki ma bp bt br (laD wk dr) (sdF cs (txV bb sz wk (laD wk dr))))) (twF (crF gr ki ma bp bt br (laD wk dr) (sdF cs (txV bb sz wk (laD wk dr)))))) 495)), 10, 34, _, _, by decide, by decide, Or.inl ⟨rfl, _, rfl⟩, Ct.sub [0, 24, 25, 26, 29, 17, 18, 19, 31, 32, 1, 2, 3, 4, 5, 6, 8, 20, 21, 22, 23, 27, 28, 33, 7, 34] rfl rfl ?_ (ct_best_0 l g (a 0) (a 9) (a 33) (a 34) (a 35) (a 36) (a 39) (a 40) (a 49) ts kp (a 24) (a 1) (a 17) (a 31) (a 20) (a 25) (a 26) (a 27) (a 28) (a 29) (a 30) tot lat se sw (a 18) (a 19) (a 32) (a 2) (a 3) (a 4) (a 5) (a 6) (a 7) (a 8) gr br cs wk z sd li cr ki ma bp bt co ce sk (txV bb sz wk (laD wk dr)) (laD wk dr) (a 21) (a 22) (a 23) va su mk th tw ru wsm (hgr) (hbr) (hcs) (hwk) (hki) (hma) (hbp) (hlat) (hL) (hV) (hse) (hsw)), Ct.sub [0, 1, 8, 7, 4, 6, 12, 13, 14, 15] rfl rfl ?_ (ct_nbest_0 l g (b 0) (b 1) (b 2) (b 3) (b 4) (b 5) (b 6) (b 7) (b 8) (b 9) (b 10) (b 11) (b 12) (b 13) (b 14) (b 15) (b 16) (b 17) (b 18) (b 19) ts nta nop npr nac kp nbd nnw nsn nwn gr wk lk sz br z ru ki ma bb hd ce tb nli nal nlo (sdF cs (txV bb sz wk (laD wk dr))) (laD wk dr) nwi (hgr) (hki) (hma) (hwk) (hlat) (hL) (hsz) (hbb) (hsd) (hsv) (hlk) (hwo) (hwc) (htot)), ?_⟩
  · rintro v w ⟨li2_x, sk2_x, va2_x, su2_x, mk2_x, ws2_x, rfl, rfl⟩; rfl
  · rintro v w ⟨zat_n, zop_n, zbd_n, zpr_n, lo2_n, rfl, rfl, P0n⟩; rfl
  · rintro v1 w1 v2 w2 ⟨wq1, ⟨li2_x, sk2_x, va2_x, su2_x, mk2_x, ws2_x, rfl, rfl⟩, hw1⟩ ⟨wq2, ⟨zat_n, zop_n, zbd_n, zpr_n, lo2_n, rfl, rfl, P0n⟩, hw2⟩
    rw [hw1, hw2]
    refine ⟨rfl, by rw [e1, e2]; exact congrArg (fun x => some (Value.int (nI x))) (best_eq hRu htl hsum), rel_mk g a b gr wk br cs lk sz z ru ki ma bp bt bb hd dr co ce kgr kwk kbr kcs klk ksz kz kru kki kma kbp kbt kbb khd kdr kco kce kp nkf ts fi tb bo rn0 rc0 ra0 rft f0 (totF gr ki ma bp bt br (laD wk dr) (sdF cs (txV bb sz wk (laD wk dr)))) (laD wk dr) 1 1 (sdF cs (txV bb sz wk (laD wk dr))) li2_x (thF (crF gr ki ma bp bt br (laD wk dr) (sdF cs (txV bb sz wk (laD wk dr))))) (twF (crF gr ki ma bp bt br (laD wk dr) (sdF cs (txV bb sz wk (laD wk dr))))) (crF gr ki ma bp bt br (laD wk dr) (sdF cs (txV bb sz wk (laD wk dr)))) by_ va2_x su2_x mk2_x sk2_x ws2_x tk shF sb sn sv zat_n zop_n zpr_n (toH gr ki ma hd (laD wk dr) (sdF cs (txV bb sz wk (laD wk dr)))) zbd_n 0 0 0 (sdF cs (txV bb sz wk (laD wk dr))) (crH gr ki ma hd (laD wk dr) (sdF cs (txV bb sz wk (laD wk dr)))) lo2_n (wiF (crH gr ki ma hd (laD wk dr) (sdF cs (txV bb sz wk (laD wk dr))))) ntr nbg now_ nis nbo nsz nnu ?_ ?_ hPe hBk hBo hLk hRu hKp hTp hSh ⟨Or.inr ⟨rfl, rfl, rfl, rfl, rfl⟩, Or.inr ⟨rfl, rfl, rfl⟩⟩ ⟨Or.inr ⟨rfl, rfl, rfl, rfl, rfl, P0n⟩, Or.inr ⟨wnI_0 _, rfl⟩⟩⟩
    · simp only [e1, e2, xW, nW, xSet, List.set_cons_zero, List.set_cons_succ, nI_zero]
    · simp only [xW, nW, xSet, List.set_cons_zero, List.set_cons_succ, nI_zero]

set_option maxRecDepth 100000 in
set_option maxHeartbeats 4000000 in
theorem pr_best_1 (l : Launch) (g : XG) (a b : Nat → Nat) (gr wk br cs lk sz : Nat) (z : Int32) (ru ki ma bp bt bb hd dr : Nat → Nat) (co ce : Nat → Int32) (kgr kwk kbr kcs klk ksz : Nat) (kz : Int32) (kru kki kma kbp kbt kbb khd kdr : Nat → Nat) (kco kce : Nat → Int32) (kp : Int32) (nkf : Nat → Int32) (ts : Nat) (fi tb bo : Nat → Nat) (rn0 rc0 ra0 : Nat) (rft : Int32) (f0 : Nat → Int32) (tot lat : Nat) (se sw : Int32) (sd li th tw cr by_ : Nat → Nat) (va su : Nat → Int64) (mk : Nat → Nat) (sk : Nat → Int32) (wsm : Nat → Int64) (tk : Nat → Nat) (shF : Nat → Option Nat) (sb sn : Nat → Nat) (sv : Nat → Nat → Int64) (nta nop npr nac : Nat) (nbd nnw nsn nwn : Int32) (nli nal nlo nwi ntr nbg now_ : Nat → Nat) (nis nbo : Nat → Int32) (nsz : Nat → Nat) (nnu : Nat → Int64) (hPe : PeI gr ki ma) (hBk : BkI wk ce dr) (hBo : BoI br bp bt hd) (hLk : LkI cs co lk sz bb) (hRu : RuI ru) (hKp : KpI kp nkf kgr kwk kbr kcs klk ksz kz kru kki kma kbp kbt kbb khd kdr kco kce) (hTp : TpI ts tb bo) (hSh : ShI a shF sb sn sv nbo nsz nnu) (hCr : CrI gr wk br cs sz ki ma bp bt bb dr tot lat se sw sd cr th tw) (hRf : RfI gr wk cs sz ki ma hd bb dr nnw nsn nwn nli nal nlo nwi nac) : PairP l g yX8_best cX8_best 3 (some .int) [.ref ((a 0)), .int 1] yX9_best cX9_best 8 (some .int) [.ref ((b 0)), .int 1] (xW g a gr wk br cs z ru ki ma bp bt co ce kgr kwk kbr kcs kz kru kki kma kbp kbt kco kce kp ts fi tb bo rn0 rc0 ra0 rft f0 tot lat se sw sd li th tw cr by_ va su mk sk wsm tk shF sb sn sv) (nW g b gr wk lk sz br z ru ki ma bb ce hd kp nkf ts fi tb nta nop npr nac nbd nnw nsn nwn nli nal nlo nwi ntr nbg now_ nis nbo nsz nnu) (Rel g a b) := by
  have hgr := hPe.1
  have hki := hPe.2.1
  have hma := hPe.2.2
  have hwk := hBk.1
  have hlat := core_lat hBk
  have hL := core_L hBk
  have hbr := hBo.1
  have hbp := hBo.2.1
  have hbt := hBo.2.2.1
  have hhd := hBo.2.2.2.2.2.2
  have hcs := hLk.1
  have hsz := hLk.2.1
  have hbb := hLk.2.2.1
  have hlk := lk_le hLk
  have hV : cs ≠ 0 → ∀ p, p < 495 → evR (nmI wk (laD wk dr) p) (cdF co 0 cs) [] = some [(txV bb sz wk (laD wk dr)) p] := fun q p _ => hLk.2.2.2.2 q wk (laD wk dr) p
  have hse := hCr.1
  have hsw := hCr.2
  have hsd := sdD_le cs bb sz wk (laD wk dr)
  have hsv : ∀ p, p < 495 → sdF cs (txV bb sz wk (laD wk dr)) p = if lk = 1 then clN (txV bb sz wk (laD wk dr) p) else 1 := fun p _ => lk_sd hLk _ _ p
  have hwo := hRf.1
  have hwc := hRf.2
  have htot := to_lt hPe hBo (laD wk dr) (sdF cs (txV bb sz wk (laD wk dr)))
  have e1 := cr_eq hBo gr ki ma (laD wk dr) (sdF cs (txV bb sz wk (laD wk dr)))
  have e2 := to_eq hBo gr ki ma (laD wk dr) (sdF cs (txV bb sz wk (laD wk dr)))
  have hts := hTp.1
  have htb := hTp.2.1
  have hbo := hTp.2.2
  have htl := to_le hPe hBo (laD wk dr) (sdF cs (txV bb sz wk (laD wk dr)))
  have hsum : sumN (crH gr ki ma hd (laD wk dr) (sdF cs (txV bb sz wk (laD wk dr)))) 495 = (toH gr ki ma hd (laD wk dr) (sdF cs (txV bb sz wk (laD wk dr)))) := rfl
  have hcb : ∀ p, (crH gr ki ma hd (laD wk dr) (sdF cs (txV bb sz wk (laD wk dr)))) p ≤ 2 ^ 30 := cr_all hPe hBo (laD wk dr) hsd
  refine ⟨.int ((worthL ru (totF gr ki ma bp bt br (laD wk dr) (sdF cs (txV bb sz wk (laD wk dr)))) (crF gr ki ma bp bt br (laD wk dr) (sdF cs (txV bb sz wk (laD wk dr)))) (thF (crF gr ki ma bp bt br (laD wk dr) (sdF cs (txV bb sz wk (laD wk dr))))) (twF (crF gr ki ma bp bt br (laD wk dr) (sdF cs (txV bb sz wk (laD wk dr))))) (bsT (bsS ru (wkPot ru (totF gr ki ma bp bt br (laD wk dr) (sdF cs (txV bb sz wk (laD wk dr))))) (crF gr ki ma bp bt br (laD wk dr) (sdF cs (txV bb sz wk (laD wk dr)))) (thF (crF gr ki ma bp bt br (laD wk dr) (sdF cs (txV bb sz wk (laD wk dr))))) (twF (crF gr ki ma bp bt br (laD wk dr) (sdF cs (txV bb sz wk (laD wk dr)))))) 495) (ru 7)).toInt32), 10, 34, _, _, by decide, by decide, Or.inl ⟨rfl, _, rfl⟩, Ct.sub [0, 24, 25, 26, 29, 17, 18, 19, 31, 32, 1, 2, 3, 4, 5, 6, 8, 20, 21, 22, 23, 27, 28, 33, 7, 34] rfl rfl ?_ (ct_best_1 l g (a 0) (a 9) (a 33) (a 34) (a 35) (a 36) (a 39) (a 40) (a 49) ts kp (a 24) (a 1) (a 17) (a 31) (a 20) (a 25) (a 26) (a 27) (a 28) (a 29) (a 30) tot lat se sw (a 18) (a 19) (a 32) (a 2) (a 3) (a 4) (a 5) (a 6) (a 7) (a 8) gr br cs wk z sd li cr ki ma bp bt co ce sk (txV bb sz wk (laD wk dr)) (laD wk dr) (a 21) (a 22) (a 23) va su mk th tw ru wsm (hgr) (hbr) (hcs) (hwk) (hki) (hma) (hbp) (hlat) (hL) (hV) (hse) (hsw)), Ct.sub [0, 1, 8, 7, 4, 6, 12, 13, 14, 15] rfl rfl ?_ (ct_nbest_1 l g (b 0) (b 1) (b 2) (b 3) (b 4) (b 5) (b 6) (b 7) (b 8) (b 9) (b 10) (b 11) (b 12) (b 13) (b 14) (b 15) (b 16) (b 17) (b 18) (b 19) ts nta nop npr nac kp nbd nnw nsn nwn gr wk lk sz br z ru ki ma bb hd ce tb nli nal nlo (sdF cs (txV bb sz wk (laD wk dr))) (laD wk dr) nwi (hgr) (hki) (hma) (hwk) (hlat) (hL) (hsz) (hbb) (hsd) (hsv) (hlk) (hwo) (hwc) (htot)), ?_⟩
  · rintro v w ⟨li2_x, sk2_x, va2_x, su2_x, mk2_x, ws2_x, rfl, rfl⟩; rfl
  · rintro v w ⟨zat_n, zop_n, zbd_n, zpr_n, lo2_n, rfl, rfl, P0n⟩; rfl
  · rintro v1 w1 v2 w2 ⟨wq1, ⟨li2_x, sk2_x, va2_x, su2_x, mk2_x, ws2_x, rfl, rfl⟩, hw1⟩ ⟨wq2, ⟨zat_n, zop_n, zbd_n, zpr_n, lo2_n, rfl, rfl, P0n⟩, hw2⟩
    rw [hw1, hw2]
    refine ⟨rfl, by rw [e1, e2, best_eq hRu htl hsum]; exact congrArg (fun x => some (Value.int x)) (worth_eq (bsT_lt _ (by decide) (Nat.le_refl _)) hRu htl hsum), rel_mk g a b gr wk br cs lk sz z ru ki ma bp bt bb hd dr co ce kgr kwk kbr kcs klk ksz kz kru kki kma kbp kbt kbb khd kdr kco kce kp nkf ts fi tb bo rn0 rc0 ra0 rft f0 (totF gr ki ma bp bt br (laD wk dr) (sdF cs (txV bb sz wk (laD wk dr)))) (laD wk dr) 1 1 (sdF cs (txV bb sz wk (laD wk dr))) li2_x (thF (crF gr ki ma bp bt br (laD wk dr) (sdF cs (txV bb sz wk (laD wk dr))))) (twF (crF gr ki ma bp bt br (laD wk dr) (sdF cs (txV bb sz wk (laD wk dr))))) (crF gr ki ma bp bt br (laD wk dr) (sdF cs (txV bb sz wk (laD wk dr)))) by_ va2_x su2_x mk2_x sk2_x ws2_x tk shF sb sn sv zat_n zop_n zpr_n (toH gr ki ma hd (laD wk dr) (sdF cs (txV bb sz wk (laD wk dr)))) zbd_n 0 0 0 (sdF cs (txV bb sz wk (laD wk dr))) (crH gr ki ma hd (laD wk dr) (sdF cs (txV bb sz wk (laD wk dr)))) lo2_n (wiF (crH gr ki ma hd (laD wk dr) (sdF cs (txV bb sz wk (laD wk dr))))) ntr nbg now_ nis nbo nsz nnu ?_ ?_ hPe hBk hBo hLk hRu hKp hTp hSh ⟨Or.inr ⟨rfl, rfl, rfl, rfl, rfl⟩, Or.inr ⟨rfl, rfl, rfl⟩⟩ ⟨Or.inr ⟨rfl, rfl, rfl, rfl, rfl, P0n⟩, Or.inr ⟨wnI_0 _, rfl⟩⟩⟩
    · simp only [e1, e2, xW, nW, xSet, List.set_cons_zero, List.set_cons_succ, nI_zero]
    · simp only [xW, nW, xSet, List.set_cons_zero, List.set_cons_succ, nI_zero]

set_option maxRecDepth 100000 in
set_option maxHeartbeats 4000000 in
theorem pr_line_b (l : Launch) (g : XG) (a b : Nat → Nat) (gr wk br cs lk sz : Nat) (z : Int32) (ru ki ma bp bt bb hd dr : Nat → Nat) (co ce : Nat → Int32) (kgr kwk kbr kcs klk ksz : Nat) (kz : Int32) (kru kki kma kbp kbt kbb khd kdr : Nat → Nat) (kco kce : Nat → Int32) (kp : Int32) (nkf : Nat → Int32) (ts : Nat) (fi tb bo : Nat → Nat) (rn0 rc0 ra0 : Nat) (rft : Int32) (f0 : Nat → Int32) (tot lat : Nat) (se sw : Int32) (sd li th tw cr by_ : Nat → Nat) (va su : Nat → Int64) (mk : Nat → Nat) (sk : Nat → Int32) (wsm : Nat → Int64) (tk : Nat → Nat) (shF : Nat → Option Nat) (sb sn : Nat → Nat) (sv : Nat → Nat → Int64) (nta nop npr nac : Nat) (nbd nnw nsn nwn : Int32) (nli nal nlo nwi ntr nbg now_ : Nat → Nat) (nis nbo : Nat → Int32) (nsz : Nat → Nat) (nnu : Nat → Int64) (hPe : PeI gr ki ma) (hBk : BkI wk ce dr) (hBo : BoI br bp bt hd) (hLk : LkI cs co lk sz bb) (hRu : RuI ru) (hKp : KpI kp nkf kgr kwk kbr kcs klk ksz kz kru kki kma kbp kbt kbb khd kdr kco kce) (hTp : TpI ts tb bo) (hSh : ShI a shF sb sn sv nbo nsz nnu) (hCr : CrI gr wk br cs sz ki ma bp bt bb dr tot lat se sw sd cr th tw) (hRf : RfI gr wk cs sz ki ma hd bb dr nnw nsn nwn nli nal nlo nwi nac) (pl : Int32) (hb : wI pl 0 494 = 0) : PairP l g yX8_line cX8_line 3 (some .int) [.ref ((a 0)), .int pl] yX9_line cX9_line 6 (some .int) [.ref ((b 0)), .int pl] (xW g a gr wk br cs z ru ki ma bp bt co ce kgr kwk kbr kcs kz kru kki kma kbp kbt kco kce kp ts fi tb bo rn0 rc0 ra0 rft f0 tot lat se sw sd li th tw cr by_ va su mk sk wsm tk shF sb sn sv) (nW g b gr wk lk sz br z ru ki ma bb ce hd kp nkf ts fi tb nta nop npr nac nbd nnw nsn nwn nli nal nlo nwi ntr nbg now_ nis nbo nsz nnu) (Rel g a b) := by
  have hgr := hPe.1
  have hki := hPe.2.1
  have hma := hPe.2.2
  have hwk := hBk.1
  have hlat := core_lat hBk
  have hL := core_L hBk
  have hbr := hBo.1
  have hbp := hBo.2.1
  have hbt := hBo.2.2.1
  have hhd := hBo.2.2.2.2.2.2
  have hcs := hLk.1
  have hsz := hLk.2.1
  have hbb := hLk.2.2.1
  have hlk := lk_le hLk
  have hV : cs ≠ 0 → ∀ p, p < 495 → evR (nmI wk (laD wk dr) p) (cdF co 0 cs) [] = some [(txV bb sz wk (laD wk dr)) p] := fun q p _ => hLk.2.2.2.2 q wk (laD wk dr) p
  have hse := hCr.1
  have hsw := hCr.2
  have hsd := sdD_le cs bb sz wk (laD wk dr)
  have hsv : ∀ p, p < 495 → sdF cs (txV bb sz wk (laD wk dr)) p = if lk = 1 then clN (txV bb sz wk (laD wk dr) p) else 1 := fun p _ => lk_sd hLk _ _ p
  have hwo := hRf.1
  have hwc := hRf.2
  have htot := to_lt hPe hBo (laD wk dr) (sdF cs (txV bb sz wk (laD wk dr)))
  have e1 := cr_eq hBo gr ki ma (laD wk dr) (sdF cs (txV bb sz wk (laD wk dr)))
  have e2 := to_eq hBo gr ki ma (laD wk dr) (sdF cs (txV bb sz wk (laD wk dr)))
  have hts := hTp.1
  have htb := hTp.2.1
  have hbo := hTp.2.2
  refine ⟨.int (fndI 0), 10, 34, _, _, by decide, by decide, Or.inl ⟨rfl, _, rfl⟩, Ct.sub [0, 49, 1] rfl rfl ?_ (ct_line_b l g (a 0) (a 1) (a 9) (a 17) (a 24) (a 33) (a 36) (a 39) (a 40) (a 49) ts kp (a 2) (a 3) (a 4) (a 5) (a 6) (a 7) (a 8) gr br cs wk z fi pl (hb)), Ct.sub [0, 3] rfl rfl ?_ (ct_nline_b l g (b 0) (b 1) (b 2) (b 3) (b 4) (b 5) (b 6) (b 7) (b 8) (b 9) (b 10) (b 11) (b 12) (b 13) (b 14) (b 15) (b 16) (b 17) (b 18) (b 19) ts nta nop npr nac kp nbd 0 nnw nsn nwn fi pl (hb)), ?_⟩
  · rintro v w ⟨rfl, rfl⟩; rfl
  · rintro v w ⟨rfl, rfl⟩; rfl
  · rintro v1 w1 v2 w2 ⟨wq1, ⟨rfl, rfl⟩, hw1⟩ ⟨wq2, ⟨rfl, rfl⟩, hw2⟩
    rw [hw1, hw2]
    refine ⟨rfl, rfl, rel_mk g a b gr wk br cs lk sz z ru ki ma bp bt bb hd dr co ce kgr kwk kbr kcs klk ksz kz kru kki kma kbp kbt kbb khd kdr kco kce kp nkf ts (updN fi 0 (fi 0 + 1)) tb bo rn0 rc0 ra0 rft f0 tot lat se sw sd li th tw cr by_ va su mk sk wsm tk shF sb sn sv nta nop npr nac nbd nnw nsn nwn nli nal nlo nwi ntr nbg now_ nis nbo nsz nnu ?_ ?_ hPe hBk hBo hLk hRu hKp hTp hSh hCr hRf⟩
    · simp only [e1, e2, xW, nW, xSet, List.set_cons_zero, List.set_cons_succ, nI_zero]
    · simp only [xW, nW, xSet, List.set_cons_zero, List.set_cons_succ, nI_zero]

set_option maxRecDepth 100000 in
set_option maxHeartbeats 4000000 in
theorem pr_line_n (l : Launch) (g : XG) (a b : Nat → Nat) (gr wk br cs lk sz : Nat) (z : Int32) (ru ki ma bp bt bb hd dr : Nat → Nat) (co ce : Nat → Int32) (kgr kwk kbr kcs klk ksz : Nat) (kz : Int32) (kru kki kma kbp kbt kbb khd kdr : Nat → Nat) (kco kce : Nat → Int32) (kp : Int32) (nkf : Nat → Int32) (ts : Nat) (fi tb bo : Nat → Nat) (rn0 rc0 ra0 : Nat) (rft : Int32) (f0 : Nat → Int32) (tot lat : Nat) (se sw : Int32) (sd li th tw cr by_ : Nat → Nat) (va su : Nat → Int64) (mk : Nat → Nat) (sk : Nat → Int32) (wsm : Nat → Int64) (tk : Nat → Nat) (shF : Nat → Option Nat) (sb sn : Nat → Nat) (sv : Nat → Nat → Int64) (nta nop npr nac : Nat) (nbd nnw nsn nwn : Int32) (nli nal nlo nwi ntr nbg now_ : Nat → Nat) (nis nbo : Nat → Int32) (nsz : Nat → Nat) (nnu : Nat → Int64) (hPe : PeI gr ki ma) (hBk : BkI wk ce dr) (hBo : BoI br bp bt hd) (hLk : LkI cs co lk sz bb) (hRu : RuI ru) (hKp : KpI kp nkf kgr kwk kbr kcs klk ksz kz kru kki kma kbp kbt kbb khd kdr kco kce) (hTp : TpI ts tb bo) (hSh : ShI a shF sb sn sv nbo nsz nnu) (hCr : CrI gr wk br cs sz ki ma bp bt bb dr tot lat se sw sd cr th tw) (hRf : RfI gr wk cs sz ki ma hd bb dr nnw nsn nwn nli nal nlo nwi nac) (p : Nat) (hp : p < 495) (hl : lg_cmp (worthL ru (totF gr ki ma bp bt br (laD wk dr) (sdF cs (txV bb sz wk (laD wk dr)))) (crF gr ki ma bp bt br (laD wk dr) (sdF cs (txV bb sz wk (laD wk dr)))) (thF (crF gr ki ma bp bt br (laD wk dr) (sdF cs (txV bb sz wk (laD wk dr))))) (twF (crF gr ki ma bp bt br (laD wk dr) (sdF cs (txV bb sz wk (laD wk dr))))) p 99999999) (nI (ru 0)).toInt64 < 0) : PairP l g yX8_line cX8_line 3 (some .int) [.ref ((a 0)), .int (nI p)] yX9_line cX9_line 6 (some .int) [.ref ((b 0)), .int (nI p)] (xW g a gr wk br cs z ru ki ma bp bt co ce kgr kwk kbr kcs kz kru kki kma kbp kbt kco kce kp ts fi tb bo rn0 rc0 ra0 rft f0 tot lat se sw sd li th tw cr by_ va su mk sk wsm tk shF sb sn sv) (nW g b gr wk lk sz br z ru ki ma bb ce hd kp nkf ts fi tb nta nop npr nac nbd nnw nsn nwn nli nal nlo nwi ntr nbg now_ nis nbo nsz nnu) (Rel g a b) := by
  have hgr := hPe.1
  have hki := hPe.2.1
  have hma := hPe.2.2
  have hwk := hBk.1
  have hlat := core_lat hBk
  have hL := core_L hBk
  have hbr := hBo.1
  have hbp := hBo.2.1
  have hbt := hBo.2.2.1
  have hhd := hBo.2.2.2.2.2.2
  have hcs := hLk.1
  have hsz := hLk.2.1
  have hbb := hLk.2.2.1
  have hlk := lk_le hLk
  have hV : cs ≠ 0 → ∀ p, p < 495 → evR (nmI wk (laD wk dr) p) (cdF co 0 cs) [] = some [(txV bb sz wk (laD wk dr)) p] := fun q p _ => hLk.2.2.2.2 q wk (laD wk dr) p
  have hse := hCr.1
  have hsw := hCr.2
  have hsd := sdD_le cs bb sz wk (laD wk dr)
  have hsv : ∀ p, p < 495 → sdF cs (txV bb sz wk (laD wk dr)) p = if lk = 1 then clN (txV bb sz wk (laD wk dr) p) else 1 := fun p _ => lk_sd hLk _ _ p
  have hwo := hRf.1
  have hwc := hRf.2
  have htot := to_lt hPe hBo (laD wk dr) (sdF cs (txV bb sz wk (laD wk dr)))
  have e1 := cr_eq hBo gr ki ma (laD wk dr) (sdF cs (txV bb sz wk (laD wk dr)))
  have e2 := to_eq hBo gr ki ma (laD wk dr) (sdF cs (txV bb sz wk (laD wk dr)))
  have hts := hTp.1
  have htb := hTp.2.1
  have hbo := hTp.2.2
  have htl := to_le hPe hBo (laD wk dr) (sdF cs (txV bb sz wk (laD wk dr)))
  have hsum : sumN (crH gr ki ma hd (laD wk dr) (sdF cs (txV bb sz wk (laD wk dr)))) 495 = (toH gr ki ma hd (laD wk dr) (sdF cs (txV bb sz wk (laD wk dr)))) := rfl
  have hcb : ∀ p, (crH gr ki ma hd (laD wk dr) (sdF cs (txV bb sz wk (laD wk dr)))) p ≤ 2 ^ 30 := cr_all hPe hBo (laD wk dr) hsd
  refine ⟨.int (fndI 3), 10, 34, _, _, by decide, by decide, Or.inl ⟨rfl, _, rfl⟩, Ct.sub [0, 49, 24, 25, 26, 29, 17, 18, 19, 31, 32, 1, 2, 3, 4, 5, 6, 8, 20, 21, 22, 23, 27, 28, 33, 7] rfl rfl ?_ (ct_line_n l g (a 0) (a 9) (a 33) (a 34) (a 35) (a 36) (a 39) (a 40) (a 49) ts kp (a 24) (a 1) (a 17) (a 31) (a 20) (a 25) (a 26) (a 27) (a 28) (a 29) (a 30) tot lat se sw (a 18) (a 19) (a 32) (a 2) (a 3) (a 4) (a 5) (a 6) (a 7) (a 8) gr br cs wk z sd li cr ki ma bp bt co ce sk (txV bb sz wk (laD wk dr)) (laD wk dr) (a 21) (a 22) (a 23) va su mk th tw ru fi p (hgr) (hbr) (hcs) (hwk) (hki) (hma) (hbp) (hlat) (hL) (hV) (hse) (hsw) (hp) (hl)), Ct.sub [0, 3, 1, 8, 7, 4, 6, 12, 13, 14, 15] rfl rfl ?_ (ct_nline_n l g (b 0) (b 1) (b 2) (b 3) (b 4) (b 5) (b 6) (b 7) (b 8) (b 9) (b 10) (b 11) (b 12) (b 13) (b 14) (b 15) (b 16) (b 17) (b 18) (b 19) ts nta nop npr nac kp nbd nnw nsn nwn gr wk lk sz br z ru ki ma bb hd ce tb nli nal nlo (sdF cs (txV bb sz wk (laD wk dr))) (laD wk dr) nwi fi p (hgr) (hki) (hma) (hwk) (hlat) (hL) (hsz) (hbb) (hsd) (hsv) (hlk) (hwo) (hwc) (htot) (hp) (by have q := hl; rw [e1, e2] at q; exact (lp_eq (Nat.le_refl _) hp hRu htl hsum).mp q)), ?_⟩
  · rintro v w ⟨li2_x, sk2_x, va2_x, su2_x, mk2_x, rfl, rfl⟩; rfl
  · rintro v w ⟨zat_n, zop_n, zbd_n, zpr_n, lo2_n, rfl, rfl, P0n⟩; rfl
  · rintro v1 w1 v2 w2 ⟨wq1, ⟨li2_x, sk2_x, va2_x, su2_x, mk2_x, rfl, rfl⟩, hw1⟩ ⟨wq2, ⟨zat_n, zop_n, zbd_n, zpr_n, lo2_n, rfl, rfl, P0n⟩, hw2⟩
    rw [hw1, hw2]
    refine ⟨rfl, rfl, rel_mk g a b gr wk br cs lk sz z ru ki ma bp bt bb hd dr co ce kgr kwk kbr kcs klk ksz kz kru kki kma kbp kbt kbb khd kdr kco kce kp nkf ts (updN fi 3 (fi 3 + 1)) tb bo rn0 rc0 ra0 rft f0 (totF gr ki ma bp bt br (laD wk dr) (sdF cs (txV bb sz wk (laD wk dr)))) (laD wk dr) 1 1 (sdF cs (txV bb sz wk (laD wk dr))) li2_x (thF (crF gr ki ma bp bt br (laD wk dr) (sdF cs (txV bb sz wk (laD wk dr))))) (twF (crF gr ki ma bp bt br (laD wk dr) (sdF cs (txV bb sz wk (laD wk dr))))) (crF gr ki ma bp bt br (laD wk dr) (sdF cs (txV bb sz wk (laD wk dr)))) by_ va2_x su2_x mk2_x sk2_x wsm tk shF sb sn sv zat_n zop_n zpr_n (toH gr ki ma hd (laD wk dr) (sdF cs (txV bb sz wk (laD wk dr)))) zbd_n 0 0 0 (sdF cs (txV bb sz wk (laD wk dr))) (crH gr ki ma hd (laD wk dr) (sdF cs (txV bb sz wk (laD wk dr)))) lo2_n (wiF (crH gr ki ma hd (laD wk dr) (sdF cs (txV bb sz wk (laD wk dr))))) ntr nbg now_ nis nbo nsz nnu ?_ ?_ hPe hBk hBo hLk hRu hKp hTp hSh ⟨Or.inr ⟨rfl, rfl, rfl, rfl, rfl⟩, Or.inr ⟨rfl, rfl, rfl⟩⟩ ⟨Or.inr ⟨rfl, rfl, rfl, rfl, rfl, P0n⟩, Or.inr ⟨wnI_0 _, rfl⟩⟩⟩
    · simp only [e1, e2, xW, nW, xSet, List.set_cons_zero, List.set_cons_succ, nI_zero]
    · simp only [xW, nW, xSet, List.set_cons_zero, List.set_cons_succ, nI_zero]

set_option maxRecDepth 100000 in
set_option maxHeartbeats 4000000 in
theorem pr_line_o (l : Launch) (g : XG) (a b : Nat → Nat) (gr wk br cs lk sz : Nat) (z : Int32) (ru ki ma bp bt bb hd dr : Nat → Nat) (co ce : Nat → Int32) (kgr kwk kbr kcs klk ksz : Nat) (kz : Int32) (kru kki kma kbp kbt kbb khd kdr : Nat → Nat) (kco kce : Nat → Int32) (kp : Int32) (nkf : Nat → Int32) (ts : Nat) (fi tb bo : Nat → Nat) (rn0 rc0 ra0 : Nat) (rft : Int32) (f0 : Nat → Int32) (tot lat : Nat) (se sw : Int32) (sd li th tw cr by_ : Nat → Nat) (va su : Nat → Int64) (mk : Nat → Nat) (sk : Nat → Int32) (wsm : Nat → Int64) (tk : Nat → Nat) (shF : Nat → Option Nat) (sb sn : Nat → Nat) (sv : Nat → Nat → Int64) (nta nop npr nac : Nat) (nbd nnw nsn nwn : Int32) (nli nal nlo nwi ntr nbg now_ : Nat → Nat) (nis nbo : Nat → Int32) (nsz : Nat → Nat) (nnu : Nat → Int64) (hPe : PeI gr ki ma) (hBk : BkI wk ce dr) (hBo : BoI br bp bt hd) (hLk : LkI cs co lk sz bb) (hRu : RuI ru) (hKp : KpI kp nkf kgr kwk kbr kcs klk ksz kz kru kki kma kbp kbt kbb khd kdr kco kce) (hTp : TpI ts tb bo) (hSh : ShI a shF sb sn sv nbo nsz nnu) (hCr : CrI gr wk br cs sz ki ma bp bt bb dr tot lat se sw sd cr th tw) (hRf : RfI gr wk cs sz ki ma hd bb dr nnw nsn nwn nli nal nlo nwi nac) (p : Nat) (hp : p < 495) (hl : ¬ lg_cmp (worthL ru (totF gr ki ma bp bt br (laD wk dr) (sdF cs (txV bb sz wk (laD wk dr)))) (crF gr ki ma bp bt br (laD wk dr) (sdF cs (txV bb sz wk (laD wk dr)))) (thF (crF gr ki ma bp bt br (laD wk dr) (sdF cs (txV bb sz wk (laD wk dr))))) (twF (crF gr ki ma bp bt br (laD wk dr) (sdF cs (txV bb sz wk (laD wk dr))))) p 99999999) (nI (ru 0)).toInt64 < 0) : PairP l g yX8_line cX8_line 3 (some .int) [.ref ((a 0)), .int (nI p)] yX9_line cX9_line 6 (some .int) [.ref ((b 0)), .int (nI p)] (xW g a gr wk br cs z ru ki ma bp bt co ce kgr kwk kbr kcs kz kru kki kma kbp kbt kco kce kp ts fi tb bo rn0 rc0 ra0 rft f0 tot lat se sw sd li th tw cr by_ va su mk sk wsm tk shF sb sn sv) (nW g b gr wk lk sz br z ru ki ma bb ce hd kp nkf ts fi tb nta nop npr nac nbd nnw nsn nwn nli nal nlo nwi ntr nbg now_ nis nbo nsz nnu) (Rel g a b) := by
  have hgr := hPe.1
  have hki := hPe.2.1
  have hma := hPe.2.2
  have hwk := hBk.1
  have hlat := core_lat hBk
  have hL := core_L hBk
  have hbr := hBo.1
  have hbp := hBo.2.1
  have hbt := hBo.2.2.1
  have hhd := hBo.2.2.2.2.2.2
  have hcs := hLk.1
  have hsz := hLk.2.1
  have hbb := hLk.2.2.1
  have hlk := lk_le hLk
  have hV : cs ≠ 0 → ∀ p, p < 495 → evR (nmI wk (laD wk dr) p) (cdF co 0 cs) [] = some [(txV bb sz wk (laD wk dr)) p] := fun q p _ => hLk.2.2.2.2 q wk (laD wk dr) p
  have hse := hCr.1
  have hsw := hCr.2
  have hsd := sdD_le cs bb sz wk (laD wk dr)
  have hsv : ∀ p, p < 495 → sdF cs (txV bb sz wk (laD wk dr)) p = if lk = 1 then clN (txV bb sz wk (laD wk dr) p) else 1 := fun p _ => lk_sd hLk _ _ p
  have hwo := hRf.1
  have hwc := hRf.2
  have htot := to_lt hPe hBo (laD wk dr) (sdF cs (txV bb sz wk (laD wk dr)))
  have e1 := cr_eq hBo gr ki ma (laD wk dr) (sdF cs (txV bb sz wk (laD wk dr)))
  have e2 := to_eq hBo gr ki ma (laD wk dr) (sdF cs (txV bb sz wk (laD wk dr)))
  have hts := hTp.1
  have htb := hTp.2.1
  have hbo := hTp.2.2
  have htl := to_le hPe hBo (laD wk dr) (sdF cs (txV bb sz wk (laD wk dr)))
  have hsum : sumN (crH gr ki ma hd (laD wk dr) (sdF cs (txV bb sz wk (laD wk dr)))) 495 = (toH gr ki ma hd (laD wk dr) (sdF cs (txV bb sz wk (laD wk dr)))) := rfl
  have hcb : ∀ p, (crH gr ki ma hd (laD wk dr) (sdF cs (txV bb sz wk (laD wk dr)))) p ≤ 2 ^ 30 := cr_all hPe hBo (laD wk dr) hsd
  refine ⟨.int (nI (lpB ru (totF gr ki ma bp bt br (laD wk dr) (sdF cs (txV bb sz wk (laD wk dr)))) (crF gr ki ma bp bt br (laD wk dr) (sdF cs (txV bb sz wk (laD wk dr)))) (thF (crF gr ki ma bp bt br (laD wk dr) (sdF cs (txV bb sz wk (laD wk dr))))) (twF (crF gr ki ma bp bt br (laD wk dr) (sdF cs (txV bb sz wk (laD wk dr))))) p)), 10, 34, _, _, by decide, by decide, Or.inl ⟨rfl, _, rfl⟩, Ct.sub [0, 49, 24, 25, 26, 29, 17, 18, 19, 31, 32, 1, 2, 3, 4, 5, 6, 8, 20, 21, 22, 23, 27, 28, 33, 7] rfl rfl ?_ (ct_line_o l g (a 0) (a 9) (a 33) (a 34) (a 35) (a 36) (a 39) (a 40) (a 49) ts kp (a 24) (a 1) (a 17) (a 31) (a 20) (a 25) (a 26) (a 27) (a 28) (a 29) (a 30) tot lat se sw (a 18) (a 19) (a 32) (a 2) (a 3) (a 4) (a 5) (a 6) (a 7) (a 8) gr br cs wk z sd li cr ki ma bp bt co ce sk (txV bb sz wk (laD wk dr)) (laD wk dr) (a 21) (a 22) (a 23) va su mk th tw ru fi p (hgr) (hbr) (hcs) (hwk) (hki) (hma) (hbp) (hlat) (hL) (hV) (hse) (hsw) (hp) (hl)), Ct.sub [0, 3, 1, 8, 7, 4, 6, 12, 13, 14, 15] rfl rfl ?_ (ct_nline_o l g (b 0) (b 1) (b 2) (b 3) (b 4) (b 5) (b 6) (b 7) (b 8) (b 9) (b 10) (b 11) (b 12) (b 13) (b 14) (b 15) (b 16) (b 17) (b 18) (b 19) ts nta nop npr nac kp nbd nnw nsn nwn gr wk lk sz br z ru ki ma bb hd ce tb nli nal nlo (sdF cs (txV bb sz wk (laD wk dr))) (laD wk dr) nwi fi p (hgr) (hki) (hma) (hwk) (hlat) (hL) (hsz) (hbb) (hsd) (hsv) (hlk) (hwo) (hwc) (htot) (hp) (by have q := hl; rw [e1, e2] at q; exact fun z => q ((lp_eq (Nat.le_refl _) hp hRu htl hsum).mpr z))), ?_⟩
  · rintro v w ⟨li2_x, sk2_x, va2_x, su2_x, mk2_x, rfl, rfl⟩; rfl
  · rintro v w ⟨zat_n, zop_n, zbd_n, zpr_n, lo2_n, rfl, rfl, P0n⟩; rfl
  · rintro v1 w1 v2 w2 ⟨wq1, ⟨li2_x, sk2_x, va2_x, su2_x, mk2_x, rfl, rfl⟩, hw1⟩ ⟨wq2, ⟨zat_n, zop_n, zbd_n, zpr_n, lo2_n, rfl, rfl, P0n⟩, hw2⟩
    rw [hw1, hw2]
    refine ⟨rfl, by rw [e1, e2]; exact congrArg (fun x => some (Value.int (nI x))) (line_eq' hp hRu htl hsum), rel_mk g a b gr wk br cs lk sz z ru ki ma bp bt bb hd dr co ce kgr kwk kbr kcs klk ksz kz kru kki kma kbp kbt kbb khd kdr kco kce kp nkf ts fi tb bo rn0 rc0 ra0 rft f0 (totF gr ki ma bp bt br (laD wk dr) (sdF cs (txV bb sz wk (laD wk dr)))) (laD wk dr) 1 1 (sdF cs (txV bb sz wk (laD wk dr))) li2_x (thF (crF gr ki ma bp bt br (laD wk dr) (sdF cs (txV bb sz wk (laD wk dr))))) (twF (crF gr ki ma bp bt br (laD wk dr) (sdF cs (txV bb sz wk (laD wk dr))))) (crF gr ki ma bp bt br (laD wk dr) (sdF cs (txV bb sz wk (laD wk dr)))) by_ va2_x su2_x mk2_x sk2_x wsm tk shF sb sn sv zat_n zop_n zpr_n (toH gr ki ma hd (laD wk dr) (sdF cs (txV bb sz wk (laD wk dr)))) zbd_n 0 0 0 (sdF cs (txV bb sz wk (laD wk dr))) (crH gr ki ma hd (laD wk dr) (sdF cs (txV bb sz wk (laD wk dr)))) lo2_n (wiF (crH gr ki ma hd (laD wk dr) (sdF cs (txV bb sz wk (laD wk dr))))) ntr nbg now_ nis nbo nsz nnu ?_ ?_ hPe hBk hBo hLk hRu hKp hTp hSh ⟨Or.inr ⟨rfl, rfl, rfl, rfl, rfl⟩, Or.inr ⟨rfl, rfl, rfl⟩⟩ ⟨Or.inr ⟨rfl, rfl, rfl, rfl, rfl, P0n⟩, Or.inr ⟨wnI_0 _, rfl⟩⟩⟩
    · simp only [e1, e2, xW, nW, xSet, List.set_cons_zero, List.set_cons_succ, nI_zero]
    · simp only [xW, nW, xSet, List.set_cons_zero, List.set_cons_succ, nI_zero]

set_option maxRecDepth 100000 in
set_option maxHeartbeats 4000000 in
theorem pr_house_b (l : Launch) (g : XG) (a b : Nat → Nat) (gr wk br cs lk sz : Nat) (z : Int32) (ru ki ma bp bt bb hd dr : Nat → Nat) (co ce : Nat → Int32) (kgr kwk kbr kcs klk ksz : Nat) (kz : Int32) (kru kki kma kbp kbt kbb khd kdr : Nat → Nat) (kco kce : Nat → Int32) (kp : Int32) (nkf : Nat → Int32) (ts : Nat) (fi tb bo : Nat → Nat) (rn0 rc0 ra0 : Nat) (rft : Int32) (f0 : Nat → Int32) (tot lat : Nat) (se sw : Int32) (sd li th tw cr by_ : Nat → Nat) (va su : Nat → Int64) (mk : Nat → Nat) (sk : Nat → Int32) (wsm : Nat → Int64) (tk : Nat → Nat) (shF : Nat → Option Nat) (sb sn : Nat → Nat) (sv : Nat → Nat → Int64) (nta nop npr nac : Nat) (nbd nnw nsn nwn : Int32) (nli nal nlo nwi ntr nbg now_ : Nat → Nat) (nis nbo : Nat → Int32) (nsz : Nat → Nat) (nnu : Nat → Int64) (hPe : PeI gr ki ma) (hBk : BkI wk ce dr) (hBo : BoI br bp bt hd) (hLk : LkI cs co lk sz bb) (hRu : RuI ru) (hKp : KpI kp nkf kgr kwk kbr kcs klk ksz kz kru kki kma kbp kbt kbb khd kdr kco kce) (hTp : TpI ts tb bo) (hSh : ShI a shF sb sn sv nbo nsz nnu) (hCr : CrI gr wk br cs sz ki ma bp bt bb dr tot lat se sw sd cr th tw) (hRf : RfI gr wk cs sz ki ma hd bb dr nnw nsn nwn nli nal nlo nwi nac) (n : Int32) (hb : wI n 1 495 = 0) : PairP l g yX8_house cX8_house 2 (some .long) [.ref ((a 0)), .int n] yX9_house cX9_house 8 (some .long) [.ref ((b 0)), .int n] (xW g a gr wk br cs z ru ki ma bp bt co ce kgr kwk kbr kcs kz kru kki kma kbp kbt kco kce kp ts fi tb bo rn0 rc0 ra0 rft f0 tot lat se sw sd li th tw cr by_ va su mk sk wsm tk shF sb sn sv) (nW g b gr wk lk sz br z ru ki ma bb ce hd kp nkf ts fi tb nta nop npr nac nbd nnw nsn nwn nli nal nlo nwi ntr nbg now_ nis nbo nsz nnu) (Rel g a b) := by
  have hgr := hPe.1
  have hki := hPe.2.1
  have hma := hPe.2.2
  have hwk := hBk.1
  have hlat := core_lat hBk
  have hL := core_L hBk
  have hbr := hBo.1
  have hbp := hBo.2.1
  have hbt := hBo.2.2.1
  have hhd := hBo.2.2.2.2.2.2
  have hcs := hLk.1
  have hsz := hLk.2.1
  have hbb := hLk.2.2.1
  have hlk := lk_le hLk
  have hV : cs ≠ 0 → ∀ p, p < 495 → evR (nmI wk (laD wk dr) p) (cdF co 0 cs) [] = some [(txV bb sz wk (laD wk dr)) p] := fun q p _ => hLk.2.2.2.2 q wk (laD wk dr) p
  have hse := hCr.1
  have hsw := hCr.2
  have hsd := sdD_le cs bb sz wk (laD wk dr)
  have hsv : ∀ p, p < 495 → sdF cs (txV bb sz wk (laD wk dr)) p = if lk = 1 then clN (txV bb sz wk (laD wk dr) p) else 1 := fun p _ => lk_sd hLk _ _ p
  have hwo := hRf.1
  have hwc := hRf.2
  have htot := to_lt hPe hBo (laD wk dr) (sdF cs (txV bb sz wk (laD wk dr)))
  have e1 := cr_eq hBo gr ki ma (laD wk dr) (sdF cs (txV bb sz wk (laD wk dr)))
  have e2 := to_eq hBo gr ki ma (laD wk dr) (sdF cs (txV bb sz wk (laD wk dr)))
  have hts := hTp.1
  have htb := hTp.2.1
  have hbo := hTp.2.2
  refine ⟨.long ((fndI 0).toInt64), 10, 34, _, _, by decide, by decide, Or.inr ⟨rfl, _, rfl⟩, Ct.sub [0, 49, 1] rfl rfl ?_ (ct_house_b l g (a 0) (a 1) (a 9) (a 17) (a 24) (a 33) (a 36) (a 39) (a 40) (a 49) ts kp (a 2) (a 3) (a 4) (a 5) (a 6) (a 7) (a 8) gr br cs wk z fi n (hb)), Ct.sub [0, 3] rfl rfl ?_ (ct_nhouse_b l g (b 0) (b 1) (b 2) (b 3) (b 4) (b 5) (b 6) (b 7) (b 8) (b 9) (b 10) (b 11) (b 12) (b 13) (b 14) (b 15) (b 16) (b 17) (b 18) (b 19) ts nta nop npr nac kp nbd 0 nnw nsn nwn fi n (hb)), ?_⟩
  · rintro v w ⟨rfl, rfl⟩; rfl
  · rintro v w ⟨rfl, rfl⟩; rfl
  · rintro v1 w1 v2 w2 ⟨wq1, ⟨rfl, rfl⟩, hw1⟩ ⟨wq2, ⟨rfl, rfl⟩, hw2⟩
    rw [hw1, hw2]
    refine ⟨rfl, rfl, rel_mk g a b gr wk br cs lk sz z ru ki ma bp bt bb hd dr co ce kgr kwk kbr kcs klk ksz kz kru kki kma kbp kbt kbb khd kdr kco kce kp nkf ts (updN fi 0 (fi 0 + 1)) tb bo rn0 rc0 ra0 rft f0 tot lat se sw sd li th tw cr by_ va su mk sk wsm tk shF sb sn sv nta nop npr nac nbd nnw nsn nwn nli nal nlo nwi ntr nbg now_ nis nbo nsz nnu ?_ ?_ hPe hBk hBo hLk hRu hKp hTp hSh hCr hRf⟩
    · simp only [e1, e2, xW, nW, xSet, List.set_cons_zero, List.set_cons_succ, nI_zero]
    · simp only [xW, nW, xSet, List.set_cons_zero, List.set_cons_succ, nI_zero]

set_option maxRecDepth 100000 in
set_option maxHeartbeats 4000000 in
theorem pr_house_o (l : Launch) (g : XG) (a b : Nat → Nat) (gr wk br cs lk sz : Nat) (z : Int32) (ru ki ma bp bt bb hd dr : Nat → Nat) (co ce : Nat → Int32) (kgr kwk kbr kcs klk ksz : Nat) (kz : Int32) (kru kki kma kbp kbt kbb khd kdr : Nat → Nat) (kco kce : Nat → Int32) (kp : Int32) (nkf : Nat → Int32) (ts : Nat) (fi tb bo : Nat → Nat) (rn0 rc0 ra0 : Nat) (rft : Int32) (f0 : Nat → Int32) (tot lat : Nat) (se sw : Int32) (sd li th tw cr by_ : Nat → Nat) (va su : Nat → Int64) (mk : Nat → Nat) (sk : Nat → Int32) (wsm : Nat → Int64) (tk : Nat → Nat) (shF : Nat → Option Nat) (sb sn : Nat → Nat) (sv : Nat → Nat → Int64) (nta nop npr nac : Nat) (nbd nnw nsn nwn : Int32) (nli nal nlo nwi ntr nbg now_ : Nat → Nat) (nis nbo : Nat → Int32) (nsz : Nat → Nat) (nnu : Nat → Int64) (hPe : PeI gr ki ma) (hBk : BkI wk ce dr) (hBo : BoI br bp bt hd) (hLk : LkI cs co lk sz bb) (hRu : RuI ru) (hKp : KpI kp nkf kgr kwk kbr kcs klk ksz kz kru kki kma kbp kbt kbb khd kdr kco kce) (hTp : TpI ts tb bo) (hSh : ShI a shF sb sn sv nbo nsz nnu) (hCr : CrI gr wk br cs sz ki ma bp bt bb dr tot lat se sw sd cr th tw) (hRf : RfI gr wk cs sz ki ma hd bb dr nnw nsn nwn nli nal nlo nwi nac) (n : Nat) (hn : 1 ≤ n ∧ n ≤ 495) : PairP l g yX8_house cX8_house 2 (some .long) [.ref ((a 0)), .int (nI n)] yX9_house cX9_house 8 (some .long) [.ref ((b 0)), .int (nI n)] (xW g a gr wk br cs z ru ki ma bp bt co ce kgr kwk kbr kcs kz kru kki kma kbp kbt kco kce kp ts fi tb bo rn0 rc0 ra0 rft f0 tot lat se sw sd li th tw cr by_ va su mk sk wsm tk shF sb sn sv) (nW g b gr wk lk sz br z ru ki ma bb ce hd kp nkf ts fi tb nta nop npr nac nbd nnw nsn nwn nli nal nlo nwi ntr nbg now_ nis nbo nsz nnu) (Rel g a b) := by
  have hgr := hPe.1
  have hki := hPe.2.1
  have hma := hPe.2.2
  have hwk := hBk.1
  have hlat := core_lat hBk
  have hL := core_L hBk
  have hbr := hBo.1
  have hbp := hBo.2.1
  have hbt := hBo.2.2.1
  have hhd := hBo.2.2.2.2.2.2
  have hcs := hLk.1
  have hsz := hLk.2.1
  have hbb := hLk.2.2.1
  have hlk := lk_le hLk
  have hV : cs ≠ 0 → ∀ p, p < 495 → evR (nmI wk (laD wk dr) p) (cdF co 0 cs) [] = some [(txV bb sz wk (laD wk dr)) p] := fun q p _ => hLk.2.2.2.2 q wk (laD wk dr) p
  have hse := hCr.1
  have hsw := hCr.2
  have hsd := sdD_le cs bb sz wk (laD wk dr)
  have hsv : ∀ p, p < 495 → sdF cs (txV bb sz wk (laD wk dr)) p = if lk = 1 then clN (txV bb sz wk (laD wk dr) p) else 1 := fun p _ => lk_sd hLk _ _ p
  have hwo := hRf.1
  have hwc := hRf.2
  have htot := to_lt hPe hBo (laD wk dr) (sdF cs (txV bb sz wk (laD wk dr)))
  have e1 := cr_eq hBo gr ki ma (laD wk dr) (sdF cs (txV bb sz wk (laD wk dr)))
  have e2 := to_eq hBo gr ki ma (laD wk dr) (sdF cs (txV bb sz wk (laD wk dr)))
  have hts := hTp.1
  have htb := hTp.2.1
  have hbo := hTp.2.2
  have htl := to_le hPe hBo (laD wk dr) (sdF cs (txV bb sz wk (laD wk dr)))
  have hsum : sumN (crH gr ki ma hd (laD wk dr) (sdF cs (txV bb sz wk (laD wk dr)))) 495 = (toH gr ki ma hd (laD wk dr) (sdF cs (txV bb sz wk (laD wk dr)))) := rfl
  have hcb : ∀ p, (crH gr ki ma hd (laD wk dr) (sdF cs (txV bb sz wk (laD wk dr)))) p ≤ 2 ^ 30 := cr_all hPe hBo (laD wk dr) hsd
  refine ⟨.long (hsL ru (wkPot ru (totF gr ki ma bp bt br (laD wk dr) (sdF cs (txV bb sz wk (laD wk dr))))) (crF gr ki ma bp bt br (laD wk dr) (sdF cs (txV bb sz wk (laD wk dr)))) (thF (crF gr ki ma bp bt br (laD wk dr) (sdF cs (txV bb sz wk (laD wk dr))))) (twF (crF gr ki ma bp bt br (laD wk dr) (sdF cs (txV bb sz wk (laD wk dr))))) (crL (tkF (crF gr ki ma bp bt br (laD wk dr) (sdF cs (txV bb sz wk (laD wk dr)))) n (totF gr ki ma bp bt br (laD wk dr) (sdF cs (txV bb sz wk (laD wk dr)))))) n), 10, 34, _, _, by decide, by decide, Or.inr ⟨rfl, _, rfl⟩, Ct.sub [0, 24, 25, 26, 29, 17, 18, 19, 31, 32, 1, 2, 3, 4, 5, 6, 8, 20, 21, 22, 23, 27, 28, 33, 7, 35] rfl rfl ?_ (ct_house_o l g (a 0) (a 9) (a 33) (a 34) (a 35) (a 36) (a 39) (a 40) (a 49) ts kp (a 24) (a 1) (a 17) (a 31) (a 20) (a 25) (a 26) (a 27) (a 28) (a 29) (a 30) tot lat se sw (a 18) (a 19) (a 32) (a 2) (a 3) (a 4) (a 5) (a 6) (a 7) (a 8) gr br cs wk z sd li cr ki ma bp bt co ce sk (txV bb sz wk (laD wk dr)) (laD wk dr) (a 21) (a 22) (a 23) va su mk th tw ru tk n (hgr) (hbr) (hcs) (hwk) (hki) (hma) (hbp) (hlat) (hL) (hV) (hse) (hsw) (hn) (by rw [e2]; exact htot)), Ct.sub [0, 1, 8, 7, 4, 6, 12, 13, 14, 16, 17, 15, 18, 19] rfl rfl ?_ (ct_nhouse_o l g (b 0) (b 1) (b 2) (b 3) (b 4) (b 5) (b 6) (b 7) (b 8) (b 9) (b 10) (b 11) (b 12) (b 13) (b 14) (b 15) (b 16) (b 17) (b 18) (b 19) ts nta nop npr nac kp nbd nnw nsn nwn gr wk lk sz br z ru ki ma bb hd ce tb nli nal nlo (sdF cs (txV bb sz wk (laD wk dr))) (laD wk dr) ntr nwi nbg now_ nis n (hgr) (hki) (hma) (hwk) (hlat) (hL) (hsz) (hbb) (hsd) (hsv) (hlk) (hwo) (hwc) (htot) (hcb) (hn)), ?_⟩
  · rintro v w ⟨li2_x, sk2_x, va2_x, su2_x, mk2_x, tk2_x, rfl, rfl⟩; rfl
  · rintro v w ⟨zat_n, zop_n, zbd_n, zpr_n, lo2_n, bg2_n, ow2_n, rfl, rfl, P0n⟩; rfl
  · rintro v1 w1 v2 w2 ⟨wq1, ⟨li2_x, sk2_x, va2_x, su2_x, mk2_x, tk2_x, rfl, rfl⟩, hw1⟩ ⟨wq2, ⟨zat_n, zop_n, zbd_n, zpr_n, lo2_n, bg2_n, ow2_n, rfl, rfl, P0n⟩, hw2⟩
    rw [hw1, hw2]
    refine ⟨rfl, by rw [e1, e2]; exact congrArg (fun x => some (Value.long x)) (house_eq hRu (fun p => by have := hcb p; omega) hsum htl hn), rel_mk g a b gr wk br cs lk sz z ru ki ma bp bt bb hd dr co ce kgr kwk kbr kcs klk ksz kz kru kki kma kbp kbt kbb khd kdr kco kce kp nkf ts fi tb bo rn0 rc0 ra0 rft f0 (totF gr ki ma bp bt br (laD wk dr) (sdF cs (txV bb sz wk (laD wk dr)))) (laD wk dr) 1 1 (sdF cs (txV bb sz wk (laD wk dr))) li2_x (thF (crF gr ki ma bp bt br (laD wk dr) (sdF cs (txV bb sz wk (laD wk dr))))) (twF (crF gr ki ma bp bt br (laD wk dr) (sdF cs (txV bb sz wk (laD wk dr))))) (crF gr ki ma bp bt br (laD wk dr) (sdF cs (txV bb sz wk (laD wk dr)))) by_ va2_x su2_x mk2_x sk2_x wsm tk2_x shF sb sn sv zat_n zop_n zpr_n (toH gr ki ma hd (laD wk dr) (sdF cs (txV bb sz wk (laD wk dr)))) zbd_n 0 0 0 (sdF cs (txV bb sz wk (laD wk dr))) (crH gr ki ma hd (laD wk dr) (sdF cs (txV bb sz wk (laD wk dr)))) lo2_n (wiF (crH gr ki ma hd (laD wk dr) (sdF cs (txV bb sz wk (laD wk dr))))) (crH gr ki ma hd (laD wk dr) (sdF cs (txV bb sz wk (laD wk dr)))) bg2_n ow2_n (tkS (crH gr ki ma hd (laD wk dr) (sdF cs (txV bb sz wk (laD wk dr)))) n) nbo nsz nnu ?_ ?_ hPe hBk hBo hLk hRu hKp hTp hSh ⟨Or.inr ⟨rfl, rfl, rfl, rfl, rfl⟩, Or.inr ⟨rfl, rfl, rfl⟩⟩ ⟨Or.inr ⟨rfl, rfl, rfl, rfl, rfl, P0n⟩, Or.inr ⟨wnI_0 _, rfl⟩⟩⟩
    · simp only [e1, e2, xW, nW, xSet, List.set_cons_zero, List.set_cons_succ, nI_zero]
    · simp only [xW, nW, xSet, List.set_cons_zero, List.set_cons_succ, nI_zero]

set_option maxRecDepth 100000 in
set_option maxHeartbeats 4000000 in
theorem pm_worth (l : Launch) (g : XG) (a b : Nat → Nat) {wX wM : va_W} (hR : Rel g a b wX wM) (x : Int32) : PairP l g yX8_worth cX8_worth 2 (some .int) [.ref (a 0), .int x] yX9_worth cX9_worth 2 (some .int) [.ref (b 0), .int x] wX wM (Rel g a b) := by
  refine rel_elim hR (fun gr wk br cs lk sz z ru ki ma bp bt bb hd dr co ce kgr kwk kbr kcs klk ksz kz kru kki kma kbp kbt kbb khd kdr kco kce kp nkf ts fi tb bo rn0 rc0 ra0 rft f0 tot lat se sw sd li th tw cr by_ va su mk sk wsm tk shF sb sn sv nta nop npr nac nbd nnw nsn nwn nli nal nlo nwi ntr nbg now_ nis nbo nsz nnu hx hm hPe hBk hBo hLk hRu hKp hTp hSh hCr hRf => ?_)
  subst hx
  subst hm
  rcases wI_cases x (a := 0) (b := 494) (by decide) (by decide) with h | ⟨p, rfl, -, hp⟩
  · exact pr_worth_b l g a b gr wk br cs lk sz z ru ki ma bp bt bb hd dr co ce kgr kwk kbr kcs klk ksz kz kru kki kma kbp kbt kbb khd kdr kco kce kp nkf ts fi tb bo rn0 rc0 ra0 rft f0 tot lat se sw sd li th tw cr by_ va su mk sk wsm tk shF sb sn sv nta nop npr nac nbd nnw nsn nwn nli nal nlo nwi ntr nbg now_ nis nbo nsz nnu hPe hBk hBo hLk hRu hKp hTp hSh hCr hRf x h
  exact pr_worth_o l g a b gr wk br cs lk sz z ru ki ma bp bt bb hd dr co ce kgr kwk kbr kcs klk ksz kz kru kki kma kbp kbt kbb khd kdr kco kce kp nkf ts fi tb bo rn0 rc0 ra0 rft f0 tot lat se sw sd li th tw cr by_ va su mk sk wsm tk shF sb sn sv nta nop npr nac nbd nnw nsn nwn nli nal nlo nwi ntr nbg now_ nis nbo nsz nnu hPe hBk hBo hLk hRu hKp hTp hSh hCr hRf p (by omega)

set_option maxRecDepth 100000 in
set_option maxHeartbeats 4000000 in
theorem pm_best (l : Launch) (g : XG) (a b : Nat → Nat) {wX wM : va_W} (hR : Rel g a b wX wM) (x : Int32) : PairP l g yX8_best cX8_best 3 (some .int) [.ref (a 0), .int x] yX9_best cX9_best 8 (some .int) [.ref (b 0), .int x] wX wM (Rel g a b) := by
  refine rel_elim hR (fun gr wk br cs lk sz z ru ki ma bp bt bb hd dr co ce kgr kwk kbr kcs klk ksz kz kru kki kma kbp kbt kbb khd kdr kco kce kp nkf ts fi tb bo rn0 rc0 ra0 rft f0 tot lat se sw sd li th tw cr by_ va su mk sk wsm tk shF sb sn sv nta nop npr nac nbd nnw nsn nwn nli nal nlo nwi ntr nbg now_ nis nbo nsz nnu hx hm hPe hBk hBo hLk hRu hKp hTp hSh hCr hRf => ?_)
  subst hx
  subst hm
  rcases wI_cases x (a := 0) (b := 1) (by decide) (by decide) with h | ⟨w, rfl, -, hw⟩
  · exact pr_best_b l g a b gr wk br cs lk sz z ru ki ma bp bt bb hd dr co ce kgr kwk kbr kcs klk ksz kz kru kki kma kbp kbt kbb khd kdr kco kce kp nkf ts fi tb bo rn0 rc0 ra0 rft f0 tot lat se sw sd li th tw cr by_ va su mk sk wsm tk shF sb sn sv nta nop npr nac nbd nnw nsn nwn nli nal nlo nwi ntr nbg now_ nis nbo nsz nnu hPe hBk hBo hLk hRu hKp hTp hSh hCr hRf x h
  rcases (by omega : w = 0 ∨ w = 1) with rfl | rfl
  · exact pr_best_0 l g a b gr wk br cs lk sz z ru ki ma bp bt bb hd dr co ce kgr kwk kbr kcs klk ksz kz kru kki kma kbp kbt kbb khd kdr kco kce kp nkf ts fi tb bo rn0 rc0 ra0 rft f0 tot lat se sw sd li th tw cr by_ va su mk sk wsm tk shF sb sn sv nta nop npr nac nbd nnw nsn nwn nli nal nlo nwi ntr nbg now_ nis nbo nsz nnu hPe hBk hBo hLk hRu hKp hTp hSh hCr hRf 
  · exact pr_best_1 l g a b gr wk br cs lk sz z ru ki ma bp bt bb hd dr co ce kgr kwk kbr kcs klk ksz kz kru kki kma kbp kbt kbb khd kdr kco kce kp nkf ts fi tb bo rn0 rc0 ra0 rft f0 tot lat se sw sd li th tw cr by_ va su mk sk wsm tk shF sb sn sv nta nop npr nac nbd nnw nsn nwn nli nal nlo nwi ntr nbg now_ nis nbo nsz nnu hPe hBk hBo hLk hRu hKp hTp hSh hCr hRf

set_option maxRecDepth 100000 in
set_option maxHeartbeats 4000000 in
theorem pm_line (l : Launch) (g : XG) (a b : Nat → Nat) {wX wM : va_W} (hR : Rel g a b wX wM) (x : Int32) : PairP l g yX8_line cX8_line 3 (some .int) [.ref (a 0), .int x] yX9_line cX9_line 6 (some .int) [.ref (b 0), .int x] wX wM (Rel g a b) := by
  refine rel_elim hR (fun gr wk br cs lk sz z ru ki ma bp bt bb hd dr co ce kgr kwk kbr kcs klk ksz kz kru kki kma kbp kbt kbb khd kdr kco kce kp nkf ts fi tb bo rn0 rc0 ra0 rft f0 tot lat se sw sd li th tw cr by_ va su mk sk wsm tk shF sb sn sv nta nop npr nac nbd nnw nsn nwn nli nal nlo nwi ntr nbg now_ nis nbo nsz nnu hx hm hPe hBk hBo hLk hRu hKp hTp hSh hCr hRf => ?_)
  subst hx
  subst hm
  rcases wI_cases x (a := 0) (b := 494) (by decide) (by decide) with h | ⟨p, rfl, -, hp⟩
  · exact pr_line_b l g a b gr wk br cs lk sz z ru ki ma bp bt bb hd dr co ce kgr kwk kbr kcs klk ksz kz kru kki kma kbp kbt kbb khd kdr kco kce kp nkf ts fi tb bo rn0 rc0 ra0 rft f0 tot lat se sw sd li th tw cr by_ va su mk sk wsm tk shF sb sn sv nta nop npr nac nbd nnw nsn nwn nli nal nlo nwi ntr nbg now_ nis nbo nsz nnu hPe hBk hBo hLk hRu hKp hTp hSh hCr hRf x h
  by_cases c : lg_cmp (worthL ru (totF gr ki ma bp bt br (laD wk dr) (sdF cs (txV bb sz wk (laD wk dr)))) (crF gr ki ma bp bt br (laD wk dr) (sdF cs (txV bb sz wk (laD wk dr)))) (thF (crF gr ki ma bp bt br (laD wk dr) (sdF cs (txV bb sz wk (laD wk dr))))) (twF (crF gr ki ma bp bt br (laD wk dr) (sdF cs (txV bb sz wk (laD wk dr))))) p 99999999) (nI (ru 0)).toInt64 < 0
  · exact pr_line_n l g a b gr wk br cs lk sz z ru ki ma bp bt bb hd dr co ce kgr kwk kbr kcs klk ksz kz kru kki kma kbp kbt kbb khd kdr kco kce kp nkf ts fi tb bo rn0 rc0 ra0 rft f0 tot lat se sw sd li th tw cr by_ va su mk sk wsm tk shF sb sn sv nta nop npr nac nbd nnw nsn nwn nli nal nlo nwi ntr nbg now_ nis nbo nsz nnu hPe hBk hBo hLk hRu hKp hTp hSh hCr hRf p (by omega) c
  · exact pr_line_o l g a b gr wk br cs lk sz z ru ki ma bp bt bb hd dr co ce kgr kwk kbr kcs klk ksz kz kru kki kma kbp kbt kbb khd kdr kco kce kp nkf ts fi tb bo rn0 rc0 ra0 rft f0 tot lat se sw sd li th tw cr by_ va su mk sk wsm tk shF sb sn sv nta nop npr nac nbd nnw nsn nwn nli nal nlo nwi ntr nbg now_ nis nbo nsz nnu hPe hBk hBo hLk hRu hKp hTp hSh hCr hRf p (by omega) c

set_option maxRecDepth 100000 in
set_option maxHeartbeats 4000000 in
theorem pm_house (l : Launch) (g : XG) (a b : Nat → Nat) {wX wM : va_W} (hR : Rel g a b wX wM) (x : Int32) : PairP l g yX8_house cX8_house 2 (some .long) [.ref (a 0), .int x] yX9_house cX9_house 8 (some .long) [.ref (b 0), .int x] wX wM (Rel g a b) := by
  refine rel_elim hR (fun gr wk br cs lk sz z ru ki ma bp bt bb hd dr co ce kgr kwk kbr kcs klk ksz kz kru kki kma kbp kbt kbb khd kdr kco kce kp nkf ts fi tb bo rn0 rc0 ra0 rft f0 tot lat se sw sd li th tw cr by_ va su mk sk wsm tk shF sb sn sv nta nop npr nac nbd nnw nsn nwn nli nal nlo nwi ntr nbg now_ nis nbo nsz nnu hx hm hPe hBk hBo hLk hRu hKp hTp hSh hCr hRf => ?_)
  subst hx
  subst hm
  rcases wI_cases x (a := 1) (b := 495) (by decide) (by decide) with h | ⟨n, rfl, hn1, hn2⟩
  · exact pr_house_b l g a b gr wk br cs lk sz z ru ki ma bp bt bb hd dr co ce kgr kwk kbr kcs klk ksz kz kru kki kma kbp kbt kbb khd kdr kco kce kp nkf ts fi tb bo rn0 rc0 ra0 rft f0 tot lat se sw sd li th tw cr by_ va su mk sk wsm tk shF sb sn sv nta nop npr nac nbd nnw nsn nwn nli nal nlo nwi ntr nbg now_ nis nbo nsz nnu hPe hBk hBo hLk hRu hKp hTp hSh hCr hRf x h
  · exact pr_house_o l g a b gr wk br cs lk sz z ru ki ma bp bt bb hd dr co ce kgr kwk kbr kcs klk ksz kz kru kki kma kbp kbt kbb khd kdr kco kce kp nkf ts fi tb bo rn0 rc0 ra0 rft f0 tot lat se sw sd li th tw cr by_ va su mk sk wsm tk shF sb sn sv nta nop npr nac nbd nnw nsn nwn nli nal nlo nwi ntr nbg now_ nis nbo nsz nnu hPe hBk hBo hLk hRu hKp hTp hSh hCr hRf n ⟨hn1, hn2⟩
