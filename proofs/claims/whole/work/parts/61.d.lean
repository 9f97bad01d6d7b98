set_option maxRecDepth 100000 in
set_option maxHeartbeats 4000000 in
theorem pr_weeks_m0 (l : Launch) (g : XG) (a b : Nat → Nat) (gr wk br cs lk sz : Nat) (z : Int32) (ru ki ma bp bt bb hd dr : Nat → Nat) (co ce : Nat → Int32) (kgr kwk kbr kcs klk ksz : Nat) (kz : Int32) (kru kki kma kbp kbt kbb khd kdr : Nat → Nat) (kco kce : Nat → Int32) (kp : Int32) (nkf : Nat → Int32) (ts : Nat) (fi tb bo : Nat → Nat) (rn0 rc0 ra0 : Nat) (rft : Int32) (f0 : Nat → Int32) (tot lat : Nat) (se sw : Int32) (sd li th tw cr by_ : Nat → Nat) (va su : Nat → Int64) (mk : Nat → Nat) (sk : Nat → Int32) (wsm : Nat → Int64) (tk : Nat → Nat) (shF : Nat → Option Nat) (sb sn : Nat → Nat) (sv : Nat → Nat → Int64) (nta nop npr nac : Nat) (nbd nnw nsn nwn : Int32) (nli nal nlo nwi ntr nbg now_ : Nat → Nat) (nis nbo : Nat → Int32) (nsz : Nat → Nat) (nnu : Nat → Int64) (hPe : PeI gr ki ma) (hBk : BkI wk ce dr) (hBo : BoI br bp bt hd) (hLk : LkI cs co lk sz bb) (hRu : RuI ru) (hKp : KpI kp nkf kgr kwk kbr kcs klk ksz kz kru kki kma kbp kbt kbb khd kdr kco kce) (hTp : TpI ts tb bo) (hSh : ShI a shF (updN sb 0 0) sn sv nbo nsz nnu) (hCr : CrI gr wk br cs sz ki ma bp bt bb dr tot lat se sw sd cr th tw) (hRf : RfI gr wk cs sz ki ma hd bb dr nnw nsn nwn nli nal nlo nwi nac) : PairP l g yX8_weeks cX8_weeks 5 (some .int) [.ref ((a 0)), .int 0] yX9_weeks cX9_weeks 6 (some .int) [.ref ((b 0)), .int 0] (xW g a gr wk br cs z ru ki ma bp bt co ce kgr kwk kbr kcs kz kru kki kma kbp kbt kco kce kp ts fi tb bo rn0 rc0 ra0 rft f0 tot lat se sw sd li th tw cr by_ va su mk sk wsm tk shF (updN sb 0 0) sn sv) (nW g b gr wk lk sz br z ru ki ma bb ce hd kp nkf ts fi tb nta nop npr nac nbd nnw nsn nwn nli nal nlo nwi ntr nbg now_ nis nbo nsz nnu) (Rel g a b) := by
  have hgr := hPe.1
  have hki := hPe.2.1
  have hma := hPe.2.2
  have hwk := hBk.1
  have hlat := core_lat hBk
  have hL := core_L hBk
  have hbr := hBo.1
  have hbp := hBo.2.1
  have hbt := hBo.2.2.1
  have hhd := hBo.2.2.2.2.2.2
  have hcs := hLk.1
  have hsz := hLk.2.1
  have hbb := hLk.2.2.1
  have hlk := lk_le hLk
  have hV : cs ≠ 0 → ∀ p, p < 495 → evR (nmI wk (laD wk dr) p) (cdF co 0 cs) [] = some [(txV bb sz wk (laD wk dr)) p] := fun q p _ => hLk.2.2.2.2 q wk (laD wk dr) p
  have hse := hCr.1
  have hsw := hCr.2
  have hsd := sdD_le cs bb sz wk (laD wk dr)
  have hsv : ∀ p, p < 495 → sdF cs (txV bb sz wk (laD wk dr)) p = if lk = 1 then clN (txV bb sz wk (laD wk dr) p) else 1 := fun p _ => lk_sd hLk _ _ p
  have hwo := hRf.1
  have hwc := hRf.2
  have htot := to_lt hPe hBo (laD wk dr) (sdF cs (txV bb sz wk (laD wk dr)))
  have e1 := cr_eq hBo gr ki ma (laD wk dr) (sdF cs (txV bb sz wk (laD wk dr)))
  have e2 := to_eq hBo gr ki ma (laD wk dr) (sdF cs (txV bb sz wk (laD wk dr)))
  have hts := hTp.1
  have htb := hTp.2.1
  have hbo := hTp.2.2
  have hq := hSh.2 0 (by decide)
  have hq1 := hq.1
  have hqn := hq.2.1
  have hqb := hq.2.2.1
  have hqz := hq.2.2.2.1
  have hqv := hq.2.2.2.2
  have h0 : updN sb 0 0 0 = 0 := updN_self _ _ _
  refine ⟨.int (fndI 5), 32, 34, _, _, by decide, by decide, Or.inl ⟨rfl, _, rfl⟩, Ct.sub [0, 49, 40, 41, 42] rfl rfl ?_ (ct_weeks_m l g (a 0) (a 1) (a 9) (a 17) (a 24) (a 33) (a 36) (a 39) (a 40) (a 49) ts kp fi 0 (a 41) (a 42) (sn 0) (sv 0) shF (by decide) (hSh.1.1)), Ct.sub [0, 3, 9, 10] rfl rfl ?_ (ct_nweeks_m l g (b 0) (b 1) (b 2) (b 3) (b 4) (b 5) (b 6) (b 7) (b 8) (b 9) (b 10) (b 11) (b 12) (b 13) (b 14) (b 15) (b 16) (b 17) (b 18) (b 19) ts nta nop npr nac kp nbd 0 nnw nsn nwn fi nbo nsz 0 (by decide) (by rw [hqb, if_pos h0])), ?_⟩
  · rintro v w ⟨rfl, rfl⟩; rfl
  · rintro v w ⟨rfl, rfl⟩; rfl
  · rintro v1 w1 v2 w2 ⟨wq1, ⟨rfl, rfl⟩, rfl⟩ ⟨wq2, ⟨rfl, rfl⟩, rfl⟩
    refine ⟨rfl, rfl, rel_mk g a b gr wk br cs lk sz z ru ki ma bp bt bb hd dr co ce kgr kwk kbr kcs klk ksz kz kru kki kma kbp kbt kbb khd kdr kco kce kp nkf ts (updN fi 5 (fi 5 + 1)) tb bo rn0 rc0 ra0 rft f0 tot lat se sw sd li th tw cr by_ va su mk sk wsm tk shF (updN sb 0 0) sn sv nta nop npr nac nbd nnw nsn nwn nli nal nlo nwi ntr nbg now_ nis nbo nsz nnu ?_ ?_ hPe hBk hBo hLk hRu hKp hTp hSh hCr hRf⟩
    · simp only [e1, e2, xW, nW, xSet, List.set_cons_zero, List.set_cons_succ, nI_zero, updN_self, upW_self, upW_01, upW_02, upW_03, upW_10, upW_12, upW_13, upW_20, upW_21, upW_23, upW_30, upW_31, upW_32, updN_01, updN_02, updN_03, updN_10, updN_12, updN_13, updN_20, updN_21, updN_23, updN_30, updN_31, updN_32]
    · simp only [xW, nW, xSet, List.set_cons_zero, List.set_cons_succ, nI_zero, updN_self, upW_self, upW_01, upW_02, upW_03, upW_10, upW_12, upW_13, upW_20, upW_21, upW_23, upW_30, upW_31, upW_32, updN_01, updN_02, updN_03, updN_10, updN_12, updN_13, updN_20, updN_21, updN_23, updN_30, updN_31, updN_32]

set_option maxRecDepth 100000 in
set_option maxHeartbeats 4000000 in
theorem pr_weeks_o0 (l : Launch) (g : XG) (a b : Nat → Nat) (gr wk br cs lk sz : Nat) (z : Int32) (ru ki ma bp bt bb hd dr : Nat → Nat) (co ce : Nat → Int32) (kgr kwk kbr kcs klk ksz : Nat) (kz : Int32) (kru kki kma kbp kbt kbb khd kdr : Nat → Nat) (kco kce : Nat → Int32) (kp : Int32) (nkf : Nat → Int32) (ts : Nat) (fi tb bo : Nat → Nat) (rn0 rc0 ra0 : Nat) (rft : Int32) (f0 : Nat → Int32) (tot lat : Nat) (se sw : Int32) (sd li th tw cr by_ : Nat → Nat) (va su : Nat → Int64) (mk : Nat → Nat) (sk : Nat → Int32) (wsm : Nat → Int64) (tk : Nat → Nat) (shF : Nat → Option Nat) (sb sn : Nat → Nat) (sv : Nat → Nat → Int64) (nta nop npr nac : Nat) (nbd nnw nsn nwn : Int32) (nli nal nlo nwi ntr nbg now_ : Nat → Nat) (nis nbo : Nat → Int32) (nsz : Nat → Nat) (nnu : Nat → Int64) (hPe : PeI gr ki ma) (hBk : BkI wk ce dr) (hBo : BoI br bp bt hd) (hLk : LkI cs co lk sz bb) (hRu : RuI ru) (hKp : KpI kp nkf kgr kwk kbr kcs klk ksz kz kru kki kma kbp kbt kbb khd kdr kco kce) (hTp : TpI ts tb bo) (hSh : ShI a shF sb sn sv nbo nsz nnu) (hCr : CrI gr wk br cs sz ki ma bp bt bb dr tot lat se sw sd cr th tw) (hRf : RfI gr wk cs sz ki ma hd bb dr nnw nsn nwn nli nal nlo nwi nac) (h8 : sb 0 = 8 ∨ sb 0 = 16 ∨ sb 0 = 64) : PairP l g yX8_weeks cX8_weeks 5 (some .int) [.ref ((a 0)), .int 0] yX9_weeks cX9_weeks 6 (some .int) [.ref ((b 0)), .int 0] (xW g a gr wk br cs z ru ki ma bp bt co ce kgr kwk kbr kcs kz kru kki kma kbp kbt kco kce kp ts fi tb bo rn0 rc0 ra0 rft f0 tot lat se sw sd li th tw cr by_ va su mk sk wsm tk shF sb sn sv) (nW g b gr wk lk sz br z ru ki ma bb ce hd kp nkf ts fi tb nta nop npr nac nbd nnw nsn nwn nli nal nlo nwi ntr nbg now_ nis nbo nsz nnu) (Rel g a b) := by
  have hgr := hPe.1
  have hki := hPe.2.1
  have hma := hPe.2.2
  have hwk := hBk.1
  have hlat := core_lat hBk
  have hL := core_L hBk
  have hbr := hBo.1
  have hbp := hBo.2.1
  have hbt := hBo.2.2.1
  have hhd := hBo.2.2.2.2.2.2
  have hcs := hLk.1
  have hsz := hLk.2.1
  have hbb := hLk.2.2.1
  have hlk := lk_le hLk
  have hV : cs ≠ 0 → ∀ p, p < 495 → evR (nmI wk (laD wk dr) p) (cdF co 0 cs) [] = some [(txV bb sz wk (laD wk dr)) p] := fun q p _ => hLk.2.2.2.2 q wk (laD wk dr) p
  have hse := hCr.1
  have hsw := hCr.2
  have hsd := sdD_le cs bb sz wk (laD wk dr)
  have hsv : ∀ p, p < 495 → sdF cs (txV bb sz wk (laD wk dr)) p = if lk = 1 then clN (txV bb sz wk (laD wk dr) p) else 1 := fun p _ => lk_sd hLk _ _ p
  have hwo := hRf.1
  have hwc := hRf.2
  have htot := to_lt hPe hBo (laD wk dr) (sdF cs (txV bb sz wk (laD wk dr)))
  have e1 := cr_eq hBo gr ki ma (laD wk dr) (sdF cs (txV bb sz wk (laD wk dr)))
  have e2 := to_eq hBo gr ki ma (laD wk dr) (sdF cs (txV bb sz wk (laD wk dr)))
  have hts := hTp.1
  have htb := hTp.2.1
  have hbo := hTp.2.2
  have hq := hSh.2 0 (by decide)
  have hq1 := hq.1
  have hqn := hq.2.1
  have hqb := hq.2.2.1
  have hqz := hq.2.2.2.1
  have hqv := hq.2.2.2.2
  refine ⟨.int (nI (wsI (fun w L => crF gr ki ma bp bt br L (sdF cs (txV bb sz w L))) (sv 0) (wk, ru, ce) (sn 0)).1 - nI wk), 32, 34, _, _, by decide, by decide, Or.inl ⟨rfl, _, rfl⟩, Ct.sub [0, 24, 25, 26, 29, 17, 18, 19, 31, 32, 1, 2, 3, 4, 5, 6, 8, 7, 30, 40, 41, 42] rfl rfl ?_ (ct_weeks_o l g (a 0) (a 9) (a 33) (a 36) (a 39) (a 40) (a 49) ts kp (a 24) (a 1) (a 17) (a 31) (a 20) (a 25) (a 26) (a 27) (a 28) (a 29) (a 30) tot lat se sw (a 18) (a 19) (a 32) (a 2) (a 3) (a 4) (a 5) (a 6) (a 7) (a 8) gr br cs wk z sd li cr ki ma bp bt co ce sk (txV bb sz) (laD wk dr) ru by_ (a 41) (a 42) (sb 0) (sn 0) (sv 0) shF 0 (hgr) (hbr) (hcs) (hwk) (hki) (hma) (hbp) (hlat) (hL) (fun q w L p _ => hLk.2.2.2.2 q w L p) (hse) (by decide) (hSh.1.1) (h8) (hqn)), Ct.sub [0, 1, 8, 7, 4, 6, 12, 13, 14, 5, 9, 10, 11] rfl rfl ?_ (ct_nweeks_o l g (b 0) (b 1) (b 2) (b 3) (b 4) (b 5) (b 6) (b 7) (b 8) (b 9) (b 10) (b 11) (b 12) (b 13) (b 14) (b 15) (b 16) (b 17) (b 18) (b 19) ts nta nop npr nac kp nbd nnw nsn nwn gr wk lk sz br z ru ki ma bb hd ce tb nli nal nlo (fun w L => sdF cs (txV bb sz w L)) (laD wk dr) nbo nsz nnu 0 (sb 0) (hgr) (hki) (hma) (hwk) (hlat) (hL) (hsz) (hbb) (hlk) (fun w L p => sdD_le cs bb sz w L p) (fun w L p _ => lk_sd hLk w L p) (hwo) (fun w L _ => to_lt hPe hBo L _) (by decide) (⟨by rw [hqb, if_neg (by omega)], by omega⟩) (by omega)), ?_⟩
  · rintro v w ⟨zwk_x, zru_x, zce_x, zto_x, zla_x, zse_x, zsw_x, zsd_x, zli_x, zcr_x, zsk_x, zby_x, zL_x, rfl, rfl, P0x, P1x, P2x, P3x, P4x⟩; rfl
  · rintro v w ⟨zwk_n, zru_n, zce_n, zat_n, zop_n, zbd_n, zpr_n, znw_n, zsn_n, zwn_n, zac_n, zli_n, zal_n, zlo_n, zL_n, rfl, rfl, P0n, P1n, P2n, P3n, P4n, P5n⟩; rfl
  · rintro v1 w1 v2 w2 ⟨wq1, ⟨zwk_x, zru_x, zce_x, zto_x, zla_x, zse_x, zsw_x, zsd_x, zli_x, zcr_x, zsk_x, zby_x, zL_x, rfl, rfl, P0x, P1x, P2x, P3x, P4x⟩, hw1⟩ ⟨wq2, ⟨zwk_n, zru_n, zce_n, zat_n, zop_n, zbd_n, zpr_n, znw_n, zsn_n, zwn_n, zac_n, zli_n, zal_n, zlo_n, zL_n, rfl, rfl, P0n, P1n, P2n, P3n, P4n, P5n⟩, hw2⟩
    rw [hw1, hw2]
    have hCE : (fun w L => crF gr ki ma bp bt br L (sdF cs (txV bb sz w L))) = (fun w L => crH gr ki ma hd L (sdF cs (txV bb sz w L))) := by
      funext w L; exact cr_eq hBo gr ki ma L _
    have P0n : wsI (fun w L => crH gr ki ma hd L (sdF cs (txV bb sz w L))) (fun j => nnu (40 * 0 + j)) (wk, ru, ce) (nsz 0) = (zwk_n, zru_n, zce_n) := P0n
    have P0x : wsI (fun w L => crF gr ki ma bp bt br L (sdF cs (txV bb sz w L))) (sv 0) (wk, ru, ce) (sn 0) = (zwk_x, zru_x, zce_x) := P0x
    have hWN : (zwk_x, zru_x, zce_x) = ((zwk_n, zru_n, zce_n) : WS) := by
      rw [← P0n, ← P0x, hCE, hqz]
      exact (wsI_cong (fun j hj => hqv j (by omega))).symm
    obtain ⟨dr2, d1, d2, d3, d4⟩ := bk_wsI (X := (wk, ru, ce)) (fun w L => crF gr ki ma bp bt br L (sdF cs (txV bb sz w L))) (sv 0) hBk hRu (sn 0)
    rw [P0x] at d1 d2 d3 d4
    have d1 : BkI zwk_x zce_x dr2 := d1
    have d2 : RuI zru_x := d2
    have d3 : wk ≤ zwk_x := d3
    have d4 : zwk_x = wk → dr2 = dr := d4
    rw [P0x]
    simp only [Prod.mk.injEq] at hWN
    obtain ⟨rfl, rfl, rfl⟩ := hWN
    refine ⟨rfl, ?_, rel_mk g a b gr zwk_x br cs lk sz z zru_x ki ma bp bt bb hd dr2 co zce_x kgr kwk kbr kcs klk ksz kz kru kki kma kbp kbt kbb khd kdr kco kce kp nkf ts fi tb bo rn0 rc0 ra0 rft f0 zto_x zla_x zse_x zsw_x zsd_x zli_x th tw zcr_x zby_x va su mk zsk_x wsm tk shF sb sn sv zat_n zop_n zpr_n zac_n zbd_n znw_n zsn_n zwn_n zli_n zal_n zlo_n nwi ntr nbg now_ nis nbo nsz nnu ?_ ?_ hPe d1 hBo hLk d2 hKp hTp hSh ?_ ?_⟩
    · rw [nI_isub _ _ d3]
    · simp only [xW, nW, xSet, List.set_cons_zero, List.set_cons_succ]
    · simp only [xW, nW, xSet, List.set_cons_zero, List.set_cons_succ]
    · rcases P4x with ⟨c1, c2, c3, c4, c5, c6, c7, c8, c9, c10⟩ | ⟨c1, c2⟩
      · have e := d4 c1
        subst e; subst c1; subst c4; subst c5; subst c6; subst c7; subst c8; subst c9
        exact hCr
      · subst c1; subst c2
        exact ⟨Or.inl rfl, Or.inl rfl⟩
    · rcases P5n with ⟨c1, c2, c3, c4, c5, c6, c7, c8, c9, c10, c11⟩ | ⟨c1, c2⟩
      · have e := d4 c1
        subst e; subst c1; subst c4; subst c5; subst c6; subst c7; subst c8; subst c9; subst c10
        exact hRf
      · subst c1; subst c2
        exact ⟨Or.inl ⟨rfl, Or.inl rfl⟩, Or.inl (wnI_1 _)⟩

set_option maxRecDepth 100000 in
set_option maxHeartbeats 4000000 in
theorem pr_weeks_m1 (l : Launch) (g : XG) (a b : Nat → Nat) (gr wk br cs lk sz : Nat) (z : Int32) (ru ki ma bp bt bb hd dr : Nat → Nat) (co ce : Nat → Int32) (kgr kwk kbr kcs klk ksz : Nat) (kz : Int32) (kru kki kma kbp kbt kbb khd kdr : Nat → Nat) (kco kce : Nat → Int32) (kp : Int32) (nkf : Nat → Int32) (ts : Nat) (fi tb bo : Nat → Nat) (rn0 rc0 ra0 : Nat) (rft : Int32) (f0 : Nat → Int32) (tot lat : Nat) (se sw : Int32) (sd li th tw cr by_ : Nat → Nat) (va su : Nat → Int64) (mk : Nat → Nat) (sk : Nat → Int32) (wsm : Nat → Int64) (tk : Nat → Nat) (shF : Nat → Option Nat) (sb sn : Nat → Nat) (sv : Nat → Nat → Int64) (nta nop npr nac : Nat) (nbd nnw nsn nwn : Int32) (nli nal nlo nwi ntr nbg now_ : Nat → Nat) (nis nbo : Nat → Int32) (nsz : Nat → Nat) (nnu : Nat → Int64) (hPe : PeI gr ki ma) (hBk : BkI wk ce dr) (hBo : BoI br bp bt hd) (hLk : LkI cs co lk sz bb) (hRu : RuI ru) (hKp : KpI kp nkf kgr kwk kbr kcs klk ksz kz kru kki kma kbp kbt kbb khd kdr kco kce) (hTp : TpI ts tb bo) (hSh : ShI a shF (updN sb 1 0) sn sv nbo nsz nnu) (hCr : CrI gr wk br cs sz ki ma bp bt bb dr tot lat se sw sd cr th tw) (hRf : RfI gr wk cs sz ki ma hd bb dr nnw nsn nwn nli nal nlo nwi nac) : PairP l g yX8_weeks cX8_weeks 5 (some .int) [.ref ((a 0)), .int 1] yX9_weeks cX9_weeks 6 (some .int) [.ref ((b 0)), .int 1] (xW g a gr wk br cs z ru ki ma bp bt co ce kgr kwk kbr kcs kz kru kki kma kbp kbt kco kce kp ts fi tb bo rn0 rc0 ra0 rft f0 tot lat se sw sd li th tw cr by_ va su mk sk wsm tk shF (updN sb 1 0) sn sv) (nW g b gr wk lk sz br z ru ki ma bb ce hd kp nkf ts fi tb nta nop npr nac nbd nnw nsn nwn nli nal nlo nwi ntr nbg now_ nis nbo nsz nnu) (Rel g a b) := by
  have hgr := hPe.1
  have hki := hPe.2.1
  have hma := hPe.2.2
  have hwk := hBk.1
  have hlat := core_lat hBk
  have hL := core_L hBk
  have hbr := hBo.1
  have hbp := hBo.2.1
  have hbt := hBo.2.2.1
  have hhd := hBo.2.2.2.2.2.2
  have hcs := hLk.1
  have hsz := hLk.2.1
  have hbb := hLk.2.2.1
  have hlk := lk_le hLk
  have hV : cs ≠ 0 → ∀ p, p < 495 → evR (nmI wk (laD wk dr) p) (cdF co 0 cs) [] = some [(txV bb sz wk (laD wk dr)) p] := fun q p _ => hLk.2.2.2.2 q wk (laD wk dr) p
  have hse := hCr.1
  have hsw := hCr.2
  have hsd := sdD_le cs bb sz wk (laD wk dr)
  have hsv : ∀ p, p < 495 → sdF cs (txV bb sz wk (laD wk dr)) p = if lk = 1 then clN (txV bb sz wk (laD wk dr) p) else 1 := fun p _ => lk_sd hLk _ _ p
  have hwo := hRf.1
  have hwc := hRf.2
  have htot := to_lt hPe hBo (laD wk dr) (sdF cs (txV bb sz wk (laD wk dr)))
  have e1 := cr_eq hBo gr ki ma (laD wk dr) (sdF cs (txV bb sz wk (laD wk dr)))
  have e2 := to_eq hBo gr ki ma (laD wk dr) (sdF cs (txV bb sz wk (laD wk dr)))
  have hts := hTp.1
  have htb := hTp.2.1
  have hbo := hTp.2.2
  have hq := hSh.2 1 (by decide)
  have hq1 := hq.1
  have hqn := hq.2.1
  have hqb := hq.2.2.1
  have hqz := hq.2.2.2.1
  have hqv := hq.2.2.2.2
  have h0 : updN sb 1 0 1 = 0 := updN_self _ _ _
  refine ⟨.int (fndI 5), 32, 34, _, _, by decide, by decide, Or.inl ⟨rfl, _, rfl⟩, Ct.sub [0, 49, 40, 43, 44] rfl rfl ?_ (ct_weeks_m l g (a 0) (a 1) (a 9) (a 17) (a 24) (a 33) (a 36) (a 39) (a 40) (a 49) ts kp fi 1 (a 43) (a 44) (sn 1) (sv 1) shF (by decide) (hSh.1.2.1)), Ct.sub [0, 3, 9, 10] rfl rfl ?_ (ct_nweeks_m l g (b 0) (b 1) (b 2) (b 3) (b 4) (b 5) (b 6) (b 7) (b 8) (b 9) (b 10) (b 11) (b 12) (b 13) (b 14) (b 15) (b 16) (b 17) (b 18) (b 19) ts nta nop npr nac kp nbd 0 nnw nsn nwn fi nbo nsz 1 (by decide) (by rw [hqb, if_pos h0])), ?_⟩
  · rintro v w ⟨rfl, rfl⟩; rfl
  · rintro v w ⟨rfl, rfl⟩; rfl
  · rintro v1 w1 v2 w2 ⟨wq1, ⟨rfl, rfl⟩, rfl⟩ ⟨wq2, ⟨rfl, rfl⟩, rfl⟩
    refine ⟨rfl, rfl, rel_mk g a b gr wk br cs lk sz z ru ki ma bp bt bb hd dr co ce kgr kwk kbr kcs klk ksz kz kru kki kma kbp kbt kbb khd kdr kco kce kp nkf ts (updN fi 5 (fi 5 + 1)) tb bo rn0 rc0 ra0 rft f0 tot lat se sw sd li th tw cr by_ va su mk sk wsm tk shF (updN sb 1 0) sn sv nta nop npr nac nbd nnw nsn nwn nli nal nlo nwi ntr nbg now_ nis nbo nsz nnu ?_ ?_ hPe hBk hBo hLk hRu hKp hTp hSh hCr hRf⟩
    · simp only [e1, e2, xW, nW, xSet, List.set_cons_zero, List.set_cons_succ, nI_zero, updN_self, upW_self, upW_01, upW_02, upW_03, upW_10, upW_12, upW_13, upW_20, upW_21, upW_23, upW_30, upW_31, upW_32, updN_01, updN_02, updN_03, updN_10, updN_12, updN_13, updN_20, updN_21, updN_23, updN_30, updN_31, updN_32]
    · simp only [xW, nW, xSet, List.set_cons_zero, List.set_cons_succ, nI_zero, updN_self, upW_self, upW_01, upW_02, upW_03, upW_10, upW_12, upW_13, upW_20, upW_21, upW_23, upW_30, upW_31, upW_32, updN_01, updN_02, updN_03, updN_10, updN_12, updN_13, updN_20, updN_21, updN_23, updN_30, updN_31, updN_32]

set_option maxRecDepth 100000 in
set_option maxHeartbeats 4000000 in
theorem pr_weeks_o1 (l : Launch) (g : XG) (a b : Nat → Nat) (gr wk br cs lk sz : Nat) (z : Int32) (ru ki ma bp bt bb hd dr : Nat → Nat) (co ce : Nat → Int32) (kgr kwk kbr kcs klk ksz : Nat) (kz : Int32) (kru kki kma kbp kbt kbb khd kdr : Nat → Nat) (kco kce : Nat → Int32) (kp : Int32) (nkf : Nat → Int32) (ts : Nat) (fi tb bo : Nat → Nat) (rn0 rc0 ra0 : Nat) (rft : Int32) (f0 : Nat → Int32) (tot lat : Nat) (se sw : Int32) (sd li th tw cr by_ : Nat → Nat) (va su : Nat → Int64) (mk : Nat → Nat) (sk : Nat → Int32) (wsm : Nat → Int64) (tk : Nat → Nat) (shF : Nat → Option Nat) (sb sn : Nat → Nat) (sv : Nat → Nat → Int64) (nta nop npr nac : Nat) (nbd nnw nsn nwn : Int32) (nli nal nlo nwi ntr nbg now_ : Nat → Nat) (nis nbo : Nat → Int32) (nsz : Nat → Nat) (nnu : Nat → Int64) (hPe : PeI gr ki ma) (hBk : BkI wk ce dr) (hBo : BoI br bp bt hd) (hLk : LkI cs co lk sz bb) (hRu : RuI ru) (hKp : KpI kp nkf kgr kwk kbr kcs klk ksz kz kru kki kma kbp kbt kbb khd kdr kco kce) (hTp : TpI ts tb bo) (hSh : ShI a shF sb sn sv nbo nsz nnu) (hCr : CrI gr wk br cs sz ki ma bp bt bb dr tot lat se sw sd cr th tw) (hRf : RfI gr wk cs sz ki ma hd bb dr nnw nsn nwn nli nal nlo nwi nac) (h8 : sb 1 = 8 ∨ sb 1 = 16 ∨ sb 1 = 64) : PairP l g yX8_weeks cX8_weeks 5 (some .int) [.ref ((a 0)), .int 1] yX9_weeks cX9_weeks 6 (some .int) [.ref ((b 0)), .int 1] (xW g a gr wk br cs z ru ki ma bp bt co ce kgr kwk kbr kcs kz kru kki kma kbp kbt kco kce kp ts fi tb bo rn0 rc0 ra0 rft f0 tot lat se sw sd li th tw cr by_ va su mk sk wsm tk shF sb sn sv) (nW g b gr wk lk sz br z ru ki ma bb ce hd kp nkf ts fi tb nta nop npr nac nbd nnw nsn nwn nli nal nlo nwi ntr nbg now_ nis nbo nsz nnu) (Rel g a b) := by
  have hgr := hPe.1
  have hki := hPe.2.1
  have hma := hPe.2.2
  have hwk := hBk.1
  have hlat := core_lat hBk
  have hL := core_L hBk
  have hbr := hBo.1
  have hbp := hBo.2.1
  have hbt := hBo.2.2.1
  have hhd := hBo.2.2.2.2.2.2
  have hcs := hLk.1
  have hsz := hLk.2.1
  have hbb := hLk.2.2.1
  have hlk := lk_le hLk
  have hV : cs ≠ 0 → ∀ p, p < 495 → evR (nmI wk (laD wk dr) p) (cdF co 0 cs) [] = some [(txV bb sz wk (laD wk dr)) p] := fun q p _ => hLk.2.2.2.2 q wk (laD wk dr) p
  have hse := hCr.1
  have hsw := hCr.2
  have hsd := sdD_le cs bb sz wk (laD wk dr)
  have hsv : ∀ p, p < 495 → sdF cs (txV bb sz wk (laD wk dr)) p = if lk = 1 then clN (txV bb sz wk (laD wk dr) p) else 1 := fun p _ => lk_sd hLk _ _ p
  have hwo := hRf.1
  have hwc := hRf.2
  have htot := to_lt hPe hBo (laD wk dr) (sdF cs (txV bb sz wk (laD wk dr)))
  have e1 := cr_eq hBo gr ki ma (laD wk dr) (sdF cs (txV bb sz wk (laD wk dr)))
  have e2 := to_eq hBo gr ki ma (laD wk dr) (sdF cs (txV bb sz wk (laD wk dr)))
  have hts := hTp.1
  have htb := hTp.2.1
  have hbo := hTp.2.2
  have hq := hSh.2 1 (by decide)
  have hq1 := hq.1
  have hqn := hq.2.1
  have hqb := hq.2.2.1
  have hqz := hq.2.2.2.1
  have hqv := hq.2.2.2.2
  refine ⟨.int (nI (wsI (fun w L => crF gr ki ma bp bt br L (sdF cs (txV bb sz w L))) (sv 1) (wk, ru, ce) (sn 1)).1 - nI wk), 32, 34, _, _, by decide, by decide, Or.inl ⟨rfl, _, rfl⟩, Ct.sub [0, 24, 25, 26, 29, 17, 18, 19, 31, 32, 1, 2, 3, 4, 5, 6, 8, 7, 30, 40, 43, 44] rfl rfl ?_ (ct_weeks_o l g (a 0) (a 9) (a 33) (a 36) (a 39) (a 40) (a 49) ts kp (a 24) (a 1) (a 17) (a 31) (a 20) (a 25) (a 26) (a 27) (a 28) (a 29) (a 30) tot lat se sw (a 18) (a 19) (a 32) (a 2) (a 3) (a 4) (a 5) (a 6) (a 7) (a 8) gr br cs wk z sd li cr ki ma bp bt co ce sk (txV bb sz) (laD wk dr) ru by_ (a 43) (a 44) (sb 1) (sn 1) (sv 1) shF 1 (hgr) (hbr) (hcs) (hwk) (hki) (hma) (hbp) (hlat) (hL) (fun q w L p _ => hLk.2.2.2.2 q w L p) (hse) (by decide) (hSh.1.2.1) (h8) (hqn)), Ct.sub [0, 1, 8, 7, 4, 6, 12, 13, 14, 5, 9, 10, 11] rfl rfl ?_ (ct_nweeks_o l g (b 0) (b 1) (b 2) (b 3) (b 4) (b 5) (b 6) (b 7) (b 8) (b 9) (b 10) (b 11) (b 12) (b 13) (b 14) (b 15) (b 16) (b 17) (b 18) (b 19) ts nta nop npr nac kp nbd nnw nsn nwn gr wk lk sz br z ru ki ma bb hd ce tb nli nal nlo (fun w L => sdF cs (txV bb sz w L)) (laD wk dr) nbo nsz nnu 1 (sb 1) (hgr) (hki) (hma) (hwk) (hlat) (hL) (hsz) (hbb) (hlk) (fun w L p => sdD_le cs bb sz w L p) (fun w L p _ => lk_sd hLk w L p) (hwo) (fun w L _ => to_lt hPe hBo L _) (by decide) (⟨by rw [hqb, if_neg (by omega)], by omega⟩) (by omega)), ?_⟩
  · rintro v w ⟨zwk_x, zru_x, zce_x, zto_x, zla_x, zse_x, zsw_x, zsd_x, zli_x, zcr_x, zsk_x, zby_x, zL_x, rfl, rfl, P0x, P1x, P2x, P3x, P4x⟩; rfl
  · rintro v w ⟨zwk_n, zru_n, zce_n, zat_n, zop_n, zbd_n, zpr_n, znw_n, zsn_n, zwn_n, zac_n, zli_n, zal_n, zlo_n, zL_n, rfl, rfl, P0n, P1n, P2n, P3n, P4n, P5n⟩; rfl
  · rintro v1 w1 v2 w2 ⟨wq1, ⟨zwk_x, zru_x, zce_x, zto_x, zla_x, zse_x, zsw_x, zsd_x, zli_x, zcr_x, zsk_x, zby_x, zL_x, rfl, rfl, P0x, P1x, P2x, P3x, P4x⟩, hw1⟩ ⟨wq2, ⟨zwk_n, zru_n, zce_n, zat_n, zop_n, zbd_n, zpr_n, znw_n, zsn_n, zwn_n, zac_n, zli_n, zal_n, zlo_n, zL_n, rfl, rfl, P0n, P1n, P2n, P3n, P4n, P5n⟩, hw2⟩
    rw [hw1, hw2]
    have hCE : (fun w L => crF gr ki ma bp bt br L (sdF cs (txV bb sz w L))) = (fun w L => crH gr ki ma hd L (sdF cs (txV bb sz w L))) := by
      funext w L; exact cr_eq hBo gr ki ma L _
    have P0n : wsI (fun w L => crH gr ki ma hd L (sdF cs (txV bb sz w L))) (fun j => nnu (40 * 1 + j)) (wk, ru, ce) (nsz 1) = (zwk_n, zru_n, zce_n) := P0n
    have P0x : wsI (fun w L => crF gr ki ma bp bt br L (sdF cs (txV bb sz w L))) (sv 1) (wk, ru, ce) (sn 1) = (zwk_x, zru_x, zce_x) := P0x
    have hWN : (zwk_x, zru_x, zce_x) = ((zwk_n, zru_n, zce_n) : WS) := by
      rw [← P0n, ← P0x, hCE, hqz]
      exact (wsI_cong (fun j hj => hqv j (by omega))).symm
    obtain ⟨dr2, d1, d2, d3, d4⟩ := bk_wsI (X := (wk, ru, ce)) (fun w L => crF gr ki ma bp bt br L (sdF cs (txV bb sz w L))) (sv 1) hBk hRu (sn 1)
    rw [P0x] at d1 d2 d3 d4
    have d1 : BkI zwk_x zce_x dr2 := d1
    have d2 : RuI zru_x := d2
    have d3 : wk ≤ zwk_x := d3
    have d4 : zwk_x = wk → dr2 = dr := d4
    rw [P0x]
    simp only [Prod.mk.injEq] at hWN
    obtain ⟨rfl, rfl, rfl⟩ := hWN
    refine ⟨rfl, ?_, rel_mk g a b gr zwk_x br cs lk sz z zru_x ki ma bp bt bb hd dr2 co zce_x kgr kwk kbr kcs klk ksz kz kru kki kma kbp kbt kbb khd kdr kco kce kp nkf ts fi tb bo rn0 rc0 ra0 rft f0 zto_x zla_x zse_x zsw_x zsd_x zli_x th tw zcr_x zby_x va su mk zsk_x wsm tk shF sb sn sv zat_n zop_n zpr_n zac_n zbd_n znw_n zsn_n zwn_n zli_n zal_n zlo_n nwi ntr nbg now_ nis nbo nsz nnu ?_ ?_ hPe d1 hBo hLk d2 hKp hTp hSh ?_ ?_⟩
    · rw [nI_isub _ _ d3]
    · simp only [xW, nW, xSet, List.set_cons_zero, List.set_cons_succ]
    · simp only [xW, nW, xSet, List.set_cons_zero, List.set_cons_succ]
    · rcases P4x with ⟨c1, c2, c3, c4, c5, c6, c7, c8, c9, c10⟩ | ⟨c1, c2⟩
      · have e := d4 c1
        subst e; subst c1; subst c4; subst c5; subst c6; subst c7; subst c8; subst c9
        exact hCr
      · subst c1; subst c2
        exact ⟨Or.inl rfl, Or.inl rfl⟩
    · rcases P5n with ⟨c1, c2, c3, c4, c5, c6, c7, c8, c9, c10, c11⟩ | ⟨c1, c2⟩
      · have e := d4 c1
        subst e; subst c1; subst c4; subst c5; subst c6; subst c7; subst c8; subst c9; subst c10
        exact hRf
      · subst c1; subst c2
        exact ⟨Or.inl ⟨rfl, Or.inl rfl⟩, Or.inl (wnI_1 _)⟩

set_option maxRecDepth 100000 in
set_option maxHeartbeats 4000000 in
theorem pr_weeks_m2 (l : Launch) (g : XG) (a b : Nat → Nat) (gr wk br cs lk sz : Nat) (z : Int32) (ru ki ma bp bt bb hd dr : Nat → Nat) (co ce : Nat → Int32) (kgr kwk kbr kcs klk ksz : Nat) (kz : Int32) (kru kki kma kbp kbt kbb khd kdr : Nat → Nat) (kco kce : Nat → Int32) (kp : Int32) (nkf : Nat → Int32) (ts : Nat) (fi tb bo : Nat → Nat) (rn0 rc0 ra0 : Nat) (rft : Int32) (f0 : Nat → Int32) (tot lat : Nat) (se sw : Int32) (sd li th tw cr by_ : Nat → Nat) (va su : Nat → Int64) (mk : Nat → Nat) (sk : Nat → Int32) (wsm : Nat → Int64) (tk : Nat → Nat) (shF : Nat → Option Nat) (sb sn : Nat → Nat) (sv : Nat → Nat → Int64) (nta nop npr nac : Nat) (nbd nnw nsn nwn : Int32) (nli nal nlo nwi ntr nbg now_ : Nat → Nat) (nis nbo : Nat → Int32) (nsz : Nat → Nat) (nnu : Nat → Int64) (hPe : PeI gr ki ma) (hBk : BkI wk ce dr) (hBo : BoI br bp bt hd) (hLk : LkI cs co lk sz bb) (hRu : RuI ru) (hKp : KpI kp nkf kgr kwk kbr kcs klk ksz kz kru kki kma kbp kbt kbb khd kdr kco kce) (hTp : TpI ts tb bo) (hSh : ShI a shF (updN sb 2 0) sn sv nbo nsz nnu) (hCr : CrI gr wk br cs sz ki ma bp bt bb dr tot lat se sw sd cr th tw) (hRf : RfI gr wk cs sz ki ma hd bb dr nnw nsn nwn nli nal nlo nwi nac) : PairP l g yX8_weeks cX8_weeks 5 (some .int) [.ref ((a 0)), .int 2] yX9_weeks cX9_weeks 6 (some .int) [.ref ((b 0)), .int 2] (xW g a gr wk br cs z ru ki ma bp bt co ce kgr kwk kbr kcs kz kru kki kma kbp kbt kco kce kp ts fi tb bo rn0 rc0 ra0 rft f0 tot lat se sw sd li th tw cr by_ va su mk sk wsm tk shF (updN sb 2 0) sn sv) (nW g b gr wk lk sz br z ru ki ma bb ce hd kp nkf ts fi tb nta nop npr nac nbd nnw nsn nwn nli nal nlo nwi ntr nbg now_ nis nbo nsz nnu) (Rel g a b) := by
  have hgr := hPe.1
  have hki := hPe.2.1
  have hma := hPe.2.2
  have hwk := hBk.1
  have hlat := core_lat hBk
  have hL := core_L hBk
  have hbr := hBo.1
  have hbp := hBo.2.1
  have hbt := hBo.2.2.1
  have hhd := hBo.2.2.2.2.2.2
  have hcs := hLk.1
  have hsz := hLk.2.1
  have hbb := hLk.2.2.1
  have hlk := lk_le hLk
  have hV : cs ≠ 0 → ∀ p, p < 495 → evR (nmI wk (laD wk dr) p) (cdF co 0 cs) [] = some [(txV bb sz wk (laD wk dr)) p] := fun q p _ => hLk.2.2.2.2 q wk (laD wk dr) p
  have hse := hCr.1
  have hsw := hCr.2
  have hsd := sdD_le cs bb sz wk (laD wk dr)
  have hsv : ∀ p, p < 495 → sdF cs (txV bb sz wk (laD wk dr)) p = if lk = 1 then clN (txV bb sz wk (laD wk dr) p) else 1 := fun p _ => lk_sd hLk _ _ p
  have hwo := hRf.1
  have hwc := hRf.2
  have htot := to_lt hPe hBo (laD wk dr) (sdF cs (txV bb sz wk (laD wk dr)))
  have e1 := cr_eq hBo gr ki ma (laD wk dr) (sdF cs (txV bb sz wk (laD wk dr)))
  have e2 := to_eq hBo gr ki ma (laD wk dr) (sdF cs (txV bb sz wk (laD wk dr)))
  have hts := hTp.1
  have htb := hTp.2.1
  have hbo := hTp.2.2
  have hq := hSh.2 2 (by decide)
  have hq1 := hq.1
  have hqn := hq.2.1
  have hqb := hq.2.2.1
  have hqz := hq.2.2.2.1
  have hqv := hq.2.2.2.2
  have h0 : updN sb 2 0 2 = 0 := updN_self _ _ _
  refine ⟨.int (fndI 5), 32, 34, _, _, by decide, by decide, Or.inl ⟨rfl, _, rfl⟩, Ct.sub [0, 49, 40, 45, 46] rfl rfl ?_ (ct_weeks_m l g (a 0) (a 1) (a 9) (a 17) (a 24) (a 33) (a 36) (a 39) (a 40) (a 49) ts kp fi 2 (a 45) (a 46) (sn 2) (sv 2) shF (by decide) (hSh.1.2.2.1)), Ct.sub [0, 3, 9, 10] rfl rfl ?_ (ct_nweeks_m l g (b 0) (b 1) (b 2) (b 3) (b 4) (b 5) (b 6) (b 7) (b 8) (b 9) (b 10) (b 11) (b 12) (b 13) (b 14) (b 15) (b 16) (b 17) (b 18) (b 19) ts nta nop npr nac kp nbd 0 nnw nsn nwn fi nbo nsz 2 (by decide) (by rw [hqb, if_pos h0])), ?_⟩
  · rintro v w ⟨rfl, rfl⟩; rfl
  · rintro v w ⟨rfl, rfl⟩; rfl
  · rintro v1 w1 v2 w2 ⟨wq1, ⟨rfl, rfl⟩, rfl⟩ ⟨wq2, ⟨rfl, rfl⟩, rfl⟩
    refine ⟨rfl, rfl, rel_mk g a b gr wk br cs lk sz z ru ki ma bp bt bb hd dr co ce kgr kwk kbr kcs klk ksz kz kru kki kma kbp kbt kbb khd kdr kco kce kp nkf ts (updN fi 5 (fi 5 + 1)) tb bo rn0 rc0 ra0 rft f0 tot lat se sw sd li th tw cr by_ va su mk sk wsm tk shF (updN sb 2 0) sn sv nta nop npr nac nbd nnw nsn nwn nli nal nlo nwi ntr nbg now_ nis nbo nsz nnu ?_ ?_ hPe hBk hBo hLk hRu hKp hTp hSh hCr hRf⟩
    · simp only [e1, e2, xW, nW, xSet, List.set_cons_zero, List.set_cons_succ, nI_zero, updN_self, upW_self, upW_01, upW_02, upW_03, upW_10, upW_12, upW_13, upW_20, upW_21, upW_23, upW_30, upW_31, upW_32, updN_01, updN_02, updN_03, updN_10, updN_12, updN_13, updN_20, updN_21, updN_23, updN_30, updN_31, updN_32]
    · simp only [xW, nW, xSet, List.set_cons_zero, List.set_cons_succ, nI_zero, updN_self, upW_self, upW_01, upW_02, upW_03, upW_10, upW_12, upW_13, upW_20, upW_21, upW_23, upW_30, upW_31, upW_32, updN_01, updN_02, updN_03, updN_10, updN_12, updN_13, updN_20, updN_21, updN_23, updN_30, updN_31, updN_32]

set_option maxRecDepth 100000 in
set_option maxHeartbeats 4000000 in
theorem pr_weeks_o2 (l : Launch) (g : XG) (a b : Nat → Nat) (gr wk br cs lk sz : Nat) (z : Int32) (ru ki ma bp bt bb hd dr : Nat → Nat) (co ce : Nat → Int32) (kgr kwk kbr kcs klk ksz : Nat) (kz : Int32) (kru kki kma kbp kbt kbb khd kdr : Nat → Nat) (kco kce : Nat → Int32) (kp : Int32) (nkf : Nat → Int32) (ts : Nat) (fi tb bo : Nat → Nat) (rn0 rc0 ra0 : Nat) (rft : Int32) (f0 : Nat → Int32) (tot lat : Nat) (se sw : Int32) (sd li th tw cr by_ : Nat → Nat) (va su : Nat → Int64) (mk : Nat → Nat) (sk : Nat → Int32) (wsm : Nat → Int64) (tk : Nat → Nat) (shF : Nat → Option Nat) (sb sn : Nat → Nat) (sv : Nat → Nat → Int64) (nta nop npr nac : Nat) (nbd nnw nsn nwn : Int32) (nli nal nlo nwi ntr nbg now_ : Nat → Nat) (nis nbo : Nat → Int32) (nsz : Nat → Nat) (nnu : Nat → Int64) (hPe : PeI gr ki ma) (hBk : BkI wk ce dr) (hBo : BoI br bp bt hd) (hLk : LkI cs co lk sz bb) (hRu : RuI ru) (hKp : KpI kp nkf kgr kwk kbr kcs klk ksz kz kru kki kma kbp kbt kbb khd kdr kco kce) (hTp : TpI ts tb bo) (hSh : ShI a shF sb sn sv nbo nsz nnu) (hCr : CrI gr wk br cs sz ki ma bp bt bb dr tot lat se sw sd cr th tw) (hRf : RfI gr wk cs sz ki ma hd bb dr nnw nsn nwn nli nal nlo nwi nac) (h8 : sb 2 = 8 ∨ sb 2 = 16 ∨ sb 2 = 64) : PairP l g yX8_weeks cX8_weeks 5 (some .int) [.ref ((a 0)), .int 2] yX9_weeks cX9_weeks 6 (some .int) [.ref ((b 0)), .int 2] (xW g a gr wk br cs z ru ki ma bp bt co ce kgr kwk kbr kcs kz kru kki kma kbp kbt kco kce kp ts fi tb bo rn0 rc0 ra0 rft f0 tot lat se sw sd li th tw cr by_ va su mk sk wsm tk shF sb sn sv) (nW g b gr wk lk sz br z ru ki ma bb ce hd kp nkf ts fi tb nta nop npr nac nbd nnw nsn nwn nli nal nlo nwi ntr nbg now_ nis nbo nsz nnu) (Rel g a b) := by
  have hgr := hPe.1
  have hki := hPe.2.1
  have hma := hPe.2.2
  have hwk := hBk.1
  have hlat := core_lat hBk
  have hL := core_L hBk
  have hbr := hBo.1
  have hbp := hBo.2.1
  have hbt := hBo.2.2.1
  have hhd := hBo.2.2.2.2.2.2
  have hcs := hLk.1
  have hsz := hLk.2.1
  have hbb := hLk.2.2.1
  have hlk := lk_le hLk
  have hV : cs ≠ 0 → ∀ p, p < 495 → evR (nmI wk (laD wk dr) p) (cdF co 0 cs) [] = some [(txV bb sz wk (laD wk dr)) p] := fun q p _ => hLk.2.2.2.2 q wk (laD wk dr) p
  have hse := hCr.1
  have hsw := hCr.2
  have hsd := sdD_le cs bb sz wk (laD wk dr)
  have hsv : ∀ p, p < 495 → sdF cs (txV bb sz wk (laD wk dr)) p = if lk = 1 then clN (txV bb sz wk (laD wk dr) p) else 1 := fun p _ => lk_sd hLk _ _ p
  have hwo := hRf.1
  have hwc := hRf.2
  have htot := to_lt hPe hBo (laD wk dr) (sdF cs (txV bb sz wk (laD wk dr)))
  have e1 := cr_eq hBo gr ki ma (laD wk dr) (sdF cs (txV bb sz wk (laD wk dr)))
  have e2 := to_eq hBo gr ki ma (laD wk dr) (sdF cs (txV bb sz wk (laD wk dr)))
  have hts := hTp.1
  have htb := hTp.2.1
  have hbo := hTp.2.2
  have hq := hSh.2 2 (by decide)
  have hq1 := hq.1
  have hqn := hq.2.1
  have hqb := hq.2.2.1
  have hqz := hq.2.2.2.1
  have hqv := hq.2.2.2.2
  refine ⟨.int (nI (wsI (fun w L => crF gr ki ma bp bt br L (sdF cs (txV bb sz w L))) (sv 2) (wk, ru, ce) (sn 2)).1 - nI wk), 32, 34, _, _, by decide, by decide, Or.inl ⟨rfl, _, rfl⟩, Ct.sub [0, 24, 25, 26, 29, 17, 18, 19, 31, 32, 1, 2, 3, 4, 5, 6, 8, 7, 30, 40, 45, 46] rfl rfl ?_ (ct_weeks_o l g (a 0) (a 9) (a 33) (a 36) (a 39) (a 40) (a 49) ts kp (a 24) (a 1) (a 17) (a 31) (a 20) (a 25) (a 26) (a 27) (a 28) (a 29) (a 30) tot lat se sw (a 18) (a 19) (a 32) (a 2) (a 3) (a 4) (a 5) (a 6) (a 7) (a 8) gr br cs wk z sd li cr ki ma bp bt co ce sk (txV bb sz) (laD wk dr) ru by_ (a 45) (a 46) (sb 2) (sn 2) (sv 2) shF 2 (hgr) (hbr) (hcs) (hwk) (hki) (hma) (hbp) (hlat) (hL) (fun q w L p _ => hLk.2.2.2.2 q w L p) (hse) (by decide) (hSh.1.2.2.1) (h8) (hqn)), Ct.sub [0, 1, 8, 7, 4, 6, 12, 13, 14, 5, 9, 10, 11] rfl rfl ?_ (ct_nweeks_o l g (b 0) (b 1) (b 2) (b 3) (b 4) (b 5) (b 6) (b 7) (b 8) (b 9) (b 10) (b 11) (b 12) (b 13) (b 14) (b 15) (b 16) (b 17) (b 18) (b 19) ts nta nop npr nac kp nbd nnw nsn nwn gr wk lk sz br z ru ki ma bb hd ce tb nli nal nlo (fun w L => sdF cs (txV bb sz w L)) (laD wk dr) nbo nsz nnu 2 (sb 2) (hgr) (hki) (hma) (hwk) (hlat) (hL) (hsz) (hbb) (hlk) (fun w L p => sdD_le cs bb sz w L p) (fun w L p _ => lk_sd hLk w L p) (hwo) (fun w L _ => to_lt hPe hBo L _) (by decide) (⟨by rw [hqb, if_neg (by omega)], by omega⟩) (by omega)), ?_⟩
  · rintro v w ⟨zwk_x, zru_x, zce_x, zto_x, zla_x, zse_x, zsw_x, zsd_x, zli_x, zcr_x, zsk_x, zby_x, zL_x, rfl, rfl, P0x, P1x, P2x, P3x, P4x⟩; rfl
  · rintro v w ⟨zwk_n, zru_n, zce_n, zat_n, zop_n, zbd_n, zpr_n, znw_n, zsn_n, zwn_n, zac_n, zli_n, zal_n, zlo_n, zL_n, rfl, rfl, P0n, P1n, P2n, P3n, P4n, P5n⟩; rfl
  · rintro v1 w1 v2 w2 ⟨wq1, ⟨zwk_x, zru_x, zce_x, zto_x, zla_x, zse_x, zsw_x, zsd_x, zli_x, zcr_x, zsk_x, zby_x, zL_x, rfl, rfl, P0x, P1x, P2x, P3x, P4x⟩, hw1⟩ ⟨wq2, ⟨zwk_n, zru_n, zce_n, zat_n, zop_n, zbd_n, zpr_n, znw_n, zsn_n, zwn_n, zac_n, zli_n, zal_n, zlo_n, zL_n, rfl, rfl, P0n, P1n, P2n, P3n, P4n, P5n⟩, hw2⟩
    rw [hw1, hw2]
    have hCE : (fun w L => crF gr ki ma bp bt br L (sdF cs (txV bb sz w L))) = (fun w L => crH gr ki ma hd L (sdF cs (txV bb sz w L))) := by
      funext w L; exact cr_eq hBo gr ki ma L _
    have P0n : wsI (fun w L => crH gr ki ma hd L (sdF cs (txV bb sz w L))) (fun j => nnu (40 * 2 + j)) (wk, ru, ce) (nsz 2) = (zwk_n, zru_n, zce_n) := P0n
    have P0x : wsI (fun w L => crF gr ki ma bp bt br L (sdF cs (txV bb sz w L))) (sv 2) (wk, ru, ce) (sn 2) = (zwk_x, zru_x, zce_x) := P0x
    have hWN : (zwk_x, zru_x, zce_x) = ((zwk_n, zru_n, zce_n) : WS) := by
      rw [← P0n, ← P0x, hCE, hqz]
      exact (wsI_cong (fun j hj => hqv j (by omega))).symm
    obtain ⟨dr2, d1, d2, d3, d4⟩ := bk_wsI (X := (wk, ru, ce)) (fun w L => crF gr ki ma bp bt br L (sdF cs (txV bb sz w L))) (sv 2) hBk hRu (sn 2)
    rw [P0x] at d1 d2 d3 d4
    have d1 : BkI zwk_x zce_x dr2 := d1
    have d2 : RuI zru_x := d2
    have d3 : wk ≤ zwk_x := d3
    have d4 : zwk_x = wk → dr2 = dr := d4
    rw [P0x]
    simp only [Prod.mk.injEq] at hWN
    obtain ⟨rfl, rfl, rfl⟩ := hWN
    refine ⟨rfl, ?_, rel_mk g a b gr zwk_x br cs lk sz z zru_x ki ma bp bt bb hd dr2 co zce_x kgr kwk kbr kcs klk ksz kz kru kki kma kbp kbt kbb khd kdr kco kce kp nkf ts fi tb bo rn0 rc0 ra0 rft f0 zto_x zla_x zse_x zsw_x zsd_x zli_x th tw zcr_x zby_x va su mk zsk_x wsm tk shF sb sn sv zat_n zop_n zpr_n zac_n zbd_n znw_n zsn_n zwn_n zli_n zal_n zlo_n nwi ntr nbg now_ nis nbo nsz nnu ?_ ?_ hPe d1 hBo hLk d2 hKp hTp hSh ?_ ?_⟩
    · rw [nI_isub _ _ d3]
    · simp only [xW, nW, xSet, List.set_cons_zero, List.set_cons_succ]
    · simp only [xW, nW, xSet, List.set_cons_zero, List.set_cons_succ]
    · rcases P4x with ⟨c1, c2, c3, c4, c5, c6, c7, c8, c9, c10⟩ | ⟨c1, c2⟩
      · have e := d4 c1
        subst e; subst c1; subst c4; subst c5; subst c6; subst c7; subst c8; subst c9
        exact hCr
      · subst c1; subst c2
        exact ⟨Or.inl rfl, Or.inl rfl⟩
    · rcases P5n with ⟨c1, c2, c3, c4, c5, c6, c7, c8, c9, c10, c11⟩ | ⟨c1, c2⟩
      · have e := d4 c1
        subst e; subst c1; subst c4; subst c5; subst c6; subst c7; subst c8; subst c9; subst c10
        exact hRf
      · subst c1; subst c2
        exact ⟨Or.inl ⟨rfl, Or.inl rfl⟩, Or.inl (wnI_1 _)⟩

set_option maxRecDepth 100000 in
set_option maxHeartbeats 4000000 in
theorem pr_weeks_m3 (l : Launch) (g : XG) (a b : Nat → Nat) (gr wk br cs lk sz : Nat) (z : Int32) (ru ki ma bp bt bb hd dr : Nat → Nat) (co ce : Nat → Int32) (kgr kwk kbr kcs klk ksz : Nat) (kz : Int32) (kru kki kma kbp kbt kbb khd kdr : Nat → Nat) (kco kce : Nat → Int32) (kp : Int32) (nkf : Nat → Int32) (ts : Nat) (fi tb bo : Nat → Nat) (rn0 rc0 ra0 : Nat) (rft : Int32) (f0 : Nat → Int32) (tot lat : Nat) (se sw : Int32) (sd li th tw cr by_ : Nat → Nat) (va su : Nat → Int64) (mk : Nat → Nat) (sk : Nat → Int32) (wsm : Nat → Int64) (tk : Nat → Nat) (shF : Nat → Option Nat) (sb sn : Nat → Nat) (sv : Nat → Nat → Int64) (nta nop npr nac : Nat) (nbd nnw nsn nwn : Int32) (nli nal nlo nwi ntr nbg now_ : Nat → Nat) (nis nbo : Nat → Int32) (nsz : Nat → Nat) (nnu : Nat → Int64) (hPe : PeI gr ki ma) (hBk : BkI wk ce dr) (hBo : BoI br bp bt hd) (hLk : LkI cs co lk sz bb) (hRu : RuI ru) (hKp : KpI kp nkf kgr kwk kbr kcs klk ksz kz kru kki kma kbp kbt kbb khd kdr kco kce) (hTp : TpI ts tb bo) (hSh : ShI a shF (updN sb 3 0) sn sv nbo nsz nnu) (hCr : CrI gr wk br cs sz ki ma bp bt bb dr tot lat se sw sd cr th tw) (hRf : RfI gr wk cs sz ki ma hd bb dr nnw nsn nwn nli nal nlo nwi nac) : PairP l g yX8_weeks cX8_weeks 5 (some .int) [.ref ((a 0)), .int 3] yX9_weeks cX9_weeks 6 (some .int) [.ref ((b 0)), .int 3] (xW g a gr wk br cs z ru ki ma bp bt co ce kgr kwk kbr kcs kz kru kki kma kbp kbt kco kce kp ts fi tb bo rn0 rc0 ra0 rft f0 tot lat se sw sd li th tw cr by_ va su mk sk wsm tk shF (updN sb 3 0) sn sv) (nW g b gr wk lk sz br z ru ki ma bb ce hd kp nkf ts fi tb nta nop npr nac nbd nnw nsn nwn nli nal nlo nwi ntr nbg now_ nis nbo nsz nnu) (Rel g a b) := by
  have hgr := hPe.1
  have hki := hPe.2.1
  have hma := hPe.2.2
  have hwk := hBk.1
  have hlat := core_lat hBk
  have hL := core_L hBk
  have hbr := hBo.1
  have hbp := hBo.2.1
  have hbt := hBo.2.2.1
  have hhd := hBo.2.2.2.2.2.2
  have hcs := hLk.1
  have hsz := hLk.2.1
  have hbb := hLk.2.2.1
  have hlk := lk_le hLk
  have hV : cs ≠ 0 → ∀ p, p < 495 → evR (nmI wk (laD wk dr) p) (cdF co 0 cs) [] = some [(txV bb sz wk (laD wk dr)) p] := fun q p _ => hLk.2.2.2.2 q wk (laD wk dr) p
  have hse := hCr.1
  have hsw := hCr.2
  have hsd := sdD_le cs bb sz wk (laD wk dr)
  have hsv : ∀ p, p < 495 → sdF cs (txV bb sz wk (laD wk dr)) p = if lk = 1 then clN (txV bb sz wk (laD wk dr) p) else 1 := fun p _ => lk_sd hLk _ _ p
  have hwo := hRf.1
  have hwc := hRf.2
  have htot := to_lt hPe hBo (laD wk dr) (sdF cs (txV bb sz wk (laD wk dr)))
  have e1 := cr_eq hBo gr ki ma (laD wk dr) (sdF cs (txV bb sz wk (laD wk dr)))
  have e2 := to_eq hBo gr ki ma (laD wk dr) (sdF cs (txV bb sz wk (laD wk dr)))
  have hts := hTp.1
  have htb := hTp.2.1
  have hbo := hTp.2.2
  have hq := hSh.2 3 (by decide)
  have hq1 := hq.1
  have hqn := hq.2.1
  have hqb := hq.2.2.1
  have hqz := hq.2.2.2.1
  have hqv := hq.2.2.2.2
  have h0 : updN sb 3 0 3 = 0 := updN_self _ _ _
  refine ⟨.int (fndI 5), 32, 34, _, _, by decide, by decide, Or.inl ⟨rfl, _, rfl⟩, Ct.sub [0, 49, 40, 47, 48] rfl rfl ?_ (ct_weeks_m l g (a 0) (a 1) (a 9) (a 17) (a 24) (a 33) (a 36) (a 39) (a 40) (a 49) ts kp fi 3 (a 47) (a 48) (sn 3) (sv 3) shF (by decide) (hSh.1.2.2.2)), Ct.sub [0, 3, 9, 10] rfl rfl ?_ (ct_nweeks_m l g (b 0) (b 1) (b 2) (b 3) (b 4) (b 5) (b 6) (b 7) (b 8) (b 9) (b 10) (b 11) (b 12) (b 13) (b 14) (b 15) (b 16) (b 17) (b 18) (b 19) ts nta nop npr nac kp nbd 0 nnw nsn nwn fi nbo nsz 3 (by decide) (by rw [hqb, if_pos h0])), ?_⟩
  · rintro v w ⟨rfl, rfl⟩; rfl
  · rintro v w ⟨rfl, rfl⟩; rfl
  · rintro v1 w1 v2 w2 ⟨wq1, ⟨rfl, rfl⟩, rfl⟩ ⟨wq2, ⟨rfl, rfl⟩, rfl⟩
    refine ⟨rfl, rfl, rel_mk g a b gr wk br cs lk sz z ru ki ma bp bt bb hd dr co ce kgr kwk kbr kcs klk ksz kz kru kki kma kbp kbt kbb khd kdr kco kce kp nkf ts (updN fi 5 (fi 5 + 1)) tb bo rn0 rc0 ra0 rft f0 tot lat se sw sd li th tw cr by_ va su mk sk wsm tk shF (updN sb 3 0) sn sv nta nop npr nac nbd nnw nsn nwn nli nal nlo nwi ntr nbg now_ nis nbo nsz nnu ?_ ?_ hPe hBk hBo hLk hRu hKp hTp hSh hCr hRf⟩
    · simp only [e1, e2, xW, nW, xSet, List.set_cons_zero, List.set_cons_succ, nI_zero, updN_self, upW_self, upW_01, upW_02, upW_03, upW_10, upW_12, upW_13, upW_20, upW_21, upW_23, upW_30, upW_31, upW_32, updN_01, updN_02, updN_03, updN_10, updN_12, updN_13, updN_20, updN_21, updN_23, updN_30, updN_31, updN_32]
    · simp only [xW, nW, xSet, List.set_cons_zero, List.set_cons_succ, nI_zero, updN_self, upW_self, upW_01, upW_02, upW_03, upW_10, upW_12, upW_13, upW_20, upW_21, upW_23, upW_30, upW_31, upW_32, updN_01, updN_02, updN_03, updN_10, updN_12, updN_13, updN_20, updN_21, updN_23, updN_30, updN_31, updN_32]

set_option maxRecDepth 100000 in
set_option maxHeartbeats 4000000 in
theorem pr_weeks_o3 (l : Launch) (g : XG) (a b : Nat → Nat) (gr wk br cs lk sz : Nat) (z : Int32) (ru ki ma bp bt bb hd dr : Nat → Nat) (co ce : Nat → Int32) (kgr kwk kbr kcs klk ksz : Nat) (kz : Int32) (kru kki kma kbp kbt kbb khd kdr : Nat → Nat) (kco kce : Nat → Int32) (kp : Int32) (nkf : Nat → Int32) (ts : Nat) (fi tb bo : Nat → Nat) (rn0 rc0 ra0 : Nat) (rft : Int32) (f0 : Nat → Int32) (tot lat : Nat) (se sw : Int32) (sd li th tw cr by_ : Nat → Nat) (va su : Nat → Int64) (mk : Nat → Nat) (sk : Nat → Int32) (wsm : Nat → Int64) (tk : Nat → Nat) (shF : Nat → Option Nat) (sb sn : Nat → Nat) (sv : Nat → Nat → Int64) (nta nop npr nac : Nat) (nbd nnw nsn nwn : Int32) (nli nal nlo nwi ntr nbg now_ : Nat → Nat) (nis nbo : Nat → Int32) (nsz : Nat → Nat) (nnu : Nat → Int64) (hPe : PeI gr ki ma) (hBk : BkI wk ce dr) (hBo : BoI br bp bt hd) (hLk : LkI cs co lk sz bb) (hRu : RuI ru) (hKp : KpI kp nkf kgr kwk kbr kcs klk ksz kz kru kki kma kbp kbt kbb khd kdr kco kce) (hTp : TpI ts tb bo) (hSh : ShI a shF sb sn sv nbo nsz nnu) (hCr : CrI gr wk br cs sz ki ma bp bt bb dr tot lat se sw sd cr th tw) (hRf : RfI gr wk cs sz ki ma hd bb dr nnw nsn nwn nli nal nlo nwi nac) (h8 : sb 3 = 8 ∨ sb 3 = 16 ∨ sb 3 = 64) : PairP l g yX8_weeks cX8_weeks 5 (some .int) [.ref ((a 0)), .int 3] yX9_weeks cX9_weeks 6 (some .int) [.ref ((b 0)), .int 3] (xW g a gr wk br cs z ru ki ma bp bt co ce kgr kwk kbr kcs kz kru kki kma kbp kbt kco kce kp ts fi tb bo rn0 rc0 ra0 rft f0 tot lat se sw sd li th tw cr by_ va su mk sk wsm tk shF sb sn sv) (nW g b gr wk lk sz br z ru ki ma bb ce hd kp nkf ts fi tb nta nop npr nac nbd nnw nsn nwn nli nal nlo nwi ntr nbg now_ nis nbo nsz nnu) (Rel g a b) := by
  have hgr := hPe.1
  have hki := hPe.2.1
  have hma := hPe.2.2
  have hwk := hBk.1
  have hlat := core_lat hBk
  have hL := core_L hBk
  have hbr := hBo.1
  have hbp := hBo.2.1
  have hbt := hBo.2.2.1
  have hhd := hBo.2.2.2.2.2.2
  have hcs := hLk.1
  have hsz := hLk.2.1
  have hbb := hLk.2.2.1
  have hlk := lk_le hLk
  have hV : cs ≠ 0 → ∀ p, p < 495 → evR (nmI wk (laD wk dr) p) (cdF co 0 cs) [] = some [(txV bb sz wk (laD wk dr)) p] := fun q p _ => hLk.2.2.2.2 q wk (laD wk dr) p
  have hse := hCr.1
  have hsw := hCr.2
  have hsd := sdD_le cs bb sz wk (laD wk dr)
  have hsv : ∀ p, p < 495 → sdF cs (txV bb sz wk (laD wk dr)) p = if lk = 1 then clN (txV bb sz wk (laD wk dr) p) else 1 := fun p _ => lk_sd hLk _ _ p
  have hwo := hRf.1
  have hwc := hRf.2
  have htot := to_lt hPe hBo (laD wk dr) (sdF cs (txV bb sz wk (laD wk dr)))
  have e1 := cr_eq hBo gr ki ma (laD wk dr) (sdF cs (txV bb sz wk (laD wk dr)))
  have e2 := to_eq hBo gr ki ma (laD wk dr) (sdF cs (txV bb sz wk (laD wk dr)))
  have hts := hTp.1
  have htb := hTp.2.1
  have hbo := hTp.2.2
  have hq := hSh.2 3 (by decide)
  have hq1 := hq.1
  have hqn := hq.2.1
  have hqb := hq.2.2.1
  have hqz := hq.2.2.2.1
  have hqv := hq.2.2.2.2
  refine ⟨.int (nI (wsI (fun w L => crF gr ki ma bp bt br L (sdF cs (txV bb sz w L))) (sv 3) (wk, ru, ce) (sn 3)).1 - nI wk), 32, 34, _, _, by decide, by decide, Or.inl ⟨rfl, _, rfl⟩, Ct.sub [0, 24, 25, 26, 29, 17, 18, 19, 31, 32, 1, 2, 3, 4, 5, 6, 8, 7, 30, 40, 47, 48] rfl rfl ?_ (ct_weeks_o l g (a 0) (a 9) (a 33) (a 36) (a 39) (a 40) (a 49) ts kp (a 24) (a 1) (a 17) (a 31) (a 20) (a 25) (a 26) (a 27) (a 28) (a 29) (a 30) tot lat se sw (a 18) (a 19) (a 32) (a 2) (a 3) (a 4) (a 5) (a 6) (a 7) (a 8) gr br cs wk z sd li cr ki ma bp bt co ce sk (txV bb sz) (laD wk dr) ru by_ (a 47) (a 48) (sb 3) (sn 3) (sv 3) shF 3 (hgr) (hbr) (hcs) (hwk) (hki) (hma) (hbp) (hlat) (hL) (fun q w L p _ => hLk.2.2.2.2 q w L p) (hse) (by decide) (hSh.1.2.2.2) (h8) (hqn)), Ct.sub [0, 1, 8, 7, 4, 6, 12, 13, 14, 5, 9, 10, 11] rfl rfl ?_ (ct_nweeks_o l g (b 0) (b 1) (b 2) (b 3) (b 4) (b 5) (b 6) (b 7) (b 8) (b 9) (b 10) (b 11) (b 12) (b 13) (b 14) (b 15) (b 16) (b 17) (b 18) (b 19) ts nta nop npr nac kp nbd nnw nsn nwn gr wk lk sz br z ru ki ma bb hd ce tb nli nal nlo (fun w L => sdF cs (txV bb sz w L)) (laD wk dr) nbo nsz nnu 3 (sb 3) (hgr) (hki) (hma) (hwk) (hlat) (hL) (hsz) (hbb) (hlk) (fun w L p => sdD_le cs bb sz w L p) (fun w L p _ => lk_sd hLk w L p) (hwo) (fun w L _ => to_lt hPe hBo L _) (by decide) (⟨by rw [hqb, if_neg (by omega)], by omega⟩) (by omega)), ?_⟩
  · rintro v w ⟨zwk_x, zru_x, zce_x, zto_x, zla_x, zse_x, zsw_x, zsd_x, zli_x, zcr_x, zsk_x, zby_x, zL_x, rfl, rfl, P0x, P1x, P2x, P3x, P4x⟩; rfl
  · rintro v w ⟨zwk_n, zru_n, zce_n, zat_n, zop_n, zbd_n, zpr_n, znw_n, zsn_n, zwn_n, zac_n, zli_n, zal_n, zlo_n, zL_n, rfl, rfl, P0n, P1n, P2n, P3n, P4n, P5n⟩; rfl
  · rintro v1 w1 v2 w2 ⟨wq1, ⟨zwk_x, zru_x, zce_x, zto_x, zla_x, zse_x, zsw_x, zsd_x, zli_x, zcr_x, zsk_x, zby_x, zL_x, rfl, rfl, P0x, P1x, P2x, P3x, P4x⟩, hw1⟩ ⟨wq2, ⟨zwk_n, zru_n, zce_n, zat_n, zop_n, zbd_n, zpr_n, znw_n, zsn_n, zwn_n, zac_n, zli_n, zal_n, zlo_n, zL_n, rfl, rfl, P0n, P1n, P2n, P3n, P4n, P5n⟩, hw2⟩
    rw [hw1, hw2]
    have hCE : (fun w L => crF gr ki ma bp bt br L (sdF cs (txV bb sz w L))) = (fun w L => crH gr ki ma hd L (sdF cs (txV bb sz w L))) := by
      funext w L; exact cr_eq hBo gr ki ma L _
    have P0n : wsI (fun w L => crH gr ki ma hd L (sdF cs (txV bb sz w L))) (fun j => nnu (40 * 3 + j)) (wk, ru, ce) (nsz 3) = (zwk_n, zru_n, zce_n) := P0n
    have P0x : wsI (fun w L => crF gr ki ma bp bt br L (sdF cs (txV bb sz w L))) (sv 3) (wk, ru, ce) (sn 3) = (zwk_x, zru_x, zce_x) := P0x
    have hWN : (zwk_x, zru_x, zce_x) = ((zwk_n, zru_n, zce_n) : WS) := by
      rw [← P0n, ← P0x, hCE, hqz]
      exact (wsI_cong (fun j hj => hqv j (by omega))).symm
    obtain ⟨dr2, d1, d2, d3, d4⟩ := bk_wsI (X := (wk, ru, ce)) (fun w L => crF gr ki ma bp bt br L (sdF cs (txV bb sz w L))) (sv 3) hBk hRu (sn 3)
    rw [P0x] at d1 d2 d3 d4
    have d1 : BkI zwk_x zce_x dr2 := d1
    have d2 : RuI zru_x := d2
    have d3 : wk ≤ zwk_x := d3
    have d4 : zwk_x = wk → dr2 = dr := d4
    rw [P0x]
    simp only [Prod.mk.injEq] at hWN
    obtain ⟨rfl, rfl, rfl⟩ := hWN
    refine ⟨rfl, ?_, rel_mk g a b gr zwk_x br cs lk sz z zru_x ki ma bp bt bb hd dr2 co zce_x kgr kwk kbr kcs klk ksz kz kru kki kma kbp kbt kbb khd kdr kco kce kp nkf ts fi tb bo rn0 rc0 ra0 rft f0 zto_x zla_x zse_x zsw_x zsd_x zli_x th tw zcr_x zby_x va su mk zsk_x wsm tk shF sb sn sv zat_n zop_n zpr_n zac_n zbd_n znw_n zsn_n zwn_n zli_n zal_n zlo_n nwi ntr nbg now_ nis nbo nsz nnu ?_ ?_ hPe d1 hBo hLk d2 hKp hTp hSh ?_ ?_⟩
    · rw [nI_isub _ _ d3]
    · simp only [xW, nW, xSet, List.set_cons_zero, List.set_cons_succ]
    · simp only [xW, nW, xSet, List.set_cons_zero, List.set_cons_succ]
    · rcases P4x with ⟨c1, c2, c3, c4, c5, c6, c7, c8, c9, c10⟩ | ⟨c1, c2⟩
      · have e := d4 c1
        subst e; subst c1; subst c4; subst c5; subst c6; subst c7; subst c8; subst c9
        exact hCr
      · subst c1; subst c2
        exact ⟨Or.inl rfl, Or.inl rfl⟩
    · rcases P5n with ⟨c1, c2, c3, c4, c5, c6, c7, c8, c9, c10, c11⟩ | ⟨c1, c2⟩
      · have e := d4 c1
        subst e; subst c1; subst c4; subst c5; subst c6; subst c7; subst c8; subst c9; subst c10
        exact hRf
      · subst c1; subst c2
        exact ⟨Or.inl ⟨rfl, Or.inl rfl⟩, Or.inl (wnI_1 _)⟩

set_option maxRecDepth 100000 in
set_option maxHeartbeats 4000000 in
theorem pr_weeks_b (l : Launch) (g : XG) (a b : Nat → Nat) (gr wk br cs lk sz : Nat) (z : Int32) (ru ki ma bp bt bb hd dr : Nat → Nat) (co ce : Nat → Int32) (kgr kwk kbr kcs klk ksz : Nat) (kz : Int32) (kru kki kma kbp kbt kbb khd kdr : Nat → Nat) (kco kce : Nat → Int32) (kp : Int32) (nkf : Nat → Int32) (ts : Nat) (fi tb bo : Nat → Nat) (rn0 rc0 ra0 : Nat) (rft : Int32) (f0 : Nat → Int32) (tot lat : Nat) (se sw : Int32) (sd li th tw cr by_ : Nat → Nat) (va su : Nat → Int64) (mk : Nat → Nat) (sk : Nat → Int32) (wsm : Nat → Int64) (tk : Nat → Nat) (shF : Nat → Option Nat) (sb sn : Nat → Nat) (sv : Nat → Nat → Int64) (nta nop npr nac : Nat) (nbd nnw nsn nwn : Int32) (nli nal nlo nwi ntr nbg now_ : Nat → Nat) (nis nbo : Nat → Int32) (nsz : Nat → Nat) (nnu : Nat → Int64) (hPe : PeI gr ki ma) (hBk : BkI wk ce dr) (hBo : BoI br bp bt hd) (hLk : LkI cs co lk sz bb) (hRu : RuI ru) (hKp : KpI kp nkf kgr kwk kbr kcs klk ksz kz kru kki kma kbp kbt kbb khd kdr kco kce) (hTp : TpI ts tb bo) (hSh : ShI a shF sb sn sv nbo nsz nnu) (hCr : CrI gr wk br cs sz ki ma bp bt bb dr tot lat se sw sd cr th tw) (hRf : RfI gr wk cs sz ki ma hd bb dr nnw nsn nwn nli nal nlo nwi nac) (s : Int32) (hb : wI s 0 3 = 0) : PairP l g yX8_weeks cX8_weeks 5 (some .int) [.ref ((a 0)), .int s] yX9_weeks cX9_weeks 6 (some .int) [.ref ((b 0)), .int s] (xW g a gr wk br cs z ru ki ma bp bt co ce kgr kwk kbr kcs kz kru kki kma kbp kbt kco kce kp ts fi tb bo rn0 rc0 ra0 rft f0 tot lat se sw sd li th tw cr by_ va su mk sk wsm tk shF sb sn sv) (nW g b gr wk lk sz br z ru ki ma bb ce hd kp nkf ts fi tb nta nop npr nac nbd nnw nsn nwn nli nal nlo nwi ntr nbg now_ nis nbo nsz nnu) (Rel g a b) := by
  have hgr := hPe.1
  have hki := hPe.2.1
  have hma := hPe.2.2
  have hwk := hBk.1
  have hlat := core_lat hBk
  have hL := core_L hBk
  have hbr := hBo.1
  have hbp := hBo.2.1
  have hbt := hBo.2.2.1
  have hhd := hBo.2.2.2.2.2.2
  have hcs := hLk.1
  have hsz := hLk.2.1
  have hbb := hLk.2.2.1
  have hlk := lk_le hLk
  have hV : cs ≠ 0 → ∀ p, p < 495 → evR (nmI wk (laD wk dr) p) (cdF co 0 cs) [] = some [(txV bb sz wk (laD wk dr)) p] := fun q p _ => hLk.2.2.2.2 q wk (laD wk dr) p
  have hse := hCr.1
  have hsw := hCr.2
  have hsd := sdD_le cs bb sz wk (laD wk dr)
  have hsv : ∀ p, p < 495 → sdF cs (txV bb sz wk (laD wk dr)) p = if lk = 1 then clN (txV bb sz wk (laD wk dr) p) else 1 := fun p _ => lk_sd hLk _ _ p
  have hwo := hRf.1
  have hwc := hRf.2
  have htot := to_lt hPe hBo (laD wk dr) (sdF cs (txV bb sz wk (laD wk dr)))
  have e1 := cr_eq hBo gr ki ma (laD wk dr) (sdF cs (txV bb sz wk (laD wk dr)))
  have e2 := to_eq hBo gr ki ma (laD wk dr) (sdF cs (txV bb sz wk (laD wk dr)))
  have hts := hTp.1
  have htb := hTp.2.1
  have hbo := hTp.2.2
  refine ⟨.int (fndI 0), 32, 34, _, _, by decide, by decide, Or.inl ⟨rfl, _, rfl⟩, Ct.sub [0, 49] rfl rfl ?_ (ct_weeks_b l g (a 0) (a 1) (a 9) (a 17) (a 24) (a 33) (a 36) (a 39) (a 40) (a 49) ts kp fi s (hb)), Ct.sub [0, 3, 9, 10] rfl rfl ?_ (ct_nweeks_b l g (b 0) (b 1) (b 2) (b 3) (b 4) (b 5) (b 6) (b 7) (b 8) (b 9) (b 10) (b 11) (b 12) (b 13) (b 14) (b 15) (b 16) (b 17) (b 18) (b 19) ts nta nop npr nac kp nbd 0 nnw nsn nwn fi nbo nsz s (hb)), ?_⟩
  · rintro v w ⟨rfl, rfl⟩; rfl
  · rintro v w ⟨rfl, rfl⟩; rfl
  · rintro v1 w1 v2 w2 ⟨wq1, ⟨rfl, rfl⟩, rfl⟩ ⟨wq2, ⟨rfl, rfl⟩, rfl⟩
    refine ⟨rfl, rfl, rel_mk g a b gr wk br cs lk sz z ru ki ma bp bt bb hd dr co ce kgr kwk kbr kcs klk ksz kz kru kki kma kbp kbt kbb khd kdr kco kce kp nkf ts (updN fi 0 (fi 0 + 1)) tb bo rn0 rc0 ra0 rft f0 tot lat se sw sd li th tw cr by_ va su mk sk wsm tk shF sb sn sv nta nop npr nac nbd nnw nsn nwn nli nal nlo nwi ntr nbg now_ nis nbo nsz nnu ?_ ?_ hPe hBk hBo hLk hRu hKp hTp hSh hCr hRf⟩
    · simp only [e1, e2, xW, nW, xSet, List.set_cons_zero, List.set_cons_succ, nI_zero]
    · simp only [xW, nW, xSet, List.set_cons_zero, List.set_cons_succ, nI_zero]

set_option maxRecDepth 100000 in
set_option maxHeartbeats 4000000 in
theorem pm_weeks (l : Launch) (g : XG) (a b : Nat → Nat) {wX wM : va_W} (hR : Rel g a b wX wM) (x : Int32) : PairP l g yX8_weeks cX8_weeks 5 (some .int) [.ref (a 0), .int x] yX9_weeks cX9_weeks 6 (some .int) [.ref (b 0), .int x] wX wM (Rel g a b) := by
  refine rel_elim hR (fun gr wk br cs lk sz z ru ki ma bp bt bb hd dr co ce kgr kwk kbr kcs klk ksz kz kru kki kma kbp kbt kbb khd kdr kco kce kp nkf ts fi tb bo rn0 rc0 ra0 rft f0 tot lat se sw sd li th tw cr by_ va su mk sk wsm tk shF sb sn sv nta nop npr nac nbd nnw nsn nwn nli nal nlo nwi ntr nbg now_ nis nbo nsz nnu hx hm hPe hBk hBo hLk hRu hKp hTp hSh hCr hRf => ?_)
  subst hx
  subst hm
  rcases wI_cases x (a := 0) (b := 3) (by decide) (by decide) with h | ⟨s, rfl, -, hs⟩
  · exact pr_weeks_b l g a b gr wk br cs lk sz z ru ki ma bp bt bb hd dr co ce kgr kwk kbr kcs klk ksz kz kru kki kma kbp kbt kbb khd kdr kco kce kp nkf ts fi tb bo rn0 rc0 ra0 rft f0 tot lat se sw sd li th tw cr by_ va su mk sk wsm tk shF sb sn sv nta nop npr nac nbd nnw nsn nwn nli nal nlo nwi ntr nbg now_ nis nbo nsz nnu hPe hBk hBo hLk hRu hKp hTp hSh hCr hRf x h
  rcases (by omega : s = 0 ∨ s = 1 ∨ s = 2 ∨ s = 3) with rfl | rfl | rfl | rfl
  · rcases (hSh.2 0 (by decide)).1 with h0 | h8
    · have e := updN_id h0
      have q := pr_weeks_m0 l g a b gr wk br cs lk sz z ru ki ma bp bt bb hd dr co ce kgr kwk kbr kcs klk ksz kz kru kki kma kbp kbt kbb khd kdr kco kce kp nkf ts fi tb bo rn0 rc0 ra0 rft f0 tot lat se sw sd li th tw cr by_ va su mk sk wsm tk shF sb sn sv nta nop npr nac nbd nnw nsn nwn nli nal nlo nwi ntr nbg now_ nis nbo nsz nnu hPe hBk hBo hLk hRu hKp hTp (by rw [e]; exact hSh) hCr hRf 
      rw [e] at q
      exact q
    exact pr_weeks_o0 l g a b gr wk br cs lk sz z ru ki ma bp bt bb hd dr co ce kgr kwk kbr kcs klk ksz kz kru kki kma kbp kbt kbb khd kdr kco kce kp nkf ts fi tb bo rn0 rc0 ra0 rft f0 tot lat se sw sd li th tw cr by_ va su mk sk wsm tk shF sb sn sv nta nop npr nac nbd nnw nsn nwn nli nal nlo nwi ntr nbg now_ nis nbo nsz nnu hPe hBk hBo hLk hRu hKp hTp hSh hCr hRf h8
  · rcases (hSh.2 1 (by decide)).1 with h0 | h8
    · have e := updN_id h0
      have q := pr_weeks_m1 l g a b gr wk br cs lk sz z ru ki ma bp bt bb hd dr co ce kgr kwk kbr kcs klk ksz kz kru kki kma kbp kbt kbb khd kdr kco kce kp nkf ts fi tb bo rn0 rc0 ra0 rft f0 tot lat se sw sd li th tw cr by_ va su mk sk wsm tk shF sb sn sv nta nop npr nac nbd nnw nsn nwn nli nal nlo nwi ntr nbg now_ nis nbo nsz nnu hPe hBk hBo hLk hRu hKp hTp (by rw [e]; exact hSh) hCr hRf 
      rw [e] at q
      exact q
    exact pr_weeks_o1 l g a b gr wk br cs lk sz z ru ki ma bp bt bb hd dr co ce kgr kwk kbr kcs klk ksz kz kru kki kma kbp kbt kbb khd kdr kco kce kp nkf ts fi tb bo rn0 rc0 ra0 rft f0 tot lat se sw sd li th tw cr by_ va su mk sk wsm tk shF sb sn sv nta nop npr nac nbd nnw nsn nwn nli nal nlo nwi ntr nbg now_ nis nbo nsz nnu hPe hBk hBo hLk hRu hKp hTp hSh hCr hRf h8
  · rcases (hSh.2 2 (by decide)).1 with h0 | h8
    · have e := updN_id h0
      have q := pr_weeks_m2 l g a b gr wk br cs lk sz z ru ki ma bp bt bb hd dr co ce kgr kwk kbr kcs klk ksz kz kru kki kma kbp kbt kbb khd kdr kco kce kp nkf ts fi tb bo rn0 rc0 ra0 rft f0 tot lat se sw sd li th tw cr by_ va su mk sk wsm tk shF sb sn sv nta nop npr nac nbd nnw nsn nwn nli nal nlo nwi ntr nbg now_ nis nbo nsz nnu hPe hBk hBo hLk hRu hKp hTp (by rw [e]; exact hSh) hCr hRf 
      rw [e] at q
      exact q
    exact pr_weeks_o2 l g a b gr wk br cs lk sz z ru ki ma bp bt bb hd dr co ce kgr kwk kbr kcs klk ksz kz kru kki kma kbp kbt kbb khd kdr kco kce kp nkf ts fi tb bo rn0 rc0 ra0 rft f0 tot lat se sw sd li th tw cr by_ va su mk sk wsm tk shF sb sn sv nta nop npr nac nbd nnw nsn nwn nli nal nlo nwi ntr nbg now_ nis nbo nsz nnu hPe hBk hBo hLk hRu hKp hTp hSh hCr hRf h8
  · rcases (hSh.2 3 (by decide)).1 with h0 | h8
    · have e := updN_id h0
      have q := pr_weeks_m3 l g a b gr wk br cs lk sz z ru ki ma bp bt bb hd dr co ce kgr kwk kbr kcs klk ksz kz kru kki kma kbp kbt kbb khd kdr kco kce kp nkf ts fi tb bo rn0 rc0 ra0 rft f0 tot lat se sw sd li th tw cr by_ va su mk sk wsm tk shF sb sn sv nta nop npr nac nbd nnw nsn nwn nli nal nlo nwi ntr nbg now_ nis nbo nsz nnu hPe hBk hBo hLk hRu hKp hTp (by rw [e]; exact hSh) hCr hRf 
      rw [e] at q
      exact q
    exact pr_weeks_o3 l g a b gr wk br cs lk sz z ru ki ma bp bt bb hd dr co ce kgr kwk kbr kcs klk ksz kz kru kki kma kbp kbt kbb khd kdr kco kce kp nkf ts fi tb bo rn0 rc0 ra0 rft f0 tot lat se sw sd li th tw cr by_ va su mk sk wsm tk shF sb sn sv nta nop npr nac nbd nnw nsn nwn nli nal nlo nwi ntr nbg now_ nis nbo nsz nnu hPe hBk hBo hLk hRu hKp hTp hSh hCr hRf h8
