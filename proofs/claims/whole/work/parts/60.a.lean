/-! ===== the calls by pairs: weeks, the book, drums, images ===== -/
theorem bk_next {wk : Nat} {ce : Nat → Int32} {dr : Nat → Nat} (h : BkI wk ce dr) (hw : wk < 40) {d : Nat} (hd : d < 4096) (ru : Nat → Nat) (tot : Nat) (cr : Nat → Nat) : BkI (wk + 1) (wkCells ce wk ru tot cr d) (updN dr wk d) := by
  refine ⟨by omega, fun w hw2 => ?_, fun w => ?_⟩
  · by_cases e : w = wk
    · subst e
      rw [updN_self]
      have := lat_wk ce w ru tot cr d
      unfold latI at this
      rw [if_neg (by omega), show (w + 1 - 1) * 8 + 0 = w * 8 by omega] at this
      exact this
    · rw [updN_ne _ _ e, ← h.2.1 w (by omega)]
      unfold wkCells
      simp only [upd]
      repeat rw [if_neg (by omega)]
  · unfold updN; split
    · exact hd
    · exact h.2.2 w
theorem ru_pot {ru : Nat → Nat} (h : RuI ru) (x : Int64) : RuI (updN ru 7 (potE x)) := ru_upd h ⟨Nat.zero_le _, potE_le x⟩
theorem lkN_300 {kd mn p lat sd : Nat} (h : sd ≤ 99) : lkN kd mn p lat sd ≤ 300 := lkN_le h
theorem shN_all {kd mn p lat : Nat} {sd : Nat → Nat} (hm : mn ≤ 99999) (hs : ∀ p, sd p ≤ 99) : shN kd mn p lat sd ≤ 29999700 := by
  unfold shN
  split
  · exact Nat.zero_le _
  · exact Nat.le_trans (Nat.div_le_self _ _) (Nat.le_trans (Nat.mul_le_mul hm (lkN_300 (hs p))) (by decide))
theorem cr_all {gr br : Nat} {ki ma bp bt hd : Nat → Nat} (hp : PeI gr ki ma) (h : BoI br bp bt hd) (L : Nat) {sd : Nat → Nat} (hs : ∀ p, sd p ≤ 99) : ∀ p, crH gr ki ma hd L sd p ≤ 2 ^ 30 := fun p => by
  unfold crH
  have h1 := h.2.2.2.2.2.2 p
  have h2 : sumN (fun q => shN (ki q) (ma q) p L sd) gr ≤ gr * 29999700 := sumN_le (fun q _ => shN_all (hp.2.2 q) hs)
  have h3 : gr * 29999700 ≤ 12 * 29999700 := Nat.mul_le_mul_right _ hp.1
  omega
theorem alA_cases (cr : Nat → Nat) : alA cr 495 = -1 ∨ ∃ p, p < 495 ∧ alA cr 495 = nI p := alA_hi cr 495
theorem kp_keep {kp : Int32} {kgr kwk kbr kcs klk ksz : Nat} {kz : Int32} {kru kki kma kbp kbt kbb khd kdr : Nat → Nat} {kco kce : Nat → Int32} (h1 : PeI kgr kki kma) (h2 : BkI kwk kce kdr) (h3 : BoI kbr kbp kbt khd) (h4 : LkI kcs kco klk ksz kbb) (h5 : RuI kru) : KpI 1 (msF kgr kwk kz klk ksz kbr kru kki kma kbb kce khd) kgr kwk kbr kcs klk ksz kz kru kki kma kbp kbt kbb khd kdr kco kce := ⟨Or.inr rfl, fun _ => ⟨h1, h2, h3, h4, h5, rfl⟩⟩
theorem wI_m1 (x : Int32) (e : ¬ x = -1) : wI x (-1) 6 = 0 ∨ ∃ n, x = nI n ∧ n ≤ 6 := by
  by_cases c : x < 0
  · left
    unfold wI
    rw [if_pos]
    rw [fa_lt] at c ⊢
    rw [fa_eq] at e
    have h0 : (0 : Int32).toInt = 0 := rfl
    have h1 : (-1 : Int32).toInt = -1 := rfl
    rw [h0] at c; rw [h1] at e ⊢; omega
  · obtain ⟨n, hn, rfl⟩ := nI_of c
    rcases Nat.lt_or_ge 6 n with q | q
    · left
      unfold wI
      rw [if_neg (fun z => c (fa_trans z (by decide))), if_pos (show (6 : Int32) < nI n from nI_lt (a := 6) q hn)]
    · exact Or.inr ⟨n, rfl, q⟩
set_option maxRecDepth 100000 in
set_option maxHeartbeats 4000000 in
theorem pr_week_f (l : Launch) (g : XG) (a b : Nat → Nat) (gr wk br cs lk sz : Nat) (z : Int32) (ru ki ma bp bt bb hd dr : Nat → Nat) (co ce : Nat → Int32) (kgr kwk kbr kcs klk ksz : Nat) (kz : Int32) (kru kki kma kbp kbt kbb khd kdr : Nat → Nat) (kco kce : Nat → Int32) (kp : Int32) (nkf : Nat → Int32) (ts : Nat) (fi tb bo : Nat → Nat) (rn0 rc0 ra0 : Nat) (rft : Int32) (f0 : Nat → Int32) (tot lat : Nat) (se sw : Int32) (sd li th tw cr by_ : Nat → Nat) (va su : Nat → Int64) (mk : Nat → Nat) (sk : Nat → Int32) (wsm : Nat → Int64) (tk : Nat → Nat) (shF : Nat → Option Nat) (sb sn : Nat → Nat) (sv : Nat → Nat → Int64) (nta nop npr nac : Nat) (nbd nnw nsn nwn : Int32) (nli nal nlo nwi ntr nbg now_ : Nat → Nat) (nis nbo : Nat → Int32) (nsz : Nat → Nat) (nnu : Nat → Int64) (hPe : PeI gr ki ma) (hBk : BkI wk ce dr) (hBo : BoI br bp bt hd) (hLk : LkI cs co lk sz bb) (hRu : RuI ru) (hKp : KpI kp nkf kgr kwk kbr kcs klk ksz kz kru kki kma kbp kbt kbb khd kdr kco kce) (hTp : TpI ts tb bo) (hSh : ShI a shF sb sn sv nbo nsz nnu) (hCr : CrI gr wk br cs sz ki ma bp bt bb dr tot lat se sw sd cr th tw) (hRf : RfI gr wk cs sz ki ma hd bb dr nnw nsn nwn nli nal nlo nwi nac) (hw : wk = 40) : PairP l g yX8_week cX8_week 2 (some .int) [.ref ((a 0))] yX9_week cX9_week 2 (some .int) [.ref ((b 0))] (xW g a gr wk br cs z ru ki ma bp bt co ce kgr kwk kbr kcs kz kru kki kma kbp kbt kco kce kp ts fi tb bo rn0 rc0 ra0 rft f0 tot lat se sw sd li th tw cr by_ va su mk sk wsm tk shF sb sn sv) (nW g b gr wk lk sz br z ru ki ma bb ce hd kp nkf ts fi tb nta nop npr nac nbd nnw nsn nwn nli nal nlo nwi ntr nbg now_ nis nbo nsz nnu) (Rel g a b) := by
  have hgr := hPe.1
  have hki := hPe.2.1
  have hma := hPe.2.2
  have hwk := hBk.1
  have hlat := core_lat hBk
  have hL := core_L hBk
  have hbr := hBo.1
  have hbp := hBo.2.1
  have hbt := hBo.2.2.1
  have hhd := hBo.2.2.2.2.2.2
  have hcs := hLk.1
  have hsz := hLk.2.1
  have hbb := hLk.2.2.1
  have hlk := lk_le hLk
  have hV : cs ≠ 0 → ∀ p, p < 495 → evR (nmI wk (laD wk dr) p) (cdF co 0 cs) [] = some [(txV bb sz wk (laD wk dr)) p] := fun q p _ => hLk.2.2.2.2 q wk (laD wk dr) p
  have hse := hCr.1
  have hsw := hCr.2
  have hsd := sdD_le cs bb sz wk (laD wk dr)
  have hsv : ∀ p, p < 495 → sdF cs (txV bb sz wk (laD wk dr)) p = if lk = 1 then clN (txV bb sz wk (laD wk dr) p) else 1 := fun p _ => lk_sd hLk _ _ p
  have hwo := hRf.1
  have hwc := hRf.2
  have htot := to_lt hPe hBo (laD wk dr) (sdF cs (txV bb sz wk (laD wk dr)))
  have e1 := cr_eq hBo gr ki ma (laD wk dr) (sdF cs (txV bb sz wk (laD wk dr)))
  have e2 := to_eq hBo gr ki ma (laD wk dr) (sdF cs (txV bb sz wk (laD wk dr)))
  have hts := hTp.1
  have htb := hTp.2.1
  have hbo := hTp.2.2
  refine ⟨.int (fndI 1), 10, 34, _, _, by decide, by decide, Or.inl ⟨rfl, _, rfl⟩, Ct.sub [0, 49, 1] rfl rfl ?_ (ct_week_f l g (a 0) (a 1) (a 9) (a 17) (a 24) (a 33) (a 36) (a 39) (a 40) (a 49) ts kp (a 2) (a 3) (a 4) (a 5) (a 6) (a 7) (a 8) gr br cs wk z fi (hw)), Ct.sub [0, 3, 1] rfl rfl ?_ (ct_nweek_f l g (b 0) (b 1) (b 2) (b 3) (b 4) (b 5) (b 6) (b 7) (b 8) (b 9) (b 10) (b 11) (b 12) (b 13) (b 14) (b 15) (b 16) (b 17) (b 18) (b 19) ts nta nop npr nac kp nbd 0 nnw nsn nwn fi gr wk lk sz br z ru ki ma bb hd ce (hw)), ?_⟩
  · rintro v w ⟨rfl, rfl⟩; rfl
  · rintro v w ⟨rfl, rfl⟩; rfl
  · rintro v1 w1 v2 w2 ⟨wq1, ⟨rfl, rfl⟩, rfl⟩ ⟨wq2, ⟨rfl, rfl⟩, rfl⟩
    refine ⟨rfl, rfl, rel_mk g a b gr wk br cs lk sz z ru ki ma bp bt bb hd dr co ce kgr kwk kbr kcs klk ksz kz kru kki kma kbp kbt kbb khd kdr kco kce kp nkf ts (updN fi 1 (fi 1 + 1)) tb bo rn0 rc0 ra0 rft f0 tot lat se sw sd li th tw cr by_ va su mk sk wsm tk shF sb sn sv nta nop npr nac nbd nnw nsn nwn nli nal nlo nwi ntr nbg now_ nis nbo nsz nnu ?_ ?_ hPe hBk hBo hLk hRu hKp hTp hSh hCr hRf⟩
    · simp only [e1, e2, xW, nW, xSet, List.set_cons_zero, List.set_cons_succ, nI_zero]
    · simp only [xW, nW, xSet, List.set_cons_zero, List.set_cons_succ, nI_zero]

set_option maxRecDepth 100000 in
set_option maxHeartbeats 4000000 in
theorem pr_week_o (l : Launch) (g : XG) (a b : Nat → Nat) (gr wk br cs lk sz : Nat) (z : Int32) (ru ki ma bp bt bb hd dr : Nat → Nat) (co ce : Nat → Int32) (kgr kwk kbr kcs klk ksz : Nat) (kz : Int32) (kru kki kma kbp kbt kbb khd kdr : Nat → Nat) (kco kce : Nat → Int32) (kp : Int32) (nkf : Nat → Int32) (ts : Nat) (fi tb bo : Nat → Nat) (rn0 rc0 ra0 : Nat) (rft : Int32) (f0 : Nat → Int32) (tot lat : Nat) (se sw : Int32) (sd li th tw cr by_ : Nat → Nat) (va su : Nat → Int64) (mk : Nat → Nat) (sk : Nat → Int32) (wsm : Nat → Int64) (tk : Nat → Nat) (shF : Nat → Option Nat) (sb sn : Nat → Nat) (sv : Nat → Nat → Int64) (nta nop npr nac : Nat) (nbd nnw nsn nwn : Int32) (nli nal nlo nwi ntr nbg now_ : Nat → Nat) (nis nbo : Nat → Int32) (nsz : Nat → Nat) (nnu : Nat → Int64) (hPe : PeI gr ki ma) (hBk : BkI wk ce dr) (hBo : BoI br bp bt hd) (hLk : LkI cs co lk sz bb) (hRu : RuI ru) (hKp : KpI kp nkf kgr kwk kbr kcs klk ksz kz kru kki kma kbp kbt kbb khd kdr kco kce) (hTp : TpI ts tb bo) (hSh : ShI a shF sb sn sv nbo nsz nnu) (hCr : CrI gr wk br cs sz ki ma bp bt bb dr tot lat se sw sd cr th tw) (hRf : RfI gr wk cs sz ki ma hd bb dr nnw nsn nwn nli nal nlo nwi nac) (K : Nat) (hw4 : wk < 40) (hK1 : K ≤ 300000) (hK2 : ∀ j, j < K → popN (dT z j) < 4) (hK3 : 4 ≤ popN (dT z K)) : PairP l g yX8_week cX8_week 2 (some .int) [.ref ((a 0))] yX9_week cX9_week 2 (some .int) [.ref ((b 0))] (xW g a gr wk br cs z ru ki ma bp bt co ce kgr kwk kbr kcs kz kru kki kma kbp kbt kco kce kp ts fi tb bo rn0 rc0 ra0 rft f0 tot lat se sw sd li th tw cr by_ va su mk sk wsm tk shF sb sn sv) (nW g b gr wk lk sz br z ru ki ma bb ce hd kp nkf ts fi tb nta nop npr nac nbd nnw nsn nwn nli nal nlo nwi ntr nbg now_ nis nbo nsz nnu) (Rel g a b) := by
  have hgr := hPe.1
  have hki := hPe.2.1
  have hma := hPe.2.2
  have hwk := hBk.1
  have hlat := core_lat hBk
  have hL := core_L hBk
  have hbr := hBo.1
  have hbp := hBo.2.1
  have hbt := hBo.2.2.1
  have hhd := hBo.2.2.2.2.2.2
  have hcs := hLk.1
  have hsz := hLk.2.1
  have hbb := hLk.2.2.1
  have hlk := lk_le hLk
  have hV : cs ≠ 0 → ∀ p, p < 495 → evR (nmI wk (laD wk dr) p) (cdF co 0 cs) [] = some [(txV bb sz wk (laD wk dr)) p] := fun q p _ => hLk.2.2.2.2 q wk (laD wk dr) p
  have hse := hCr.1
  have hsw := hCr.2
  have hsd := sdD_le cs bb sz wk (laD wk dr)
  have hsv : ∀ p, p < 495 → sdF cs (txV bb sz wk (laD wk dr)) p = if lk = 1 then clN (txV bb sz wk (laD wk dr) p) else 1 := fun p _ => lk_sd hLk _ _ p
  have hwo := hRf.1
  have hwc := hRf.2
  have htot := to_lt hPe hBo (laD wk dr) (sdF cs (txV bb sz wk (laD wk dr)))
  have e1 := cr_eq hBo gr ki ma (laD wk dr) (sdF cs (txV bb sz wk (laD wk dr)))
  have e2 := to_eq hBo gr ki ma (laD wk dr) (sdF cs (txV bb sz wk (laD wk dr)))
  have hts := hTp.1
  have htb := hTp.2.1
  have hbo := hTp.2.2
  refine ⟨.int (nI (dT z K)), 10, 34, _, _, by decide, by decide, Or.inl ⟨rfl, _, rfl⟩, Ct.sub [0, 24, 25, 26, 29, 17, 18, 19, 31, 32, 1, 2, 3, 4, 5, 6, 8, 7, 30] rfl rfl ?_ (ct_week_o l g (a 0) (a 9) (a 33) (a 36) (a 39) (a 40) (a 49) ts kp (a 24) (a 1) (a 17) (a 31) (a 20) (a 25) (a 26) (a 27) (a 28) (a 29) (a 30) tot lat se sw (a 18) (a 19) (a 32) (a 2) (a 3) (a 4) (a 5) (a 6) (a 7) (a 8) gr br cs wk z sd li cr ki ma bp bt co ce sk (txV bb sz wk (laD wk dr)) (laD wk dr) ru by_ K (hgr) (hbr) (hcs) (hwk) (hki) (hma) (hbp) (hlat) (hL) (hV) (hse) (hw4) (hK1) (hK2) (hK3)), Ct.sub [0, 1, 8, 7, 4, 6, 12, 13, 14] rfl rfl ?_ (ct_nweek_o l g (b 0) (b 1) (b 2) (b 3) (b 4) (b 5) (b 6) (b 7) (b 8) (b 9) (b 10) (b 11) (b 12) (b 13) (b 14) (b 15) (b 16) (b 17) (b 18) (b 19) ts nta nop npr nac kp nbd nnw nsn nwn gr wk lk sz br z ru ki ma bb hd ce tb nli nal nlo (sdF cs (txV bb sz wk (laD wk dr))) (laD wk dr) K (hgr) (hki) (hma) (hwk) (hlat) (hL) (hsz) (hbb) (hsd) (hsv) (hlk) (hwo) (hw4) (htot) (hK1) (hK2) (hK3)), ?_⟩
  · rintro v w ⟨li2_x, sk2_x, rfl, rfl⟩; rfl
  · rintro v w ⟨zat_n, zop_n, zbd_n, zpr_n, lo2_n, rfl, rfl, P0n⟩; rfl
  · rintro v1 w1 v2 w2 ⟨wq1, ⟨li2_x, sk2_x, rfl, rfl⟩, rfl⟩ ⟨wq2, ⟨zat_n, zop_n, zbd_n, zpr_n, lo2_n, rfl, rfl, P0n⟩, rfl⟩
    refine ⟨rfl, rfl, rel_mk g a b gr (wk + 1) br cs lk sz (zT z K) (updN ru 7 (potE (wkLeft ru (toH gr ki ma hd (laD wk dr) (sdF cs (txV bb sz wk (laD wk dr)))) (crH gr ki ma hd (laD wk dr) (sdF cs (txV bb sz wk (laD wk dr)))) (dT z K)))) ki ma bp bt bb hd (updN dr wk (dT z K)) co (wkCells ce wk ru (toH gr ki ma hd (laD wk dr) (sdF cs (txV bb sz wk (laD wk dr)))) (crH gr ki ma hd (laD wk dr) (sdF cs (txV bb sz wk (laD wk dr)))) (dT z K)) kgr kwk kbr kcs klk ksz kz kru kki kma kbp kbt kbb khd kdr kco kce kp nkf ts fi tb bo rn0 rc0 ra0 rft f0 (totF gr ki ma bp bt br (laD wk dr) (sdF cs (txV bb sz wk (laD wk dr)))) (laD wk dr) 0 0 (sdF cs (txV bb sz wk (laD wk dr))) li2_x th tw (crF gr ki ma bp bt br (laD wk dr) (sdF cs (txV bb sz wk (laD wk dr)))) (winN (crF gr ki ma bp bt br (laD wk dr) (sdF cs (txV bb sz wk (laD wk dr)))) (dT z K)) va su mk sk2_x wsm tk shF sb sn sv zat_n zop_n zpr_n (toH gr ki ma hd (laD wk dr) (sdF cs (txV bb sz wk (laD wk dr)))) zbd_n 1 1 (wnI nnw nwn) (sdF cs (txV bb sz wk (laD wk dr))) (crH gr ki ma hd (laD wk dr) (sdF cs (txV bb sz wk (laD wk dr)))) lo2_n nwi ntr nbg now_ nis nbo nsz nnu ?_ ?_ hPe (bk_next hBk hw4 (dT_lt z K) _ _ _) hBo hLk (ru_pot hRu _) hKp hTp hSh ⟨Or.inl rfl, Or.inl rfl⟩ ⟨Or.inl ⟨rfl, Or.inl rfl⟩, Or.inl (wnI_1 _)⟩⟩
    · simp only [e1, e2, xW, nW, xSet, List.set_cons_zero, List.set_cons_succ, nI_zero]
    · simp only [xW, nW, xSet, List.set_cons_zero, List.set_cons_succ, nI_zero]

set_option maxRecDepth 100000 in
set_option maxHeartbeats 4000000 in
theorem pr_told_b (l : Launch) (g : XG) (a b : Nat → Nat) (gr wk br cs lk sz : Nat) (z : Int32) (ru ki ma bp bt bb hd dr : Nat → Nat) (co ce : Nat → Int32) (kgr kwk kbr kcs klk ksz : Nat) (kz : Int32) (kru kki kma kbp kbt kbb khd kdr : Nat → Nat) (kco kce : Nat → Int32) (kp : Int32) (nkf : Nat → Int32) (ts : Nat) (fi tb bo : Nat → Nat) (rn0 rc0 ra0 : Nat) (rft : Int32) (f0 : Nat → Int32) (tot lat : Nat) (se sw : Int32) (sd li th tw cr by_ : Nat → Nat) (va su : Nat → Int64) (mk : Nat → Nat) (sk : Nat → Int32) (wsm : Nat → Int64) (tk : Nat → Nat) (shF : Nat → Option Nat) (sb sn : Nat → Nat) (sv : Nat → Nat → Int64) (nta nop npr nac : Nat) (nbd nnw nsn nwn : Int32) (nli nal nlo nwi ntr nbg now_ : Nat → Nat) (nis nbo : Nat → Int32) (nsz : Nat → Nat) (nnu : Nat → Int64) (hPe : PeI gr ki ma) (hBk : BkI wk ce dr) (hBo : BoI br bp bt hd) (hLk : LkI cs co lk sz bb) (hRu : RuI ru) (hKp : KpI kp nkf kgr kwk kbr kcs klk ksz kz kru kki kma kbp kbt kbb khd kdr kco kce) (hTp : TpI ts tb bo) (hSh : ShI a shF sb sn sv nbo nsz nnu) (hCr : CrI gr wk br cs sz ki ma bp bt bb dr tot lat se sw sd cr th tw) (hRf : RfI gr wk cs sz ki ma hd bb dr nnw nsn nwn nli nal nlo nwi nac) (x : Int32) (hb : isRowI x.toInt64 = 0) : PairP l g yX8_told cX8_told 2 (some .int) [.ref ((a 0)), .int x] yX9_told cX9_told 2 (some .int) [.ref ((b 0)), .int x] (xW g a gr wk br cs z ru ki ma bp bt co ce kgr kwk kbr kcs kz kru kki kma kbp kbt kco kce kp ts fi tb bo rn0 rc0 ra0 rft f0 tot lat se sw sd li th tw cr by_ va su mk sk wsm tk shF sb sn sv) (nW g b gr wk lk sz br z ru ki ma bb ce hd kp nkf ts fi tb nta nop npr nac nbd nnw nsn nwn nli nal nlo nwi ntr nbg now_ nis nbo nsz nnu) (Rel g a b) := by
  have hgr := hPe.1
  have hki := hPe.2.1
  have hma := hPe.2.2
  have hwk := hBk.1
  have hlat := core_lat hBk
  have hL := core_L hBk
  have hbr := hBo.1
  have hbp := hBo.2.1
  have hbt := hBo.2.2.1
  have hhd := hBo.2.2.2.2.2.2
  have hcs := hLk.1
  have hsz := hLk.2.1
  have hbb := hLk.2.2.1
  have hlk := lk_le hLk
  have hV : cs ≠ 0 → ∀ p, p < 495 → evR (nmI wk (laD wk dr) p) (cdF co 0 cs) [] = some [(txV bb sz wk (laD wk dr)) p] := fun q p _ => hLk.2.2.2.2 q wk (laD wk dr) p
  have hse := hCr.1
  have hsw := hCr.2
  have hsd := sdD_le cs bb sz wk (laD wk dr)
  have hsv : ∀ p, p < 495 → sdF cs (txV bb sz wk (laD wk dr)) p = if lk = 1 then clN (txV bb sz wk (laD wk dr) p) else 1 := fun p _ => lk_sd hLk _ _ p
  have hwo := hRf.1
  have hwc := hRf.2
  have htot := to_lt hPe hBo (laD wk dr) (sdF cs (txV bb sz wk (laD wk dr)))
  have e1 := cr_eq hBo gr ki ma (laD wk dr) (sdF cs (txV bb sz wk (laD wk dr)))
  have e2 := to_eq hBo gr ki ma (laD wk dr) (sdF cs (txV bb sz wk (laD wk dr)))
  have hts := hTp.1
  have htb := hTp.2.1
  have hbo := hTp.2.2
  refine ⟨.int (fndI 0), 10, 30, _, _, by decide, by decide, Or.inl ⟨rfl, _, rfl⟩, Ct.sub [0, 49, 1] rfl rfl ?_ (ct_told_b l g (a 0) (a 1) (a 9) (a 17) (a 24) (a 33) (a 36) (a 39) (a 40) (a 49) ts kp (a 2) (a 3) (a 4) (a 5) (a 6) (a 7) (a 8) gr br cs wk z fi x (hb)), Ct.sub [0, 3, 5, 1] rfl rfl ?_ (ct_ntold_b l g (b 0) (b 1) (b 2) (b 3) (b 4) (b 5) (b 6) (b 7) (b 8) (b 9) (b 10) (b 11) (b 12) (b 13) (b 14) (b 15) (b 16) (b 17) (b 18) (b 19) ts nta nop npr nac kp nbd 0 nnw nsn nwn fi gr wk lk sz br z ru ki ma bb hd ce x (hb)), ?_⟩
  · rintro v w ⟨rfl, rfl⟩; rfl
  · rintro v w ⟨rfl, rfl⟩; rfl
  · rintro v1 w1 v2 w2 ⟨wq1, ⟨rfl, rfl⟩, rfl⟩ ⟨wq2, ⟨rfl, rfl⟩, rfl⟩
    refine ⟨rfl, rfl, rel_mk g a b gr wk br cs lk sz z ru ki ma bp bt bb hd dr co ce kgr kwk kbr kcs klk ksz kz kru kki kma kbp kbt kbb khd kdr kco kce kp nkf ts (updN fi 0 (fi 0 + 1)) tb bo rn0 rc0 ra0 rft f0 tot lat se sw sd li th tw cr by_ va su mk sk wsm tk shF sb sn sv nta nop npr nac nbd nnw nsn nwn nli nal nlo nwi ntr nbg now_ nis nbo nsz nnu ?_ ?_ hPe hBk hBo hLk hRu hKp hTp hSh hCr hRf⟩
    · simp only [e1, e2, xW, nW, xSet, List.set_cons_zero, List.set_cons_succ, nI_zero]
    · simp only [xW, nW, xSet, List.set_cons_zero, List.set_cons_succ, nI_zero]

set_option maxRecDepth 100000 in
set_option maxHeartbeats 4000000 in
theorem pr_told_f (l : Launch) (g : XG) (a b : Nat → Nat) (gr wk br cs lk sz : Nat) (z : Int32) (ru ki ma bp bt bb hd dr : Nat → Nat) (co ce : Nat → Int32) (kgr kwk kbr kcs klk ksz : Nat) (kz : Int32) (kru kki kma kbp kbt kbb khd kdr : Nat → Nat) (kco kce : Nat → Int32) (kp : Int32) (nkf : Nat → Int32) (ts : Nat) (fi tb bo : Nat → Nat) (rn0 rc0 ra0 : Nat) (rft : Int32) (f0 : Nat → Int32) (tot lat : Nat) (se sw : Int32) (sd li th tw cr by_ : Nat → Nat) (va su : Nat → Int64) (mk : Nat → Nat) (sk : Nat → Int32) (wsm : Nat → Int64) (tk : Nat → Nat) (shF : Nat → Option Nat) (sb sn : Nat → Nat) (sv : Nat → Nat → Int64) (nta nop npr nac : Nat) (nbd nnw nsn nwn : Int32) (nli nal nlo nwi ntr nbg now_ : Nat → Nat) (nis nbo : Nat → Int32) (nsz : Nat → Nat) (nnu : Nat → Int64) (hPe : PeI gr ki ma) (hBk : BkI wk ce dr) (hBo : BoI br bp bt hd) (hLk : LkI cs co lk sz bb) (hRu : RuI ru) (hKp : KpI kp nkf kgr kwk kbr kcs klk ksz kz kru kki kma kbp kbt kbb khd kdr kco kce) (hTp : TpI ts tb bo) (hSh : ShI a shF sb sn sv nbo nsz nnu) (hCr : CrI gr wk br cs sz ki ma bp bt bb dr tot lat se sw sd cr th tw) (hRf : RfI gr wk cs sz ki ma hd bb dr nnw nsn nwn nli nal nlo nwi nac) (d : Nat) (hr : d < 4096) (hp : popN d = 4) (ho : isRowI (nI d).toInt64 = 1) (hw : wk = 40) : PairP l g yX8_told cX8_told 2 (some .int) [.ref ((a 0)), .int (nI d)] yX9_told cX9_told 2 (some .int) [.ref ((b 0)), .int (nI d)] (xW g a gr wk br cs z ru ki ma bp bt co ce kgr kwk kbr kcs kz kru kki kma kbp kbt kco kce kp ts fi tb bo rn0 rc0 ra0 rft f0 tot lat se sw sd li th tw cr by_ va su mk sk wsm tk shF sb sn sv) (nW g b gr wk lk sz br z ru ki ma bb ce hd kp nkf ts fi tb nta nop npr nac nbd nnw nsn nwn nli nal nlo nwi ntr nbg now_ nis nbo nsz nnu) (Rel g a b) := by
  have hgr := hPe.1
  have hki := hPe.2.1
  have hma := hPe.2.2
  have hwk := hBk.1
  have hlat := core_lat hBk
  have hL := core_L hBk
  have hbr := hBo.1
  have hbp := hBo.2.1
  have hbt := hBo.2.2.1
  have hhd := hBo.2.2.2.2.2.2
  have hcs := hLk.1
  have hsz := hLk.2.1
  have hbb := hLk.2.2.1
  have hlk := lk_le hLk
  have hV : cs ≠ 0 → ∀ p, p < 495 → evR (nmI wk (laD wk dr) p) (cdF co 0 cs) [] = some [(txV bb sz wk (laD wk dr)) p] := fun q p _ => hLk.2.2.2.2 q wk (laD wk dr) p
  have hse := hCr.1
  have hsw := hCr.2
  have hsd := sdD_le cs bb sz wk (laD wk dr)
  have hsv : ∀ p, p < 495 → sdF cs (txV bb sz wk (laD wk dr)) p = if lk = 1 then clN (txV bb sz wk (laD wk dr) p) else 1 := fun p _ => lk_sd hLk _ _ p
  have hwo := hRf.1
  have hwc := hRf.2
  have htot := to_lt hPe hBo (laD wk dr) (sdF cs (txV bb sz wk (laD wk dr)))
  have e1 := cr_eq hBo gr ki ma (laD wk dr) (sdF cs (txV bb sz wk (laD wk dr)))
  have e2 := to_eq hBo gr ki ma (laD wk dr) (sdF cs (txV bb sz wk (laD wk dr)))
  have hts := hTp.1
  have htb := hTp.2.1
  have hbo := hTp.2.2
  refine ⟨.int (fndI 1), 10, 34, _, _, by decide, by decide, Or.inl ⟨rfl, _, rfl⟩, Ct.sub [0, 49, 1] rfl rfl ?_ (ct_told_f l g (a 0) (a 1) (a 9) (a 17) (a 24) (a 33) (a 36) (a 39) (a 40) (a 49) ts kp (a 2) (a 3) (a 4) (a 5) (a 6) (a 7) (a 8) gr br cs wk z fi d (ho) (hw)), Ct.sub [0, 3, 5, 1] rfl rfl ?_ (ct_ntold_f l g (b 0) (b 1) (b 2) (b 3) (b 4) (b 5) (b 6) (b 7) (b 8) (b 9) (b 10) (b 11) (b 12) (b 13) (b 14) (b 15) (b 16) (b 17) (b 18) (b 19) ts nta nop npr nac kp nbd 0 nnw nsn nwn fi gr wk lk sz br z ru ki ma bb hd ce d (hr) (hp) (hw)), ?_⟩
  · rintro v w ⟨rfl, rfl⟩; rfl
  · rintro v w ⟨rfl, rfl⟩; rfl
  · rintro v1 w1 v2 w2 ⟨wq1, ⟨rfl, rfl⟩, rfl⟩ ⟨wq2, ⟨rfl, rfl⟩, rfl⟩
    refine ⟨rfl, rfl, rel_mk g a b gr wk br cs lk sz z ru ki ma bp bt bb hd dr co ce kgr kwk kbr kcs klk ksz kz kru kki kma kbp kbt kbb khd kdr kco kce kp nkf ts (updN fi 1 (fi 1 + 1)) tb bo rn0 rc0 ra0 rft f0 tot lat se sw sd li th tw cr by_ va su mk sk wsm tk shF sb sn sv nta nop npr nac nbd nnw nsn nwn nli nal nlo nwi ntr nbg now_ nis nbo nsz nnu ?_ ?_ hPe hBk hBo hLk hRu hKp hTp hSh hCr hRf⟩
    · simp only [e1, e2, xW, nW, xSet, List.set_cons_zero, List.set_cons_succ, nI_zero]
    · simp only [xW, nW, xSet, List.set_cons_zero, List.set_cons_succ, nI_zero]

set_option maxRecDepth 100000 in
set_option maxHeartbeats 4000000 in
theorem pr_told_o (l : Launch) (g : XG) (a b : Nat → Nat) (gr wk br cs lk sz : Nat) (z : Int32) (ru ki ma bp bt bb hd dr : Nat → Nat) (co ce : Nat → Int32) (kgr kwk kbr kcs klk ksz : Nat) (kz : Int32) (kru kki kma kbp kbt kbb khd kdr : Nat → Nat) (kco kce : Nat → Int32) (kp : Int32) (nkf : Nat → Int32) (ts : Nat) (fi tb bo : Nat → Nat) (rn0 rc0 ra0 : Nat) (rft : Int32) (f0 : Nat → Int32) (tot lat : Nat) (se sw : Int32) (sd li th tw cr by_ : Nat → Nat) (va su : Nat → Int64) (mk : Nat → Nat) (sk : Nat → Int32) (wsm : Nat → Int64) (tk : Nat → Nat) (shF : Nat → Option Nat) (sb sn : Nat → Nat) (sv : Nat → Nat → Int64) (nta nop npr nac : Nat) (nbd nnw nsn nwn : Int32) (nli nal nlo nwi ntr nbg now_ : Nat → Nat) (nis nbo : Nat → Int32) (nsz : Nat → Nat) (nnu : Nat → Int64) (hPe : PeI gr ki ma) (hBk : BkI wk ce dr) (hBo : BoI br bp bt hd) (hLk : LkI cs co lk sz bb) (hRu : RuI ru) (hKp : KpI kp nkf kgr kwk kbr kcs klk ksz kz kru kki kma kbp kbt kbb khd kdr kco kce) (hTp : TpI ts tb bo) (hSh : ShI a shF sb sn sv nbo nsz nnu) (hCr : CrI gr wk br cs sz ki ma bp bt bb dr tot lat se sw sd cr th tw) (hRf : RfI gr wk cs sz ki ma hd bb dr nnw nsn nwn nli nal nlo nwi nac) (d : Nat) (hdd : d < 4096) (hp : popN d = 4) (ho : isRowI (nI d).toInt64 = 1) (hw4 : wk < 40) : PairP l g yX8_told cX8_told 2 (some .int) [.ref ((a 0)), .int (nI d)] yX9_told cX9_told 2 (some .int) [.ref ((b 0)), .int (nI d)] (xW g a gr wk br cs z ru ki ma bp bt co ce kgr kwk kbr kcs kz kru kki kma kbp kbt kco kce kp ts fi tb bo rn0 rc0 ra0 rft f0 tot lat se sw sd li th tw cr by_ va su mk sk wsm tk shF sb sn sv) (nW g b gr wk lk sz br z ru ki ma bb ce hd kp nkf ts fi tb nta nop npr nac nbd nnw nsn nwn nli nal nlo nwi ntr nbg now_ nis nbo nsz nnu) (Rel g a b) := by
  have hgr := hPe.1
  have hki := hPe.2.1
  have hma := hPe.2.2
  have hwk := hBk.1
  have hlat := core_lat hBk
  have hL := core_L hBk
  have hbr := hBo.1
  have hbp := hBo.2.1
  have hbt := hBo.2.2.1
  have hhd := hBo.2.2.2.2.2.2
  have hcs := hLk.1
  have hsz := hLk.2.1
  have hbb := hLk.2.2.1
  have hlk := lk_le hLk
  have hV : cs ≠ 0 → ∀ p, p < 495 → evR (nmI wk (laD wk dr) p) (cdF co 0 cs) [] = some [(txV bb sz wk (laD wk dr)) p] := fun q p _ => hLk.2.2.2.2 q wk (laD wk dr) p
  have hse := hCr.1
  have hsw := hCr.2
  have hsd := sdD_le cs bb sz wk (laD wk dr)
  have hsv : ∀ p, p < 495 → sdF cs (txV bb sz wk (laD wk dr)) p = if lk = 1 then clN (txV bb sz wk (laD wk dr) p) else 1 := fun p _ => lk_sd hLk _ _ p
  have hwo := hRf.1
  have hwc := hRf.2
  have htot := to_lt hPe hBo (laD wk dr) (sdF cs (txV bb sz wk (laD wk dr)))
  have e1 := cr_eq hBo gr ki ma (laD wk dr) (sdF cs (txV bb sz wk (laD wk dr)))
  have e2 := to_eq hBo gr ki ma (laD wk dr) (sdF cs (txV bb sz wk (laD wk dr)))
  have hts := hTp.1
  have htb := hTp.2.1
  have hbo := hTp.2.2
  refine ⟨.int (wkCells ce wk ru (totF gr ki ma bp bt br (laD wk dr) (sdF cs (txV bb sz wk (laD wk dr)))) (crF gr ki ma bp bt br (laD wk dr) (sdF cs (txV bb sz wk (laD wk dr)))) d ((wk + 1 - 1) * 8 + 1)), 10, 34, _, _, by decide, by decide, Or.inl ⟨rfl, _, rfl⟩, Ct.sub [0, 24, 25, 26, 29, 17, 18, 19, 31, 32, 1, 2, 3, 4, 5, 6, 8, 7, 30] rfl rfl ?_ (ct_told_o l g (a 0) (a 9) (a 33) (a 36) (a 39) (a 40) (a 49) ts kp (a 24) (a 1) (a 17) (a 31) (a 20) (a 25) (a 26) (a 27) (a 28) (a 29) (a 30) tot lat se sw (a 18) (a 19) (a 32) (a 2) (a 3) (a 4) (a 5) (a 6) (a 7) (a 8) gr br cs wk z sd li cr ki ma bp bt co ce sk (txV bb sz wk (laD wk dr)) (laD wk dr) ru by_ d (hgr) (hbr) (hcs) (hwk) (hki) (hma) (hbp) (hlat) (hL) (hV) (hse) (hw4) (hdd) (ho)), Ct.sub [0, 1, 8, 7, 4, 6, 12, 13, 14, 5] rfl rfl ?_ (ct_ntold_o l g (b 0) (b 1) (b 2) (b 3) (b 4) (b 5) (b 6) (b 7) (b 8) (b 9) (b 10) (b 11) (b 12) (b 13) (b 14) (b 15) (b 16) (b 17) (b 18) (b 19) ts nta nop npr nac kp nbd nnw nsn nwn gr wk lk sz br z ru ki ma bb hd ce tb nli nal nlo (sdF cs (txV bb sz wk (laD wk dr))) (laD wk dr) d (hgr) (hki) (hma) (hwk) (hlat) (hL) (hsz) (hbb) (hsd) (hsv) (hlk) (hwo) (hdd) (hp) (hw4) (htot)), ?_⟩
  · rintro v w ⟨li2_x, sk2_x, rfl, rfl⟩; rfl
  · rintro v w ⟨zat_n, zop_n, zbd_n, zpr_n, lo2_n, rfl, rfl, P0n⟩; rfl
  · rintro v1 w1 v2 w2 ⟨wq1, ⟨li2_x, sk2_x, rfl, rfl⟩, rfl⟩ ⟨wq2, ⟨zat_n, zop_n, zbd_n, zpr_n, lo2_n, rfl, rfl, P0n⟩, rfl⟩
    refine ⟨rfl, by rw [e1, e2, Nat.mul_comm 8], rel_mk g a b gr (wk + 1) br cs lk sz z (updN ru 7 (potE (wkLeft ru (toH gr ki ma hd (laD wk dr) (sdF cs (txV bb sz wk (laD wk dr)))) (crH gr ki ma hd (laD wk dr) (sdF cs (txV bb sz wk (laD wk dr)))) d))) ki ma bp bt bb hd (updN dr wk d) co (wkCells ce wk ru (toH gr ki ma hd (laD wk dr) (sdF cs (txV bb sz wk (laD wk dr)))) (crH gr ki ma hd (laD wk dr) (sdF cs (txV bb sz wk (laD wk dr)))) d) kgr kwk kbr kcs klk ksz kz kru kki kma kbp kbt kbb khd kdr kco kce kp nkf ts fi tb bo rn0 rc0 ra0 rft f0 (totF gr ki ma bp bt br (laD wk dr) (sdF cs (txV bb sz wk (laD wk dr)))) (laD wk dr) 0 0 (sdF cs (txV bb sz wk (laD wk dr))) li2_x th tw (crF gr ki ma bp bt br (laD wk dr) (sdF cs (txV bb sz wk (laD wk dr)))) (winN (crF gr ki ma bp bt br (laD wk dr) (sdF cs (txV bb sz wk (laD wk dr)))) d) va su mk sk2_x wsm tk shF sb sn sv zat_n zop_n zpr_n (toH gr ki ma hd (laD wk dr) (sdF cs (txV bb sz wk (laD wk dr)))) zbd_n 1 1 (wnI nnw nwn) (sdF cs (txV bb sz wk (laD wk dr))) (crH gr ki ma hd (laD wk dr) (sdF cs (txV bb sz wk (laD wk dr)))) lo2_n nwi ntr nbg now_ nis nbo nsz nnu ?_ ?_ hPe (bk_next hBk hw4 hdd _ _ _) hBo hLk (ru_pot hRu _) hKp hTp hSh ⟨Or.inl rfl, Or.inl rfl⟩ ⟨Or.inl ⟨rfl, Or.inl rfl⟩, Or.inl (wnI_1 _)⟩⟩
    · simp only [e1, e2, xW, nW, xSet, List.set_cons_zero, List.set_cons_succ, nI_zero]
    · simp only [xW, nW, xSet, List.set_cons_zero, List.set_cons_succ, nI_zero]

set_option maxRecDepth 100000 in
set_option maxHeartbeats 4000000 in
theorem pr_book_b (l : Launch) (g : XG) (a b : Nat → Nat) (gr wk br cs lk sz : Nat) (z : Int32) (ru ki ma bp bt bb hd dr : Nat → Nat) (co ce : Nat → Int32) (kgr kwk kbr kcs klk ksz : Nat) (kz : Int32) (kru kki kma kbp kbt kbb khd kdr : Nat → Nat) (kco kce : Nat → Int32) (kp : Int32) (nkf : Nat → Int32) (ts : Nat) (fi tb bo : Nat → Nat) (rn0 rc0 ra0 : Nat) (rft : Int32) (f0 : Nat → Int32) (tot lat : Nat) (se sw : Int32) (sd li th tw cr by_ : Nat → Nat) (va su : Nat → Int64) (mk : Nat → Nat) (sk : Nat → Int32) (wsm : Nat → Int64) (tk : Nat → Nat) (shF : Nat → Option Nat) (sb sn : Nat → Nat) (sv : Nat → Nat → Int64) (nta nop npr nac : Nat) (nbd nnw nsn nwn : Int32) (nli nal nlo nwi ntr nbg now_ : Nat → Nat) (nis nbo : Nat → Int32) (nsz : Nat → Nat) (nnu : Nat → Int64) (hPe : PeI gr ki ma) (hBk : BkI wk ce dr) (hBo : BoI br bp bt hd) (hLk : LkI cs co lk sz bb) (hRu : RuI ru) (hKp : KpI kp nkf kgr kwk kbr kcs klk ksz kz kru kki kma kbp kbt kbb khd kdr kco kce) (hTp : TpI ts tb bo) (hSh : ShI a shF sb sn sv nbo nsz nnu) (hCr : CrI gr wk br cs sz ki ma bp bt bb dr tot lat se sw sd cr th tw) (hRf : RfI gr wk cs sz ki ma hd bb dr nnw nsn nwn nli nal nlo nwi nac) (wq wh : Int32) (hb : wI wq 0 (nI wk - 1) = 0 ∨ wI wh 0 7 = 0) : PairP l g yX8_book cX8_book 3 (some .int) [.ref ((a 0)), .int wq, .int wh] yX9_book cX9_book 3 (some .int) [.ref ((b 0)), .int wq, .int wh] (xW g a gr wk br cs z ru ki ma bp bt co ce kgr kwk kbr kcs kz kru kki kma kbp kbt kco kce kp ts fi tb bo rn0 rc0 ra0 rft f0 tot lat se sw sd li th tw cr by_ va su mk sk wsm tk shF sb sn sv) (nW g b gr wk lk sz br z ru ki ma bb ce hd kp nkf ts fi tb nta nop npr nac nbd nnw nsn nwn nli nal nlo nwi ntr nbg now_ nis nbo nsz nnu) (Rel g a b) := by
  have hgr := hPe.1
  have hki := hPe.2.1
  have hma := hPe.2.2
  have hwk := hBk.1
  have hlat := core_lat hBk
  have hL := core_L hBk
  have hbr := hBo.1
  have hbp := hBo.2.1
  have hbt := hBo.2.2.1
  have hhd := hBo.2.2.2.2.2.2
  have hcs := hLk.1
  have hsz := hLk.2.1
  have hbb := hLk.2.2.1
  have hlk := lk_le hLk
  have hV : cs ≠ 0 → ∀ p, p < 495 → evR (nmI wk (laD wk dr) p) (cdF co 0 cs) [] = some [(txV bb sz wk (laD wk dr)) p] := fun q p _ => hLk.2.2.2.2 q wk (laD wk dr) p
  have hse := hCr.1
  have hsw := hCr.2
  have hsd := sdD_le cs bb sz wk (laD wk dr)
  have hsv : ∀ p, p < 495 → sdF cs (txV bb sz wk (laD wk dr)) p = if lk = 1 then clN (txV bb sz wk (laD wk dr) p) else 1 := fun p _ => lk_sd hLk _ _ p
  have hwo := hRf.1
  have hwc := hRf.2
  have htot := to_lt hPe hBo (laD wk dr) (sdF cs (txV bb sz wk (laD wk dr)))
  have e1 := cr_eq hBo gr ki ma (laD wk dr) (sdF cs (txV bb sz wk (laD wk dr)))
  have e2 := to_eq hBo gr ki ma (laD wk dr) (sdF cs (txV bb sz wk (laD wk dr)))
  have hts := hTp.1
  have htb := hTp.2.1
  have hbo := hTp.2.2
  refine ⟨.int (fndI 0), 10, 34, _, _, by decide, by decide, Or.inl ⟨rfl, _, rfl⟩, Ct.sub [0, 49, 1] rfl rfl ?_ (ct_book_b l g (a 0) (a 1) (a 9) (a 17) (a 24) (a 33) (a 36) (a 39) (a 40) (a 49) ts kp (a 2) (a 3) (a 4) (a 5) (a 6) (a 7) (a 8) gr br cs wk z fi wq wh (hb)), Ct.sub [0, 3, 1] rfl rfl ?_ (ct_nbook_b l g (b 0) (b 1) (b 2) (b 3) (b 4) (b 5) (b 6) (b 7) (b 8) (b 9) (b 10) (b 11) (b 12) (b 13) (b 14) (b 15) (b 16) (b 17) (b 18) (b 19) ts nta nop npr nac kp nbd 0 nnw nsn nwn fi wq wh gr wk lk sz br z ru ki ma bb hd ce (hb)), ?_⟩
  · rintro v w ⟨rfl, rfl⟩; rfl
  · rintro v w ⟨rfl, rfl⟩; rfl
  · rintro v1 w1 v2 w2 ⟨wq1, ⟨rfl, rfl⟩, rfl⟩ ⟨wq2, ⟨rfl, rfl⟩, rfl⟩
    refine ⟨rfl, rfl, rel_mk g a b gr wk br cs lk sz z ru ki ma bp bt bb hd dr co ce kgr kwk kbr kcs klk ksz kz kru kki kma kbp kbt kbb khd kdr kco kce kp nkf ts (updN fi 0 (fi 0 + 1)) tb bo rn0 rc0 ra0 rft f0 tot lat se sw sd li th tw cr by_ va su mk sk wsm tk shF sb sn sv nta nop npr nac nbd nnw nsn nwn nli nal nlo nwi ntr nbg now_ nis nbo nsz nnu ?_ ?_ hPe hBk hBo hLk hRu hKp hTp hSh hCr hRf⟩
    · simp only [e1, e2, xW, nW, xSet, List.set_cons_zero, List.set_cons_succ, nI_zero]
    · simp only [xW, nW, xSet, List.set_cons_zero, List.set_cons_succ, nI_zero]

set_option maxRecDepth 100000 in
set_option maxHeartbeats 4000000 in
theorem pr_book_o (l : Launch) (g : XG) (a b : Nat → Nat) (gr wk br cs lk sz : Nat) (z : Int32) (ru ki ma bp bt bb hd dr : Nat → Nat) (co ce : Nat → Int32) (kgr kwk kbr kcs klk ksz : Nat) (kz : Int32) (kru kki kma kbp kbt kbb khd kdr : Nat → Nat) (kco kce : Nat → Int32) (kp : Int32) (nkf : Nat → Int32) (ts : Nat) (fi tb bo : Nat → Nat) (rn0 rc0 ra0 : Nat) (rft : Int32) (f0 : Nat → Int32) (tot lat : Nat) (se sw : Int32) (sd li th tw cr by_ : Nat → Nat) (va su : Nat → Int64) (mk : Nat → Nat) (sk : Nat → Int32) (wsm : Nat → Int64) (tk : Nat → Nat) (shF : Nat → Option Nat) (sb sn : Nat → Nat) (sv : Nat → Nat → Int64) (nta nop npr nac : Nat) (nbd nnw nsn nwn : Int32) (nli nal nlo nwi ntr nbg now_ : Nat → Nat) (nis nbo : Nat → Int32) (nsz : Nat → Nat) (nnu : Nat → Int64) (hPe : PeI gr ki ma) (hBk : BkI wk ce dr) (hBo : BoI br bp bt hd) (hLk : LkI cs co lk sz bb) (hRu : RuI ru) (hKp : KpI kp nkf kgr kwk kbr kcs klk ksz kz kru kki kma kbp kbt kbb khd kdr kco kce) (hTp : TpI ts tb bo) (hSh : ShI a shF sb sn sv nbo nsz nnu) (hCr : CrI gr wk br cs sz ki ma bp bt bb dr tot lat se sw sd cr th tw) (hRf : RfI gr wk cs sz ki ma hd bb dr nnw nsn nwn nli nal nlo nwi nac) (w q : Nat) (hw : w < wk ∧ wk ≤ 40) (hq : q < 8) : PairP l g yX8_book cX8_book 3 (some .int) [.ref ((a 0)), .int (nI w), .int (nI q)] yX9_book cX9_book 3 (some .int) [.ref ((b 0)), .int (nI w), .int (nI q)] (xW g a gr wk br cs z ru ki ma bp bt co ce kgr kwk kbr kcs kz kru kki kma kbp kbt kco kce kp ts fi tb bo rn0 rc0 ra0 rft f0 tot lat se sw sd li th tw cr by_ va su mk sk wsm tk shF sb sn sv) (nW g b gr wk lk sz br z ru ki ma bb ce hd kp nkf ts fi tb nta nop npr nac nbd nnw nsn nwn nli nal nlo nwi ntr nbg now_ nis nbo nsz nnu) (Rel g a b) := by
  have hgr := hPe.1
  have hki := hPe.2.1
  have hma := hPe.2.2
  have hwk := hBk.1
  have hlat := core_lat hBk
  have hL := core_L hBk
  have hbr := hBo.1
  have hbp := hBo.2.1
  have hbt := hBo.2.2.1
  have hhd := hBo.2.2.2.2.2.2
  have hcs := hLk.1
  have hsz := hLk.2.1
  have hbb := hLk.2.2.1
  have hlk := lk_le hLk
  have hV : cs ≠ 0 → ∀ p, p < 495 → evR (nmI wk (laD wk dr) p) (cdF co 0 cs) [] = some [(txV bb sz wk (laD wk dr)) p] := fun q p _ => hLk.2.2.2.2 q wk (laD wk dr) p
  have hse := hCr.1
  have hsw := hCr.2
  have hsd := sdD_le cs bb sz wk (laD wk dr)
  have hsv : ∀ p, p < 495 → sdF cs (txV bb sz wk (laD wk dr)) p = if lk = 1 then clN (txV bb sz wk (laD wk dr) p) else 1 := fun p _ => lk_sd hLk _ _ p
  have hwo := hRf.1
  have hwc := hRf.2
  have htot := to_lt hPe hBo (laD wk dr) (sdF cs (txV bb sz wk (laD wk dr)))
  have e1 := cr_eq hBo gr ki ma (laD wk dr) (sdF cs (txV bb sz wk (laD wk dr)))
  have e2 := to_eq hBo gr ki ma (laD wk dr) (sdF cs (txV bb sz wk (laD wk dr)))
  have hts := hTp.1
  have htb := hTp.2.1
  have hbo := hTp.2.2
  refine ⟨.int (ce (w * 8 + q)), 10, 34, _, _, by decide, by decide, Or.inl ⟨rfl, _, rfl⟩, Ct.sub [0, 49, 1, 8] rfl rfl ?_ (ct_book_o l g (a 0) (a 1) (a 9) (a 17) (a 24) (a 33) (a 36) (a 39) (a 40) (a 49) ts kp (a 2) (a 3) (a 4) (a 5) (a 6) (a 7) (a 8) gr br cs wk z fi ce w q (hw) (hq)), Ct.sub [0, 3, 1] rfl rfl ?_ (ct_nbook_o l g (b 0) (b 1) (b 2) (b 3) (b 4) (b 5) (b 6) (b 7) (b 8) (b 9) (b 10) (b 11) (b 12) (b 13) (b 14) (b 15) (b 16) (b 17) (b 18) (b 19) ts nta nop npr nac kp nbd 0 nnw nsn nwn fi gr wk lk sz br z ru ki ma bb hd ce w q (hw) (hq)), ?_⟩
  · rintro v w ⟨rfl, rfl⟩; rfl
  · rintro v w ⟨rfl, rfl⟩; rfl
  · rintro v1 w1 v2 w2 ⟨wq1, ⟨rfl, rfl⟩, rfl⟩ ⟨wq2, ⟨rfl, rfl⟩, rfl⟩
    refine ⟨rfl, by rw [Nat.mul_comm 8], rel_mk g a b gr wk br cs lk sz z ru ki ma bp bt bb hd dr co ce kgr kwk kbr kcs klk ksz kz kru kki kma kbp kbt kbb khd kdr kco kce kp nkf ts fi tb bo rn0 rc0 ra0 rft f0 tot lat se sw sd li th tw cr by_ va su mk sk wsm tk shF sb sn sv nta nop npr nac nbd nnw nsn nwn nli nal nlo nwi ntr nbg now_ nis nbo nsz nnu ?_ ?_ hPe hBk hBo hLk hRu hKp hTp hSh hCr hRf⟩
    · simp only [e1, e2, xW, nW, xSet, List.set_cons_zero, List.set_cons_succ, nI_zero]
    · simp only [xW, nW, xSet, List.set_cons_zero, List.set_cons_succ, nI_zero]

set_option maxRecDepth 100000 in
set_option maxHeartbeats 4000000 in
theorem pr_now_o (l : Launch) (g : XG) (a b : Nat → Nat) (gr wk br cs lk sz : Nat) (z : Int32) (ru ki ma bp bt bb hd dr : Nat → Nat) (co ce : Nat → Int32) (kgr kwk kbr kcs klk ksz : Nat) (kz : Int32) (kru kki kma kbp kbt kbb khd kdr : Nat → Nat) (kco kce : Nat → Int32) (kp : Int32) (nkf : Nat → Int32) (ts : Nat) (fi tb bo : Nat → Nat) (rn0 rc0 ra0 : Nat) (rft : Int32) (f0 : Nat → Int32) (tot lat : Nat) (se sw : Int32) (sd li th tw cr by_ : Nat → Nat) (va su : Nat → Int64) (mk : Nat → Nat) (sk : Nat → Int32) (wsm : Nat → Int64) (tk : Nat → Nat) (shF : Nat → Option Nat) (sb sn : Nat → Nat) (sv : Nat → Nat → Int64) (nta nop npr nac : Nat) (nbd nnw nsn nwn : Int32) (nli nal nlo nwi ntr nbg now_ : Nat → Nat) (nis nbo : Nat → Int32) (nsz : Nat → Nat) (nnu : Nat → Int64) (hPe : PeI gr ki ma) (hBk : BkI wk ce dr) (hBo : BoI br bp bt hd) (hLk : LkI cs co lk sz bb) (hRu : RuI ru) (hKp : KpI kp nkf kgr kwk kbr kcs klk ksz kz kru kki kma kbp kbt kbb khd kdr kco kce) (hTp : TpI ts tb bo) (hSh : ShI a shF sb sn sv nbo nsz nnu) (hCr : CrI gr wk br cs sz ki ma bp bt bb dr tot lat se sw sd cr th tw) (hRf : RfI gr wk cs sz ki ma hd bb dr nnw nsn nwn nli nal nlo nwi nac) : PairP l g yX8_now cX8_now 1 (some .int) [.ref ((a 0))] yX9_now cX9_now 1 (some .int) [.ref ((b 0))] (xW g a gr wk br cs z ru ki ma bp bt co ce kgr kwk kbr kcs kz kru kki kma kbp kbt kco kce kp ts fi tb bo rn0 rc0 ra0 rft f0 tot lat se sw sd li th tw cr by_ va su mk sk wsm tk shF sb sn sv) (nW g b gr wk lk sz br z ru ki ma bb ce hd kp nkf ts fi tb nta nop npr nac nbd nnw nsn nwn nli nal nlo nwi ntr nbg now_ nis nbo nsz nnu) (Rel g a b) := by
  have hgr := hPe.1
  have hki := hPe.2.1
  have hma := hPe.2.2
  have hwk := hBk.1
  have hlat := core_lat hBk
  have hL := core_L hBk
  have hbr := hBo.1
  have hbp := hBo.2.1
  have hbt := hBo.2.2.1
  have hhd := hBo.2.2.2.2.2.2
  have hcs := hLk.1
  have hsz := hLk.2.1
  have hbb := hLk.2.2.1
  have hlk := lk_le hLk
  have hV : cs ≠ 0 → ∀ p, p < 495 → evR (nmI wk (laD wk dr) p) (cdF co 0 cs) [] = some [(txV bb sz wk (laD wk dr)) p] := fun q p _ => hLk.2.2.2.2 q wk (laD wk dr) p
  have hse := hCr.1
  have hsw := hCr.2
  have hsd := sdD_le cs bb sz wk (laD wk dr)
  have hsv : ∀ p, p < 495 → sdF cs (txV bb sz wk (laD wk dr)) p = if lk = 1 then clN (txV bb sz wk (laD wk dr) p) else 1 := fun p _ => lk_sd hLk _ _ p
  have hwo := hRf.1
  have hwc := hRf.2
  have htot := to_lt hPe hBo (laD wk dr) (sdF cs (txV bb sz wk (laD wk dr)))
  have e1 := cr_eq hBo gr ki ma (laD wk dr) (sdF cs (txV bb sz wk (laD wk dr)))
  have e2 := to_eq hBo gr ki ma (laD wk dr) (sdF cs (txV bb sz wk (laD wk dr)))
  have hts := hTp.1
  have htb := hTp.2.1
  have hbo := hTp.2.2
  refine ⟨.int ((wkPot ru (totF gr ki ma bp bt br (laD wk dr) (sdF cs (txV bb sz wk (laD wk dr))))).toInt32), 10, 34, _, _, by decide, by decide, Or.inl ⟨rfl, _, rfl⟩, Ct.sub [0, 24, 25, 26, 29, 17, 18, 19, 31, 32, 1, 2, 3, 4, 5, 6, 8, 7] rfl rfl ?_ (ct_now_o l g (a 0) (a 9) (a 33) (a 36) (a 39) (a 40) (a 49) ts kp (a 24) (a 1) (a 17) (a 31) (a 20) (a 25) (a 26) (a 27) (a 28) (a 29) (a 30) tot lat se sw (a 18) (a 19) (a 32) (a 2) (a 3) (a 4) (a 5) (a 6) (a 7) (a 8) gr br cs wk z sd li cr ki ma bp bt co ce sk (txV bb sz wk (laD wk dr)) (laD wk dr) ru (hgr) (hbr) (hcs) (hwk) (hki) (hma) (hbp) (hlat) (hL) (hV) (hse)), Ct.sub [0, 1, 8, 7, 4, 6, 12, 13, 14] rfl rfl ?_ (ct_nnow_o l g (b 0) (b 1) (b 2) (b 3) (b 4) (b 5) (b 6) (b 7) (b 8) (b 9) (b 10) (b 11) (b 12) (b 13) (b 14) (b 15) (b 16) (b 17) (b 18) (b 19) ts nta nop npr nac kp nbd nnw nsn nwn gr wk lk sz br z ru ki ma bb hd ce tb nli nal nlo (sdF cs (txV bb sz wk (laD wk dr))) (laD wk dr) (hgr) (hki) (hma) (hwk) (hlat) (hL) (hsz) (hbb) (hsd) (hsv) (hlk) (hwo)), ?_⟩
  · rintro v w ⟨li2_x, sk2_x, rfl, rfl⟩; rfl
  · rintro v w ⟨zat_n, zop_n, zbd_n, zpr_n, lo2_n, rfl, rfl, P0n⟩; rfl
  · rintro v1 w1 v2 w2 ⟨wq1, ⟨li2_x, sk2_x, rfl, rfl⟩, rfl⟩ ⟨wq2, ⟨zat_n, zop_n, zbd_n, zpr_n, lo2_n, rfl, rfl, P0n⟩, rfl⟩
    refine ⟨rfl, by rw [e2]; rfl, rel_mk g a b gr wk br cs lk sz z ru ki ma bp bt bb hd dr co ce kgr kwk kbr kcs klk ksz kz kru kki kma kbp kbt kbb khd kdr kco kce kp nkf ts fi tb bo rn0 rc0 ra0 rft f0 (totF gr ki ma bp bt br (laD wk dr) (sdF cs (txV bb sz wk (laD wk dr)))) (laD wk dr) 1 sw (sdF cs (txV bb sz wk (laD wk dr))) li2_x th tw (crF gr ki ma bp bt br (laD wk dr) (sdF cs (txV bb sz wk (laD wk dr)))) by_ va su mk sk2_x wsm tk shF sb sn sv zat_n zop_n zpr_n (toH gr ki ma hd (laD wk dr) (sdF cs (txV bb sz wk (laD wk dr)))) zbd_n 0 0 (wnI nnw nwn) (sdF cs (txV bb sz wk (laD wk dr))) (crH gr ki ma hd (laD wk dr) (sdF cs (txV bb sz wk (laD wk dr)))) lo2_n nwi ntr nbg now_ nis nbo nsz nnu ?_ ?_ hPe hBk hBo hLk hRu hKp hTp hSh ⟨Or.inr ⟨rfl, rfl, rfl, rfl, rfl⟩, hCr.2⟩ ⟨Or.inr ⟨rfl, rfl, rfl, rfl, rfl, P0n⟩, by rw [wnI_0]; exact hRf.2⟩⟩
    · simp only [e1, e2, xW, nW, xSet, List.set_cons_zero, List.set_cons_succ, nI_zero]
    · simp only [xW, nW, xSet, List.set_cons_zero, List.set_cons_succ, nI_zero]

set_option maxRecDepth 100000 in
set_option maxHeartbeats 4000000 in
theorem pm_week (l : Launch) (g : XG) (a b : Nat → Nat) {wX wM : va_W} (hR : Rel g a b wX wM) : PairP l g yX8_week cX8_week 2 (some .int) [.ref (a 0)] yX9_week cX9_week 2 (some .int) [.ref (b 0)] wX wM (Rel g a b) := by
  refine rel_elim hR (fun gr wk br cs lk sz z ru ki ma bp bt bb hd dr co ce kgr kwk kbr kcs klk ksz kz kru kki kma kbp kbt kbb khd kdr kco kce kp nkf ts fi tb bo rn0 rc0 ra0 rft f0 tot lat se sw sd li th tw cr by_ va su mk sk wsm tk shF sb sn sv nta nop npr nac nbd nnw nsn nwn nli nal nlo nwi ntr nbg now_ nis nbo nsz nnu hx hm hPe hBk hBo hLk hRu hKp hTp hSh hCr hRf => ?_)
  subst hx
  subst hm
  have hwk := hBk.1
  rcases (by omega : wk = 40 ∨ wk < 40) with h | h
  · exact pr_week_f l g a b gr wk br cs lk sz z ru ki ma bp bt bb hd dr co ce kgr kwk kbr kcs klk ksz kz kru kki kma kbp kbt kbb khd kdr kco kce kp nkf ts fi tb bo rn0 rc0 ra0 rft f0 tot lat se sw sd li th tw cr by_ va su mk sk wsm tk shF sb sn sv nta nop npr nac nbd nnw nsn nwn nli nal nlo nwi ntr nbg now_ nis nbo nsz nnu hPe hBk hBo hLk hRu hKp hTp hSh hCr hRf h
  · obtain ⟨K, h1, h2, h3⟩ := lots_K z
    exact pr_week_o l g a b gr wk br cs lk sz z ru ki ma bp bt bb hd dr co ce kgr kwk kbr kcs klk ksz kz kru kki kma kbp kbt kbb khd kdr kco kce kp nkf ts fi tb bo rn0 rc0 ra0 rft f0 tot lat se sw sd li th tw cr by_ va su mk sk wsm tk shF sb sn sv nta nop npr nac nbd nnw nsn nwn nli nal nlo nwi ntr nbg now_ nis nbo nsz nnu hPe hBk hBo hLk hRu hKp hTp hSh hCr hRf K h h1 h2 h3

set_option maxRecDepth 100000 in
set_option maxHeartbeats 4000000 in
theorem pm_told (l : Launch) (g : XG) (a b : Nat → Nat) {wX wM : va_W} (hR : Rel g a b wX wM) (x : Int32) : PairP l g yX8_told cX8_told 2 (some .int) [.ref (a 0), .int x] yX9_told cX9_told 2 (some .int) [.ref (b 0), .int x] wX wM (Rel g a b) := by
  refine rel_elim hR (fun gr wk br cs lk sz z ru ki ma bp bt bb hd dr co ce kgr kwk kbr kcs klk ksz kz kru kki kma kbp kbt kbb khd kdr kco kce kp nkf ts fi tb bo rn0 rc0 ra0 rft f0 tot lat se sw sd li th tw cr by_ va su mk sk wsm tk shF sb sn sv nta nop npr nac nbd nnw nsn nwn nli nal nlo nwi ntr nbg now_ nis nbo nsz nnu hx hm hPe hBk hBo hLk hRu hKp hTp hSh hCr hRf => ?_)
  subst hx
  subst hm
  have hwk := hBk.1
  by_cases h : isRowI x.toInt64 = 0
  · exact pr_told_b l g a b gr wk br cs lk sz z ru ki ma bp bt bb hd dr co ce kgr kwk kbr kcs klk ksz kz kru kki kma kbp kbt kbb khd kdr kco kce kp nkf ts fi tb bo rn0 rc0 ra0 rft f0 tot lat se sw sd li th tw cr by_ va su mk sk wsm tk shF sb sn sv nta nop npr nac nbd nnw nsn nwn nli nal nlo nwi ntr nbg now_ nis nbo nsz nnu hPe hBk hBo hLk hRu hKp hTp hSh hCr hRf x h
  · obtain ⟨h1, r, rfl, h2, h3⟩ := isRow_ok h
    rcases (by omega : wk = 40 ∨ wk < 40) with h4 | h4
    · exact pr_told_f l g a b gr wk br cs lk sz z ru ki ma bp bt bb hd dr co ce kgr kwk kbr kcs klk ksz kz kru kki kma kbp kbt kbb khd kdr kco kce kp nkf ts fi tb bo rn0 rc0 ra0 rft f0 tot lat se sw sd li th tw cr by_ va su mk sk wsm tk shF sb sn sv nta nop npr nac nbd nnw nsn nwn nli nal nlo nwi ntr nbg now_ nis nbo nsz nnu hPe hBk hBo hLk hRu hKp hTp hSh hCr hRf r h2 h3 h1 h4
    · exact pr_told_o l g a b gr wk br cs lk sz z ru ki ma bp bt bb hd dr co ce kgr kwk kbr kcs klk ksz kz kru kki kma kbp kbt kbb khd kdr kco kce kp nkf ts fi tb bo rn0 rc0 ra0 rft f0 tot lat se sw sd li th tw cr by_ va su mk sk wsm tk shF sb sn sv nta nop npr nac nbd nnw nsn nwn nli nal nlo nwi ntr nbg now_ nis nbo nsz nnu hPe hBk hBo hLk hRu hKp hTp hSh hCr hRf r h2 h3 h1 h4

set_option maxRecDepth 100000 in
set_option maxHeartbeats 4000000 in
theorem pm_book (l : Launch) (g : XG) (a b : Nat → Nat) {wX wM : va_W} (hR : Rel g a b wX wM) (x : Int32) (y : Int32) : PairP l g yX8_book cX8_book 3 (some .int) [.ref (a 0), .int x, .int y] yX9_book cX9_book 3 (some .int) [.ref (b 0), .int x, .int y] wX wM (Rel g a b) := by
  refine rel_elim hR (fun gr wk br cs lk sz z ru ki ma bp bt bb hd dr co ce kgr kwk kbr kcs klk ksz kz kru kki kma kbp kbt kbb khd kdr kco kce kp nkf ts fi tb bo rn0 rc0 ra0 rft f0 tot lat se sw sd li th tw cr by_ va su mk sk wsm tk shF sb sn sv nta nop npr nac nbd nnw nsn nwn nli nal nlo nwi ntr nbg now_ nis nbo nsz nnu hx hm hPe hBk hBo hLk hRu hKp hTp hSh hCr hRf => ?_)
  subst hx
  subst hm
  rcases wI_wk x hBk.1 with h | ⟨w, rfl, hw⟩
  · exact pr_book_b l g a b gr wk br cs lk sz z ru ki ma bp bt bb hd dr co ce kgr kwk kbr kcs klk ksz kz kru kki kma kbp kbt kbb khd kdr kco kce kp nkf ts fi tb bo rn0 rc0 ra0 rft f0 tot lat se sw sd li th tw cr by_ va su mk sk wsm tk shF sb sn sv nta nop npr nac nbd nnw nsn nwn nli nal nlo nwi ntr nbg now_ nis nbo nsz nnu hPe hBk hBo hLk hRu hKp hTp hSh hCr hRf x y (Or.inl h)
  rcases wI_cases y (a := 0) (b := 7) (by decide) (by decide) with h | ⟨q, rfl, -, hq⟩
  · exact pr_book_b l g a b gr wk br cs lk sz z ru ki ma bp bt bb hd dr co ce kgr kwk kbr kcs klk ksz kz kru kki kma kbp kbt kbb khd kdr kco kce kp nkf ts fi tb bo rn0 rc0 ra0 rft f0 tot lat se sw sd li th tw cr by_ va su mk sk wsm tk shF sb sn sv nta nop npr nac nbd nnw nsn nwn nli nal nlo nwi ntr nbg now_ nis nbo nsz nnu hPe hBk hBo hLk hRu hKp hTp hSh hCr hRf (nI w) y (Or.inr h)
  · exact pr_book_o l g a b gr wk br cs lk sz z ru ki ma bp bt bb hd dr co ce kgr kwk kbr kcs klk ksz kz kru kki kma kbp kbt kbb khd kdr kco kce kp nkf ts fi tb bo rn0 rc0 ra0 rft f0 tot lat se sw sd li th tw cr by_ va su mk sk wsm tk shF sb sn sv nta nop npr nac nbd nnw nsn nwn nli nal nlo nwi ntr nbg now_ nis nbo nsz nnu hPe hBk hBo hLk hRu hKp hTp hSh hCr hRf w q hw (by omega)

set_option maxRecDepth 100000 in
set_option maxHeartbeats 4000000 in
theorem pm_now (l : Launch) (g : XG) (a b : Nat → Nat) {wX wM : va_W} (hR : Rel g a b wX wM) : PairP l g yX8_now cX8_now 1 (some .int) [.ref (a 0)] yX9_now cX9_now 1 (some .int) [.ref (b 0)] wX wM (Rel g a b) := by
  refine rel_elim hR (fun gr wk br cs lk sz z ru ki ma bp bt bb hd dr co ce kgr kwk kbr kcs klk ksz kz kru kki kma kbp kbt kbb khd kdr kco kce kp nkf ts fi tb bo rn0 rc0 ra0 rft f0 tot lat se sw sd li th tw cr by_ va su mk sk wsm tk shF sb sn sv nta nop npr nac nbd nnw nsn nwn nli nal nlo nwi ntr nbg now_ nis nbo nsz nnu hx hm hPe hBk hBo hLk hRu hKp hTp hSh hCr hRf => ?_)
  subst hx
  subst hm
  exact pr_now_o l g a b gr wk br cs lk sz z ru ki ma bp bt bb hd dr co ce kgr kwk kbr kcs klk ksz kz kru kki kma kbp kbt kbb khd kdr kco kce kp nkf ts fi tb bo rn0 rc0 ra0 rft f0 tot lat se sw sd li th tw cr by_ va su mk sk wsm tk shF sb sn sv nta nop npr nac nbd nnw nsn nwn nli nal nlo nwi ntr nbg now_ nis nbo nsz nnu hPe hBk hBo hLk hRu hKp hTp hSh hCr hRf
