/-! ===== the calls by pairs: sheets ===== -/
theorem updN_id {f : Nat → Nat} {s x : Nat} (h : f s = x) : updN f s x = f := by
  funext j; unfold updN; split
  next e => rw [e, h]
  · rfl
theorem narRL {b : Nat} (hb : b = 8 ∨ b = 16 ∨ b = 64) (v : Int64) : narR (nI b) v = narL b v := by
  rcases hb with rfl | rfl | rfl <;> rfl
theorem sh_sheet {a : Nat → Nat} {shF : Nat → Option Nat} {sb sn : Nat → Nat} {sv : Nat → Nat → Int64} {nbo : Nat → Int32} {nsz : Nat → Nat} {nnu : Nat → Int64} (h : ShI a shF sb sn sv nbo nsz nnu) (s : Nat) {w n : Nat} (hw : w = 0 ∨ w = 8 ∨ w = 16 ∨ w = 64) (hn : n ≤ 40) : ShI a shF (updN sb s w) (updN sn s (layN w n)) (upW sv s (fun _ => 0)) (upd nbo s (if nI w = 0 then (-1) else nI w)) (updN nsz s (if w = 0 then 0 else n)) (fun j => if 40 * s ≤ j ∧ j < 40 * s + 40 then 0 else nnu j) := by
  refine ⟨h.1, fun t ht => ?_⟩
  obtain ⟨h1, h2, h3, h4, h5⟩ := h.2 t ht
  have h0 : nI w = 0 ↔ w = 0 := nI_eq0 (by omega)
  by_cases e : t = s
  · subst e
    simp only [updN_self, upW, upd, if_true]
    refine ⟨hw, ?_, ?_, ?_, fun j hj => ?_⟩
    · unfold layN; split <;> omega
    · by_cases c : w = 0
      · rw [if_pos c, if_pos (h0.mpr c)]
      · rw [if_neg c, if_neg (mt h0.mp c)]
    · rfl
    · rw [if_pos ⟨by omega, by omega⟩]
  · simp only [updN_ne _ _ e, upW, upd, if_neg e]
    refine ⟨h1, h2, h3, h4, fun j hj => ?_⟩
    rw [if_neg (by omega)]; exact h5 j hj
theorem sh_write {a : Nat → Nat} {shF : Nat → Option Nat} {sb sn : Nat → Nat} {sv : Nat → Nat → Int64} {nbo : Nat → Int32} {nsz : Nat → Nat} {nnu : Nat → Int64} (h : ShI a shF sb sn sv nbo nsz nnu) {s i : Nat} (hb : sb s = 8 ∨ sb s = 16 ∨ sb s = 64) (hi : i < 40) (v : Int64) : ShI a shF sb sn (upW sv s (vp_updL (sv s) i (narL (sb s) v))) nbo nsz (vp_updL nnu (40 * s + i) (narR (nI (sb s)) v)) := by
  refine ⟨h.1, fun t ht => ?_⟩
  obtain ⟨h1, h2, h3, h4, h5⟩ := h.2 t ht
  refine ⟨h1, h2, h3, h4, fun j hj => ?_⟩
  rw [narRL hb]
  by_cases e : t = s
  · subst e
    simp only [upW, if_true, vp_updL]
    by_cases c : j = i
    · subst c; rw [if_pos rfl, if_pos rfl]
    · rw [if_neg c, if_neg (by omega)]; exact h5 j hj
  · simp only [upW, if_neg e, vp_updL]
    rw [if_neg (by omega)]; exact h5 j hj
theorem sh_copy {a : Nat → Nat} {shF : Nat → Option Nat} {sb sn : Nat → Nat} {sv : Nat → Nat → Int64} {nbo : Nat → Int32} {nsz : Nat → Nat} {nnu : Nat → Int64} (h : ShI a shF sb sn sv nbo nsz nnu) {s t f to n : Nat} (hs : s < 4) (ht : t < 4) (h1 : f + n ≤ 40) (h2 : to + n ≤ 40) : ShI a shF sb sn (upW sv t (va_cpy (sv s) (sv t) f to n)) nbo nsz (cpR nnu (40 * s + f) (40 * t + to) n) := by
  refine ⟨h.1, fun q hq => ?_⟩
  obtain ⟨g1, g2, g3, g4, g5⟩ := h.2 q hq
  refine ⟨g1, g2, g3, g4, fun j hj => ?_⟩
  simp only [cpR, upW, va_cpy]
  by_cases e : q = t
  · subst e
    rw [if_pos rfl]
    simp only [va_cpy]
    by_cases c : to ≤ j ∧ j < to + n
    · rw [if_pos c, if_pos (show 40 * q + to ≤ 40 * q + j ∧ 40 * q + j < 40 * q + to + n from ⟨by omega, by omega⟩)]
      have := (h.2 s hs).2.2.2.2 (f + (j - to)) (by omega)
      rw [← this]; congr 1; omega
    · rw [if_neg c, if_neg (show ¬ (40 * q + to ≤ 40 * q + j ∧ 40 * q + j < 40 * q + to + n) from fun z => c ⟨by omega, by omega⟩)]; exact g5 j hj
  · rw [if_neg e, if_neg (by omega)]; exact g5 j hj
theorem fst_cong {p q : Nat → Bool} : ∀ n, (∀ k, k < n → p k = q k) → fa_first p n = fa_first q n := by
  intro n h
  have h1 := fa_first_no q n
  rcases Nat.lt_or_ge (fa_first q n) n with c | c
  · have h2 := fa_first_yes q n c
    exact fstEq (n := n) c (fun k hk => by rw [h k (Nat.lt_trans hk c)]; exact h1 k hk) (by rw [h _ c]; exact h2)
  · have e : fa_first q n = n := Nat.le_antisymm (fa_first_le q n) c
    rw [e]
    rw [e] at h1
    exact fstNone (n := n) (fun k hk => by rw [h k hk]; exact h1 k hk)
theorem rd_eq {nu : Nat → Int64} {nnu : Nat → Int64} (ce : Nat → Int32) (wk s n : Nat) (h : ∀ j, j < n → nnu (40 * s + j) = nu j) : rdNn nnu ce wk s n = rdN nu ce wk n := by
  have e : fa_first (rdBn nnu ce wk s) n = fa_first (rdB nu ce wk) n := fst_cong n (fun k hk => by
    unfold rdBn rdB
    rw [h k hk, Nat.mul_comm 8 k])
  unfold rdNn rdN
  rw [e]
  by_cases c : fa_first (rdB nu ce wk) n < n
  · rw [if_pos c, if_pos c]; exact Nat.add_comm _ _
  · rw [if_neg c, if_neg c]
/-- weeks one behind the other keep the book -/
theorem bk_wsI {X : WS} {dr : Nat → Nat} (C : Nat → Nat → Nat → Nat) (nu : Nat → Int64) (h : BkI X.1 X.2.2 dr) (hr : RuI X.2.1) : ∀ n, ∃ dr2, BkI (wsI C nu X n).1 (wsI C nu X n).2.2 dr2 ∧ RuI (wsI C nu X n).2.1 ∧ X.1 ≤ (wsI C nu X n).1 ∧ ((wsI C nu X n).1 = X.1 → dr2 = dr)
  | 0 => ⟨dr, h, hr, Nat.le_refl _, fun _ => rfl⟩
  | n + 1 => by
    obtain ⟨dr2, h1, h2, h3, h4⟩ := bk_wsI C nu h hr n
    simp only [wsI]
    split
    next c =>
      refine ⟨updN dr2 (wsI C nu X n).1 (rwN (nu n)), bk_next h1 c.1 (row_nat c.2).2.1 _ _ _, ru_pot h2 _, by show X.1 ≤ (wsI C nu X n).1 + 1; omega, fun e => ?_⟩
      have e : (wsI C nu X n).1 + 1 = X.1 := e
      omega
    · exact ⟨dr2, h1, h2, h3, h4⟩
theorem upW_self (sv : Nat → Nat → Int64) (s : Nat) (f : Nat → Int64) : upW sv s f s = f := if_pos rfl
theorem upW_01 (sv : Nat → Nat → Int64) (f : Nat → Int64) : upW sv 0 f 1 = sv 1 := rfl
theorem updN_01 (f : Nat → Nat) (x : Nat) : updN f 0 x 1 = f 1 := rfl
theorem upW_02 (sv : Nat → Nat → Int64) (f : Nat → Int64) : upW sv 0 f 2 = sv 2 := rfl
theorem updN_02 (f : Nat → Nat) (x : Nat) : updN f 0 x 2 = f 2 := rfl
theorem upW_03 (sv : Nat → Nat → Int64) (f : Nat → Int64) : upW sv 0 f 3 = sv 3 := rfl
theorem updN_03 (f : Nat → Nat) (x : Nat) : updN f 0 x 3 = f 3 := rfl
theorem upW_10 (sv : Nat → Nat → Int64) (f : Nat → Int64) : upW sv 1 f 0 = sv 0 := rfl
theorem updN_10 (f : Nat → Nat) (x : Nat) : updN f 1 x 0 = f 0 := rfl
theorem upW_12 (sv : Nat → Nat → Int64) (f : Nat → Int64) : upW sv 1 f 2 = sv 2 := rfl
theorem updN_12 (f : Nat → Nat) (x : Nat) : updN f 1 x 2 = f 2 := rfl
theorem upW_13 (sv : Nat → Nat → Int64) (f : Nat → Int64) : upW sv 1 f 3 = sv 3 := rfl
theorem updN_13 (f : Nat → Nat) (x : Nat) : updN f 1 x 3 = f 3 := rfl
theorem upW_20 (sv : Nat → Nat → Int64) (f : Nat → Int64) : upW sv 2 f 0 = sv 0 := rfl
theorem updN_20 (f : Nat → Nat) (x : Nat) : updN f 2 x 0 = f 0 := rfl
theorem upW_21 (sv : Nat → Nat → Int64) (f : Nat → Int64) : upW sv 2 f 1 = sv 1 := rfl
theorem updN_21 (f : Nat → Nat) (x : Nat) : updN f 2 x 1 = f 1 := rfl
theorem upW_23 (sv : Nat → Nat → Int64) (f : Nat → Int64) : upW sv 2 f 3 = sv 3 := rfl
theorem updN_23 (f : Nat → Nat) (x : Nat) : updN f 2 x 3 = f 3 := rfl
theorem upW_30 (sv : Nat → Nat → Int64) (f : Nat → Int64) : upW sv 3 f 0 = sv 0 := rfl
theorem updN_30 (f : Nat → Nat) (x : Nat) : updN f 3 x 0 = f 0 := rfl
theorem upW_31 (sv : Nat → Nat → Int64) (f : Nat → Int64) : upW sv 3 f 1 = sv 1 := rfl
theorem updN_31 (f : Nat → Nat) (x : Nat) : updN f 3 x 1 = f 1 := rfl
theorem upW_32 (sv : Nat → Nat → Int64) (f : Nat → Int64) : upW sv 3 f 2 = sv 2 := rfl
theorem updN_32 (f : Nat → Nat) (x : Nat) : updN f 3 x 2 = f 2 := rfl
theorem wd_nat {y : Int32} (h : y = 0 ∨ ¬ wdI y = 0) : ∃ w, y = nI w ∧ (w = 0 ∨ w = 8 ∨ w = 16 ∨ w = 64) := by
  rcases h with h | h
  · exact ⟨0, h, Or.inl rfl⟩
  · unfold wdI at h
    split at h
    next e => exact ⟨8, e, Or.inr (Or.inl rfl)⟩
    · split at h
      next e => exact ⟨16, e, Or.inr (Or.inr (Or.inl rfl))⟩
      · split at h
        next e => exact ⟨64, e, Or.inr (Or.inr (Or.inr rfl))⟩
        · exact absurd rfl h
theorem le40_nat {x : Int32} (h : ¬ x < 0) (h2 : ¬ 40 < x) : ∃ n, x = nI n ∧ n ≤ 40 := by
  obtain ⟨n, hn, rfl⟩ := nI_of h
  exact ⟨n, rfl, Nat.le_of_not_lt (fun q => h2 (nI_lt (a := 40) q hn))⟩
theorem wI_n (v : Int32) {n : Nat} (h : n ≤ 40) : wI v 0 (nI n - 1) = 0 ∨ ∃ q, v = nI q ∧ q < n := by
  rcases wI_wk v h with q | ⟨q, e, h1, -⟩
  · exact Or.inl q
  · exact Or.inr ⟨q, e, h1⟩
theorem hd_nat {sz : Nat} {f n : Int32} (hz : sz ≤ 40) (h : ¬ hdI sz f n = 0) : ∃ f1 n1, f = nI f1 ∧ n = nI n1 ∧ f1 + n1 ≤ sz := by
  unfold hdI at h
  split at h
  · exact absurd rfl h
  next c1 =>
    split at h
    · exact absurd rfl h
    next c2 =>
      split at h
      · exact absurd rfl h
      next c3 =>
        split at h
        · exact absurd rfl h
        next c4 =>
          obtain ⟨f1, hf, rfl⟩ := nI_of c1
          obtain ⟨n1, hn, rfl⟩ := nI_of c2
          have h3 : f1 ≤ sz := Nat.le_of_not_lt (fun q => c3 (nI_lt q hf))
          rw [nI_isub _ _ h3] at c4
          have h4 : n1 ≤ sz - f1 := Nat.le_of_not_lt (fun q => c4 (nI_lt q hn))
          exact ⟨f1, n1, rfl, rfl, by omega⟩
set_option maxRecDepth 100000 in
set_option maxHeartbeats 4000000 in
theorem pr_sheet_b (l : Launch) (g : XG) (a b : Nat → Nat) (gr wk br cs lk sz : Nat) (z : Int32) (ru ki ma bp bt bb hd dr : Nat → Nat) (co ce : Nat → Int32) (kgr kwk kbr kcs klk ksz : Nat) (kz : Int32) (kru kki kma kbp kbt kbb khd kdr : Nat → Nat) (kco kce : Nat → Int32) (kp : Int32) (nkf : Nat → Int32) (ts : Nat) (fi tb bo : Nat → Nat) (rn0 rc0 ra0 : Nat) (rft : Int32) (f0 : Nat → Int32) (tot lat : Nat) (se sw : Int32) (sd li th tw cr by_ : Nat → Nat) (va su : Nat → Int64) (mk : Nat → Nat) (sk : Nat → Int32) (wsm : Nat → Int64) (tk : Nat → Nat) (shF : Nat → Option Nat) (sb sn : Nat → Nat) (sv : Nat → Nat → Int64) (nta nop npr nac : Nat) (nbd nnw nsn nwn : Int32) (nli nal nlo nwi ntr nbg now_ : Nat → Nat) (nis nbo : Nat → Int32) (nsz : Nat → Nat) (nnu : Nat → Int64) (hPe : PeI gr ki ma) (hBk : BkI wk ce dr) (hBo : BoI br bp bt hd) (hLk : LkI cs co lk sz bb) (hRu : RuI ru) (hKp : KpI kp nkf kgr kwk kbr kcs klk ksz kz kru kki kma kbp kbt kbb khd kdr kco kce) (hTp : TpI ts tb bo) (hSh : ShI a shF sb sn sv nbo nsz nnu) (hCr : CrI gr wk br cs sz ki ma bp bt bb dr tot lat se sw sd cr th tw) (hRf : RfI gr wk cs sz ki ma hd bb dr nnw nsn nwn nli nal nlo nwi nac) (s bits n : Int32) (hb : wI s 0 3 = 0 ∨ (¬ bits = 0 ∧ wdI bits = 0)) : PairP l g yX8_sheet cX8_sheet 4 (some .int) [.ref ((a 0)), .int s, .int bits, .int n] yX9_sheet cX9_sheet 5 (some .int) [.ref ((b 0)), .int s, .int bits, .int n] (xW g a gr wk br cs z ru ki ma bp bt co ce kgr kwk kbr kcs kz kru kki kma kbp kbt kco kce kp ts fi tb bo rn0 rc0 ra0 rft f0 tot lat se sw sd li th tw cr by_ va su mk sk wsm tk shF sb sn sv) (nW g b gr wk lk sz br z ru ki ma bb ce hd kp nkf ts fi tb nta nop npr nac nbd nnw nsn nwn nli nal nlo nwi ntr nbg now_ nis nbo nsz nnu) (Rel g a b) := by
  have hgr := hPe.1
  have hki := hPe.2.1
  have hma := hPe.2.2
  have hwk := hBk.1
  have hlat := core_lat hBk
  have hL := core_L hBk
  have hbr := hBo.1
  have hbp := hBo.2.1
  have hbt := hBo.2.2.1
  have hhd := hBo.2.2.2.2.2.2
  have hcs := hLk.1
  have hsz := hLk.2.1
  have hbb := hLk.2.2.1
  have hlk := lk_le hLk
  have hV : cs ≠ 0 → ∀ p, p < 495 → evR (nmI wk (laD wk dr) p) (cdF co 0 cs) [] = some [(txV bb sz wk (laD wk dr)) p] := fun q p _ => hLk.2.2.2.2 q wk (laD wk dr) p
  have hse := hCr.1
  have hsw := hCr.2
  have hsd := sdD_le cs bb sz wk (laD wk dr)
  have hsv : ∀ p, p < 495 → sdF cs (txV bb sz wk (laD wk dr)) p = if lk = 1 then clN (txV bb sz wk (laD wk dr) p) else 1 := fun p _ => lk_sd hLk _ _ p
  have hwo := hRf.1
  have hwc := hRf.2
  have htot := to_lt hPe hBo (laD wk dr) (sdF cs (txV bb sz wk (laD wk dr)))
  have e1 := cr_eq hBo gr ki ma (laD wk dr) (sdF cs (txV bb sz wk (laD wk dr)))
  have e2 := to_eq hBo gr ki ma (laD wk dr) (sdF cs (txV bb sz wk (laD wk dr)))
  have hts := hTp.1
  have htb := hTp.2.1
  have hbo := hTp.2.2
  refine ⟨.int (fndI 0), 32, 34, _, _, by decide, by decide, Or.inl ⟨rfl, _, rfl⟩, Ct.sub [0, 49] rfl rfl ?_ (ct_sheet_b l g (a 0) (a 1) (a 9) (a 17) (a 24) (a 33) (a 36) (a 39) (a 40) (a 49) ts kp fi s bits n (hb)), Ct.sub [0, 3, 9, 10] rfl rfl ?_ (ct_nsheet_b l g (b 0) (b 1) (b 2) (b 3) (b 4) (b 5) (b 6) (b 7) (b 8) (b 9) (b 10) (b 11) (b 12) (b 13) (b 14) (b 15) (b 16) (b 17) (b 18) (b 19) ts nta nop npr nac kp nbd 0 nnw nsn nwn fi nbo nsz s bits n (hb)), ?_⟩
  · rintro v w ⟨rfl, rfl⟩; rfl
  · rintro v w ⟨rfl, rfl⟩; rfl
  · rintro v1 w1 v2 w2 ⟨wq1, ⟨rfl, rfl⟩, rfl⟩ ⟨wq2, ⟨rfl, rfl⟩, rfl⟩
    refine ⟨rfl, rfl, rel_mk g a b gr wk br cs lk sz z ru ki ma bp bt bb hd dr co ce kgr kwk kbr kcs klk ksz kz kru kki kma kbp kbt kbb khd kdr kco kce kp nkf ts (updN fi 0 (fi 0 + 1)) tb bo rn0 rc0 ra0 rft f0 tot lat se sw sd li th tw cr by_ va su mk sk wsm tk shF sb sn sv nta nop npr nac nbd nnw nsn nwn nli nal nlo nwi ntr nbg now_ nis nbo nsz nnu ?_ ?_ hPe hBk hBo hLk hRu hKp hTp hSh hCr hRf⟩
    · simp only [e1, e2, xW, nW, xSet, List.set_cons_zero, List.set_cons_succ, nI_zero]
    · simp only [xW, nW, xSet, List.set_cons_zero, List.set_cons_succ, nI_zero]

set_option maxRecDepth 100000 in
set_option maxHeartbeats 4000000 in
theorem pr_sheet_z (l : Launch) (g : XG) (a b : Nat → Nat) (gr wk br cs lk sz : Nat) (z : Int32) (ru ki ma bp bt bb hd dr : Nat → Nat) (co ce : Nat → Int32) (kgr kwk kbr kcs klk ksz : Nat) (kz : Int32) (kru kki kma kbp kbt kbb khd kdr : Nat → Nat) (kco kce : Nat → Int32) (kp : Int32) (nkf : Nat → Int32) (ts : Nat) (fi tb bo : Nat → Nat) (rn0 rc0 ra0 : Nat) (rft : Int32) (f0 : Nat → Int32) (tot lat : Nat) (se sw : Int32) (sd li th tw cr by_ : Nat → Nat) (va su : Nat → Int64) (mk : Nat → Nat) (sk : Nat → Int32) (wsm : Nat → Int64) (tk : Nat → Nat) (shF : Nat → Option Nat) (sb sn : Nat → Nat) (sv : Nat → Nat → Int64) (nta nop npr nac : Nat) (nbd nnw nsn nwn : Int32) (nli nal nlo nwi ntr nbg now_ : Nat → Nat) (nis nbo : Nat → Int32) (nsz : Nat → Nat) (nnu : Nat → Int64) (hPe : PeI gr ki ma) (hBk : BkI wk ce dr) (hBo : BoI br bp bt hd) (hLk : LkI cs co lk sz bb) (hRu : RuI ru) (hKp : KpI kp nkf kgr kwk kbr kcs klk ksz kz kru kki kma kbp kbt kbb khd kdr kco kce) (hTp : TpI ts tb bo) (hSh : ShI a shF sb sn sv nbo nsz nnu) (hCr : CrI gr wk br cs sz ki ma bp bt bb dr tot lat se sw sd cr th tw) (hRf : RfI gr wk cs sz ki ma hd bb dr nnw nsn nwn nli nal nlo nwi nac) (s : Nat) (bits n : Int32) (hs4 : s < 4) (hw : bits = 0 ∨ ¬ wdI bits = 0) (hn : n < 0) : PairP l g yX8_sheet cX8_sheet 4 (some .int) [.ref ((a 0)), .int (nI s), .int bits, .int n] yX9_sheet cX9_sheet 5 (some .int) [.ref ((b 0)), .int (nI s), .int bits, .int n] (xW g a gr wk br cs z ru ki ma bp bt co ce kgr kwk kbr kcs kz kru kki kma kbp kbt kco kce kp ts fi tb bo rn0 rc0 ra0 rft f0 tot lat se sw sd li th tw cr by_ va su mk sk wsm tk shF sb sn sv) (nW g b gr wk lk sz br z ru ki ma bb ce hd kp nkf ts fi tb nta nop npr nac nbd nnw nsn nwn nli nal nlo nwi ntr nbg now_ nis nbo nsz nnu) (Rel g a b) := by
  have hgr := hPe.1
  have hki := hPe.2.1
  have hma := hPe.2.2
  have hwk := hBk.1
  have hlat := core_lat hBk
  have hL := core_L hBk
  have hbr := hBo.1
  have hbp := hBo.2.1
  have hbt := hBo.2.2.1
  have hhd := hBo.2.2.2.2.2.2
  have hcs := hLk.1
  have hsz := hLk.2.1
  have hbb := hLk.2.2.1
  have hlk := lk_le hLk
  have hV : cs ≠ 0 → ∀ p, p < 495 → evR (nmI wk (laD wk dr) p) (cdF co 0 cs) [] = some [(txV bb sz wk (laD wk dr)) p] := fun q p _ => hLk.2.2.2.2 q wk (laD wk dr) p
  have hse := hCr.1
  have hsw := hCr.2
  have hsd := sdD_le cs bb sz wk (laD wk dr)
  have hsv : ∀ p, p < 495 → sdF cs (txV bb sz wk (laD wk dr)) p = if lk = 1 then clN (txV bb sz wk (laD wk dr) p) else 1 := fun p _ => lk_sd hLk _ _ p
  have hwo := hRf.1
  have hwc := hRf.2
  have htot := to_lt hPe hBo (laD wk dr) (sdF cs (txV bb sz wk (laD wk dr)))
  have e1 := cr_eq hBo gr ki ma (laD wk dr) (sdF cs (txV bb sz wk (laD wk dr)))
  have e2 := to_eq hBo gr ki ma (laD wk dr) (sdF cs (txV bb sz wk (laD wk dr)))
  have hts := hTp.1
  have htb := hTp.2.1
  have hbo := hTp.2.2
  refine ⟨.int (fndI 6), 32, 34, _, _, by decide, by decide, Or.inl ⟨rfl, _, rfl⟩, Ct.sub [0, 49] rfl rfl ?_ (ct_sheet_z l g (a 0) (a 1) (a 9) (a 17) (a 24) (a 33) (a 36) (a 39) (a 40) (a 49) ts kp fi s bits n (hs4) (hw) (hn)), Ct.sub [0, 3, 9, 10] rfl rfl ?_ (ct_nsheet_z l g (b 0) (b 1) (b 2) (b 3) (b 4) (b 5) (b 6) (b 7) (b 8) (b 9) (b 10) (b 11) (b 12) (b 13) (b 14) (b 15) (b 16) (b 17) (b 18) (b 19) ts nta nop npr nac kp nbd 0 nnw nsn nwn fi nbo nsz s bits n (hs4) (hw) (hn)), ?_⟩
  · rintro v w ⟨rfl, rfl⟩; rfl
  · rintro v w ⟨rfl, rfl⟩; rfl
  · rintro v1 w1 v2 w2 ⟨wq1, ⟨rfl, rfl⟩, rfl⟩ ⟨wq2, ⟨rfl, rfl⟩, rfl⟩
    refine ⟨rfl, rfl, rel_mk g a b gr wk br cs lk sz z ru ki ma bp bt bb hd dr co ce kgr kwk kbr kcs klk ksz kz kru kki kma kbp kbt kbb khd kdr kco kce kp nkf ts (updN fi 6 (fi 6 + 1)) tb bo rn0 rc0 ra0 rft f0 tot lat se sw sd li th tw cr by_ va su mk sk wsm tk shF sb sn sv nta nop npr nac nbd nnw nsn nwn nli nal nlo nwi ntr nbg now_ nis nbo nsz nnu ?_ ?_ hPe hBk hBo hLk hRu hKp hTp hSh hCr hRf⟩
    · simp only [e1, e2, xW, nW, xSet, List.set_cons_zero, List.set_cons_succ, nI_zero]
    · simp only [xW, nW, xSet, List.set_cons_zero, List.set_cons_succ, nI_zero]

set_option maxRecDepth 100000 in
set_option maxHeartbeats 4000000 in
theorem pr_sheet_c (l : Launch) (g : XG) (a b : Nat → Nat) (gr wk br cs lk sz : Nat) (z : Int32) (ru ki ma bp bt bb hd dr : Nat → Nat) (co ce : Nat → Int32) (kgr kwk kbr kcs klk ksz : Nat) (kz : Int32) (kru kki kma kbp kbt kbb khd kdr : Nat → Nat) (kco kce : Nat → Int32) (kp : Int32) (nkf : Nat → Int32) (ts : Nat) (fi tb bo : Nat → Nat) (rn0 rc0 ra0 : Nat) (rft : Int32) (f0 : Nat → Int32) (tot lat : Nat) (se sw : Int32) (sd li th tw cr by_ : Nat → Nat) (va su : Nat → Int64) (mk : Nat → Nat) (sk : Nat → Int32) (wsm : Nat → Int64) (tk : Nat → Nat) (shF : Nat → Option Nat) (sb sn : Nat → Nat) (sv : Nat → Nat → Int64) (nta nop npr nac : Nat) (nbd nnw nsn nwn : Int32) (nli nal nlo nwi ntr nbg now_ : Nat → Nat) (nis nbo : Nat → Int32) (nsz : Nat → Nat) (nnu : Nat → Int64) (hPe : PeI gr ki ma) (hBk : BkI wk ce dr) (hBo : BoI br bp bt hd) (hLk : LkI cs co lk sz bb) (hRu : RuI ru) (hKp : KpI kp nkf kgr kwk kbr kcs klk ksz kz kru kki kma kbp kbt kbb khd kdr kco kce) (hTp : TpI ts tb bo) (hSh : ShI a shF sb sn sv nbo nsz nnu) (hCr : CrI gr wk br cs sz ki ma bp bt bb dr tot lat se sw sd cr th tw) (hRf : RfI gr wk cs sz ki ma hd bb dr nnw nsn nwn nli nal nlo nwi nac) (s : Nat) (bits n : Int32) (hs4 : s < 4) (hw : bits = 0 ∨ ¬ wdI bits = 0) (hn : 40 < n) : PairP l g yX8_sheet cX8_sheet 4 (some .int) [.ref ((a 0)), .int (nI s), .int bits, .int n] yX9_sheet cX9_sheet 5 (some .int) [.ref ((b 0)), .int (nI s), .int bits, .int n] (xW g a gr wk br cs z ru ki ma bp bt co ce kgr kwk kbr kcs kz kru kki kma kbp kbt kco kce kp ts fi tb bo rn0 rc0 ra0 rft f0 tot lat se sw sd li th tw cr by_ va su mk sk wsm tk shF sb sn sv) (nW g b gr wk lk sz br z ru ki ma bb ce hd kp nkf ts fi tb nta nop npr nac nbd nnw nsn nwn nli nal nlo nwi ntr nbg now_ nis nbo nsz nnu) (Rel g a b) := by
  have hgr := hPe.1
  have hki := hPe.2.1
  have hma := hPe.2.2
  have hwk := hBk.1
  have hlat := core_lat hBk
  have hL := core_L hBk
  have hbr := hBo.1
  have hbp := hBo.2.1
  have hbt := hBo.2.2.1
  have hhd := hBo.2.2.2.2.2.2
  have hcs := hLk.1
  have hsz := hLk.2.1
  have hbb := hLk.2.2.1
  have hlk := lk_le hLk
  have hV : cs ≠ 0 → ∀ p, p < 495 → evR (nmI wk (laD wk dr) p) (cdF co 0 cs) [] = some [(txV bb sz wk (laD wk dr)) p] := fun q p _ => hLk.2.2.2.2 q wk (laD wk dr) p
  have hse := hCr.1
  have hsw := hCr.2
  have hsd := sdD_le cs bb sz wk (laD wk dr)
  have hsv : ∀ p, p < 495 → sdF cs (txV bb sz wk (laD wk dr)) p = if lk = 1 then clN (txV bb sz wk (laD wk dr) p) else 1 := fun p _ => lk_sd hLk _ _ p
  have hwo := hRf.1
  have hwc := hRf.2
  have htot := to_lt hPe hBo (laD wk dr) (sdF cs (txV bb sz wk (laD wk dr)))
  have e1 := cr_eq hBo gr ki ma (laD wk dr) (sdF cs (txV bb sz wk (laD wk dr)))
  have e2 := to_eq hBo gr ki ma (laD wk dr) (sdF cs (txV bb sz wk (laD wk dr)))
  have hts := hTp.1
  have htb := hTp.2.1
  have hbo := hTp.2.2
  refine ⟨.int (fndI 0), 32, 34, _, _, by decide, by decide, Or.inl ⟨rfl, _, rfl⟩, Ct.sub [0, 49] rfl rfl ?_ (ct_sheet_c l g (a 0) (a 1) (a 9) (a 17) (a 24) (a 33) (a 36) (a 39) (a 40) (a 49) ts kp fi s bits n (hs4) (hw) (hn)), Ct.sub [0, 3, 9, 10] rfl rfl ?_ (ct_nsheet_c l g (b 0) (b 1) (b 2) (b 3) (b 4) (b 5) (b 6) (b 7) (b 8) (b 9) (b 10) (b 11) (b 12) (b 13) (b 14) (b 15) (b 16) (b 17) (b 18) (b 19) ts nta nop npr nac kp nbd 0 nnw nsn nwn fi nbo nsz s bits n (hs4) (hw) (hn)), ?_⟩
  · rintro v w ⟨rfl, rfl⟩; rfl
  · rintro v w ⟨rfl, rfl⟩; rfl
  · rintro v1 w1 v2 w2 ⟨wq1, ⟨rfl, rfl⟩, rfl⟩ ⟨wq2, ⟨rfl, rfl⟩, rfl⟩
    refine ⟨rfl, rfl, rel_mk g a b gr wk br cs lk sz z ru ki ma bp bt bb hd dr co ce kgr kwk kbr kcs klk ksz kz kru kki kma kbp kbt kbb khd kdr kco kce kp nkf ts (updN fi 0 (fi 0 + 1)) tb bo rn0 rc0 ra0 rft f0 tot lat se sw sd li th tw cr by_ va su mk sk wsm tk shF sb sn sv nta nop npr nac nbd nnw nsn nwn nli nal nlo nwi ntr nbg now_ nis nbo nsz nnu ?_ ?_ hPe hBk hBo hLk hRu hKp hTp hSh hCr hRf⟩
    · simp only [e1, e2, xW, nW, xSet, List.set_cons_zero, List.set_cons_succ, nI_zero]
    · simp only [xW, nW, xSet, List.set_cons_zero, List.set_cons_succ, nI_zero]

set_option maxRecDepth 100000 in
set_option maxHeartbeats 4000000 in
theorem pr_sheet_o0 (l : Launch) (g : XG) (a b : Nat → Nat) (gr wk br cs lk sz : Nat) (z : Int32) (ru ki ma bp bt bb hd dr : Nat → Nat) (co ce : Nat → Int32) (kgr kwk kbr kcs klk ksz : Nat) (kz : Int32) (kru kki kma kbp kbt kbb khd kdr : Nat → Nat) (kco kce : Nat → Int32) (kp : Int32) (nkf : Nat → Int32) (ts : Nat) (fi tb bo : Nat → Nat) (rn0 rc0 ra0 : Nat) (rft : Int32) (f0 : Nat → Int32) (tot lat : Nat) (se sw : Int32) (sd li th tw cr by_ : Nat → Nat) (va su : Nat → Int64) (mk : Nat → Nat) (sk : Nat → Int32) (wsm : Nat → Int64) (tk : Nat → Nat) (shF : Nat → Option Nat) (sb sn : Nat → Nat) (sv : Nat → Nat → Int64) (nta nop npr nac : Nat) (nbd nnw nsn nwn : Int32) (nli nal nlo nwi ntr nbg now_ : Nat → Nat) (nis nbo : Nat → Int32) (nsz : Nat → Nat) (nnu : Nat → Int64) (hPe : PeI gr ki ma) (hBk : BkI wk ce dr) (hBo : BoI br bp bt hd) (hLk : LkI cs co lk sz bb) (hRu : RuI ru) (hKp : KpI kp nkf kgr kwk kbr kcs klk ksz kz kru kki kma kbp kbt kbb khd kdr kco kce) (hTp : TpI ts tb bo) (hSh : ShI a shF sb sn sv nbo nsz nnu) (hCr : CrI gr wk br cs sz ki ma bp bt bb dr tot lat se sw sd cr th tw) (hRf : RfI gr wk cs sz ki ma hd bb dr nnw nsn nwn nli nal nlo nwi nac) (w n : Nat) (hw : nI w = 0 ∨ ¬ wdI (nI w) = 0) (hw3 : w = 0 ∨ w = 8 ∨ w = 16 ∨ w = 64) (hn : n ≤ 40) : PairP l g yX8_sheet cX8_sheet 4 (some .int) [.ref ((a 0)), .int 0, .int (nI w), .int (nI n)] yX9_sheet cX9_sheet 5 (some .int) [.ref ((b 0)), .int 0, .int (nI w), .int (nI n)] (xW g a gr wk br cs z ru ki ma bp bt co ce kgr kwk kbr kcs kz kru kki kma kbp kbt kco kce kp ts fi tb bo rn0 rc0 ra0 rft f0 tot lat se sw sd li th tw cr by_ va su mk sk wsm tk shF sb sn sv) (nW g b gr wk lk sz br z ru ki ma bb ce hd kp nkf ts fi tb nta nop npr nac nbd nnw nsn nwn nli nal nlo nwi ntr nbg now_ nis nbo nsz nnu) (Rel g a b) := by
  have hgr := hPe.1
  have hki := hPe.2.1
  have hma := hPe.2.2
  have hwk := hBk.1
  have hlat := core_lat hBk
  have hL := core_L hBk
  have hbr := hBo.1
  have hbp := hBo.2.1
  have hbt := hBo.2.2.1
  have hhd := hBo.2.2.2.2.2.2
  have hcs := hLk.1
  have hsz := hLk.2.1
  have hbb := hLk.2.2.1
  have hlk := lk_le hLk
  have hV : cs ≠ 0 → ∀ p, p < 495 → evR (nmI wk (laD wk dr) p) (cdF co 0 cs) [] = some [(txV bb sz wk (laD wk dr)) p] := fun q p _ => hLk.2.2.2.2 q wk (laD wk dr) p
  have hse := hCr.1
  have hsw := hCr.2
  have hsd := sdD_le cs bb sz wk (laD wk dr)
  have hsv : ∀ p, p < 495 → sdF cs (txV bb sz wk (laD wk dr)) p = if lk = 1 then clN (txV bb sz wk (laD wk dr) p) else 1 := fun p _ => lk_sd hLk _ _ p
  have hwo := hRf.1
  have hwc := hRf.2
  have htot := to_lt hPe hBo (laD wk dr) (sdF cs (txV bb sz wk (laD wk dr)))
  have e1 := cr_eq hBo gr ki ma (laD wk dr) (sdF cs (txV bb sz wk (laD wk dr)))
  have e2 := to_eq hBo gr ki ma (laD wk dr) (sdF cs (txV bb sz wk (laD wk dr)))
  have hts := hTp.1
  have htb := hTp.2.1
  have hbo := hTp.2.2
  refine ⟨.int (nI (layN w n)), 32, 34, _, _, by decide, by decide, Or.inl ⟨rfl, _, rfl⟩, Ct.sub [0, 49, 40, 41, 42] rfl rfl ?_ (ct_sheet_o l g (a 0) (a 1) (a 9) (a 17) (a 24) (a 33) (a 36) (a 39) (a 40) (a 49) ts kp fi (a 41) (a 42) (sb 0) (sn 0) (sv 0) shF 0 w n (by decide) (hSh.1.1) (hw) (by omega) (hn)), Ct.sub [0, 3, 9, 10, 11] rfl rfl ?_ (ct_nsheet_o l g (b 0) (b 1) (b 2) (b 3) (b 4) (b 5) (b 6) (b 7) (b 8) (b 9) (b 10) (b 11) (b 12) (b 13) (b 14) (b 15) (b 16) (b 17) (b 18) (b 19) ts nta nop npr nac kp nbd 0 nnw nsn nwn fi nbo nsz nnu 0 w n (by decide) (hw) (by omega) (hn)), ?_⟩
  · rintro v w ⟨rfl, rfl⟩; rfl
  · rintro v w ⟨rfl, rfl⟩; rfl
  · rintro v1 w1 v2 w2 ⟨wq1, ⟨rfl, rfl⟩, rfl⟩ ⟨wq2, ⟨rfl, rfl⟩, rfl⟩
    refine ⟨rfl, rfl, rel_mk g a b gr wk br cs lk sz z ru ki ma bp bt bb hd dr co ce kgr kwk kbr kcs klk ksz kz kru kki kma kbp kbt kbb khd kdr kco kce kp nkf ts fi tb bo rn0 rc0 ra0 rft f0 tot lat se sw sd li th tw cr by_ va su mk sk wsm tk shF (updN sb 0 w) (updN sn 0 (layN w n)) (upW sv 0 (fun _ => 0)) nta nop npr nac nbd nnw nsn nwn nli nal nlo nwi ntr nbg now_ nis (upd nbo 0 (if nI w = 0 then (-1) else nI w)) (updN nsz 0 (if w = 0 then 0 else n)) (fun j => if 40 * 0 ≤ j ∧ j < 40 * 0 + 40 then 0 else nnu j) ?_ ?_ hPe hBk hBo hLk hRu hKp hTp (sh_sheet hSh 0 hw3 hn) hCr hRf⟩
    · simp only [e1, e2, xW, nW, xSet, List.set_cons_zero, List.set_cons_succ, nI_zero, updN_self, upW_self, upW_01, upW_02, upW_03, upW_10, upW_12, upW_13, upW_20, upW_21, upW_23, upW_30, upW_31, upW_32, updN_01, updN_02, updN_03, updN_10, updN_12, updN_13, updN_20, updN_21, updN_23, updN_30, updN_31, updN_32]
    · simp only [xW, nW, xSet, List.set_cons_zero, List.set_cons_succ, nI_zero, updN_self, upW_self, upW_01, upW_02, upW_03, upW_10, upW_12, upW_13, upW_20, upW_21, upW_23, upW_30, upW_31, upW_32, updN_01, updN_02, updN_03, updN_10, updN_12, updN_13, updN_20, updN_21, updN_23, updN_30, updN_31, updN_32]

set_option maxRecDepth 100000 in
set_option maxHeartbeats 4000000 in
theorem pr_sheet_o1 (l : Launch) (g : XG) (a b : Nat → Nat) (gr wk br cs lk sz : Nat) (z : Int32) (ru ki ma bp bt bb hd dr : Nat → Nat) (co ce : Nat → Int32) (kgr kwk kbr kcs klk ksz : Nat) (kz : Int32) (kru kki kma kbp kbt kbb khd kdr : Nat → Nat) (kco kce : Nat → Int32) (kp : Int32) (nkf : Nat → Int32) (ts : Nat) (fi tb bo : Nat → Nat) (rn0 rc0 ra0 : Nat) (rft : Int32) (f0 : Nat → Int32) (tot lat : Nat) (se sw : Int32) (sd li th tw cr by_ : Nat → Nat) (va su : Nat → Int64) (mk : Nat → Nat) (sk : Nat → Int32) (wsm : Nat → Int64) (tk : Nat → Nat) (shF : Nat → Option Nat) (sb sn : Nat → Nat) (sv : Nat → Nat → Int64) (nta nop npr nac : Nat) (nbd nnw nsn nwn : Int32) (nli nal nlo nwi ntr nbg now_ : Nat → Nat) (nis nbo : Nat → Int32) (nsz : Nat → Nat) (nnu : Nat → Int64) (hPe : PeI gr ki ma) (hBk : BkI wk ce dr) (hBo : BoI br bp bt hd) (hLk : LkI cs co lk sz bb) (hRu : RuI ru) (hKp : KpI kp nkf kgr kwk kbr kcs klk ksz kz kru kki kma kbp kbt kbb khd kdr kco kce) (hTp : TpI ts tb bo) (hSh : ShI a shF sb sn sv nbo nsz nnu) (hCr : CrI gr wk br cs sz ki ma bp bt bb dr tot lat se sw sd cr th tw) (hRf : RfI gr wk cs sz ki ma hd bb dr nnw nsn nwn nli nal nlo nwi nac) (w n : Nat) (hw : nI w = 0 ∨ ¬ wdI (nI w) = 0) (hw3 : w = 0 ∨ w = 8 ∨ w = 16 ∨ w = 64) (hn : n ≤ 40) : PairP l g yX8_sheet cX8_sheet 4 (some .int) [.ref ((a 0)), .int 1, .int (nI w), .int (nI n)] yX9_sheet cX9_sheet 5 (some .int) [.ref ((b 0)), .int 1, .int (nI w), .int (nI n)] (xW g a gr wk br cs z ru ki ma bp bt co ce kgr kwk kbr kcs kz kru kki kma kbp kbt kco kce kp ts fi tb bo rn0 rc0 ra0 rft f0 tot lat se sw sd li th tw cr by_ va su mk sk wsm tk shF sb sn sv) (nW g b gr wk lk sz br z ru ki ma bb ce hd kp nkf ts fi tb nta nop npr nac nbd nnw nsn nwn nli nal nlo nwi ntr nbg now_ nis nbo nsz nnu) (Rel g a b) := by
  have hgr := hPe.1
  have hki := hPe.2.1
  have hma := hPe.2.2
  have hwk := hBk.1
  have hlat := core_lat hBk
  have hL := core_L hBk
  have hbr := hBo.1
  have hbp := hBo.2.1
  have hbt := hBo.2.2.1
  have hhd := hBo.2.2.2.2.2.2
  have hcs := hLk.1
  have hsz := hLk.2.1
  have hbb := hLk.2.2.1
  have hlk := lk_le hLk
  have hV : cs ≠ 0 → ∀ p, p < 495 → evR (nmI wk (laD wk dr) p) (cdF co 0 cs) [] = some [(txV bb sz wk (laD wk dr)) p] := fun q p _ => hLk.2.2.2.2 q wk (laD wk dr) p
  have hse := hCr.1
  have hsw := hCr.2
  have hsd := sdD_le cs bb sz wk (laD wk dr)
  have hsv : ∀ p, p < 495 → sdF cs (txV bb sz wk (laD wk dr)) p = if lk = 1 then clN (txV bb sz wk (laD wk dr) p) else 1 := fun p _ => lk_sd hLk _ _ p
  have hwo := hRf.1
  have hwc := hRf.2
  have htot := to_lt hPe hBo (laD wk dr) (sdF cs (txV bb sz wk (laD wk dr)))
  have e1 := cr_eq hBo gr ki ma (laD wk dr) (sdF cs (txV bb sz wk (laD wk dr)))
  have e2 := to_eq hBo gr ki ma (laD wk dr) (sdF cs (txV bb sz wk (laD wk dr)))
  have hts := hTp.1
  have htb := hTp.2.1
  have hbo := hTp.2.2
  refine ⟨.int (nI (layN w n)), 32, 34, _, _, by decide, by decide, Or.inl ⟨rfl, _, rfl⟩, Ct.sub [0, 49, 40, 43, 44] rfl rfl ?_ (ct_sheet_o l g (a 0) (a 1) (a 9) (a 17) (a 24) (a 33) (a 36) (a 39) (a 40) (a 49) ts kp fi (a 43) (a 44) (sb 1) (sn 1) (sv 1) shF 1 w n (by decide) (hSh.1.2.1) (hw) (by omega) (hn)), Ct.sub [0, 3, 9, 10, 11] rfl rfl ?_ (ct_nsheet_o l g (b 0) (b 1) (b 2) (b 3) (b 4) (b 5) (b 6) (b 7) (b 8) (b 9) (b 10) (b 11) (b 12) (b 13) (b 14) (b 15) (b 16) (b 17) (b 18) (b 19) ts nta nop npr nac kp nbd 0 nnw nsn nwn fi nbo nsz nnu 1 w n (by decide) (hw) (by omega) (hn)), ?_⟩
  · rintro v w ⟨rfl, rfl⟩; rfl
  · rintro v w ⟨rfl, rfl⟩; rfl
  · rintro v1 w1 v2 w2 ⟨wq1, ⟨rfl, rfl⟩, rfl⟩ ⟨wq2, ⟨rfl, rfl⟩, rfl⟩
    refine ⟨rfl, rfl, rel_mk g a b gr wk br cs lk sz z ru ki ma bp bt bb hd dr co ce kgr kwk kbr kcs klk ksz kz kru kki kma kbp kbt kbb khd kdr kco kce kp nkf ts fi tb bo rn0 rc0 ra0 rft f0 tot lat se sw sd li th tw cr by_ va su mk sk wsm tk shF (updN sb 1 w) (updN sn 1 (layN w n)) (upW sv 1 (fun _ => 0)) nta nop npr nac nbd nnw nsn nwn nli nal nlo nwi ntr nbg now_ nis (upd nbo 1 (if nI w = 0 then (-1) else nI w)) (updN nsz 1 (if w = 0 then 0 else n)) (fun j => if 40 * 1 ≤ j ∧ j < 40 * 1 + 40 then 0 else nnu j) ?_ ?_ hPe hBk hBo hLk hRu hKp hTp (sh_sheet hSh 1 hw3 hn) hCr hRf⟩
    · simp only [e1, e2, xW, nW, xSet, List.set_cons_zero, List.set_cons_succ, nI_zero, updN_self, upW_self, upW_01, upW_02, upW_03, upW_10, upW_12, upW_13, upW_20, upW_21, upW_23, upW_30, upW_31, upW_32, updN_01, updN_02, updN_03, updN_10, updN_12, updN_13, updN_20, updN_21, updN_23, updN_30, updN_31, updN_32]
    · simp only [xW, nW, xSet, List.set_cons_zero, List.set_cons_succ, nI_zero, updN_self, upW_self, upW_01, upW_02, upW_03, upW_10, upW_12, upW_13, upW_20, upW_21, upW_23, upW_30, upW_31, upW_32, updN_01, updN_02, updN_03, updN_10, updN_12, updN_13, updN_20, updN_21, updN_23, updN_30, updN_31, updN_32]

set_option maxRecDepth 100000 in
set_option maxHeartbeats 4000000 in
theorem pr_sheet_o2 (l : Launch) (g : XG) (a b : Nat → Nat) (gr wk br cs lk sz : Nat) (z : Int32) (ru ki ma bp bt bb hd dr : Nat → Nat) (co ce : Nat → Int32) (kgr kwk kbr kcs klk ksz : Nat) (kz : Int32) (kru kki kma kbp kbt kbb khd kdr : Nat → Nat) (kco kce : Nat → Int32) (kp : Int32) (nkf : Nat → Int32) (ts : Nat) (fi tb bo : Nat → Nat) (rn0 rc0 ra0 : Nat) (rft : Int32) (f0 : Nat → Int32) (tot lat : Nat) (se sw : Int32) (sd li th tw cr by_ : Nat → Nat) (va su : Nat → Int64) (mk : Nat → Nat) (sk : Nat → Int32) (wsm : Nat → Int64) (tk : Nat → Nat) (shF : Nat → Option Nat) (sb sn : Nat → Nat) (sv : Nat → Nat → Int64) (nta nop npr nac : Nat) (nbd nnw nsn nwn : Int32) (nli nal nlo nwi ntr nbg now_ : Nat → Nat) (nis nbo : Nat → Int32) (nsz : Nat → Nat) (nnu : Nat → Int64) (hPe : PeI gr ki ma) (hBk : BkI wk ce dr) (hBo : BoI br bp bt hd) (hLk : LkI cs co lk sz bb) (hRu : RuI ru) (hKp : KpI kp nkf kgr kwk kbr kcs klk ksz kz kru kki kma kbp kbt kbb khd kdr kco kce) (hTp : TpI ts tb bo) (hSh : ShI a shF sb sn sv nbo nsz nnu) (hCr : CrI gr wk br cs sz ki ma bp bt bb dr tot lat se sw sd cr th tw) (hRf : RfI gr wk cs sz ki ma hd bb dr nnw nsn nwn nli nal nlo nwi nac) (w n : Nat) (hw : nI w = 0 ∨ ¬ wdI (nI w) = 0) (hw3 : w = 0 ∨ w = 8 ∨ w = 16 ∨ w = 64) (hn : n ≤ 40) : PairP l g yX8_sheet cX8_sheet 4 (some .int) [.ref ((a 0)), .int 2, .int (nI w), .int (nI n)] yX9_sheet cX9_sheet 5 (some .int) [.ref ((b 0)), .int 2, .int (nI w), .int (nI n)] (xW g a gr wk br cs z ru ki ma bp bt co ce kgr kwk kbr kcs kz kru kki kma kbp kbt kco kce kp ts fi tb bo rn0 rc0 ra0 rft f0 tot lat se sw sd li th tw cr by_ va su mk sk wsm tk shF sb sn sv) (nW g b gr wk lk sz br z ru ki ma bb ce hd kp nkf ts fi tb nta nop npr nac nbd nnw nsn nwn nli nal nlo nwi ntr nbg now_ nis nbo nsz nnu) (Rel g a b) := by
  have hgr := hPe.1
  have hki := hPe.2.1
  have hma := hPe.2.2
  have hwk := hBk.1
  have hlat := core_lat hBk
  have hL := core_L hBk
  have hbr := hBo.1
  have hbp := hBo.2.1
  have hbt := hBo.2.2.1
  have hhd := hBo.2.2.2.2.2.2
  have hcs := hLk.1
  have hsz := hLk.2.1
  have hbb := hLk.2.2.1
  have hlk := lk_le hLk
  have hV : cs ≠ 0 → ∀ p, p < 495 → evR (nmI wk (laD wk dr) p) (cdF co 0 cs) [] = some [(txV bb sz wk (laD wk dr)) p] := fun q p _ => hLk.2.2.2.2 q wk (laD wk dr) p
  have hse := hCr.1
  have hsw := hCr.2
  have hsd := sdD_le cs bb sz wk (laD wk dr)
  have hsv : ∀ p, p < 495 → sdF cs (txV bb sz wk (laD wk dr)) p = if lk = 1 then clN (txV bb sz wk (laD wk dr) p) else 1 := fun p _ => lk_sd hLk _ _ p
  have hwo := hRf.1
  have hwc := hRf.2
  have htot := to_lt hPe hBo (laD wk dr) (sdF cs (txV bb sz wk (laD wk dr)))
  have e1 := cr_eq hBo gr ki ma (laD wk dr) (sdF cs (txV bb sz wk (laD wk dr)))
  have e2 := to_eq hBo gr ki ma (laD wk dr) (sdF cs (txV bb sz wk (laD wk dr)))
  have hts := hTp.1
  have htb := hTp.2.1
  have hbo := hTp.2.2
  refine ⟨.int (nI (layN w n)), 32, 34, _, _, by decide, by decide, Or.inl ⟨rfl, _, rfl⟩, Ct.sub [0, 49, 40, 45, 46] rfl rfl ?_ (ct_sheet_o l g (a 0) (a 1) (a 9) (a 17) (a 24) (a 33) (a 36) (a 39) (a 40) (a 49) ts kp fi (a 45) (a 46) (sb 2) (sn 2) (sv 2) shF 2 w n (by decide) (hSh.1.2.2.1) (hw) (by omega) (hn)), Ct.sub [0, 3, 9, 10, 11] rfl rfl ?_ (ct_nsheet_o l g (b 0) (b 1) (b 2) (b 3) (b 4) (b 5) (b 6) (b 7) (b 8) (b 9) (b 10) (b 11) (b 12) (b 13) (b 14) (b 15) (b 16) (b 17) (b 18) (b 19) ts nta nop npr nac kp nbd 0 nnw nsn nwn fi nbo nsz nnu 2 w n (by decide) (hw) (by omega) (hn)), ?_⟩
  · rintro v w ⟨rfl, rfl⟩; rfl
  · rintro v w ⟨rfl, rfl⟩; rfl
  · rintro v1 w1 v2 w2 ⟨wq1, ⟨rfl, rfl⟩, rfl⟩ ⟨wq2, ⟨rfl, rfl⟩, rfl⟩
    refine ⟨rfl, rfl, rel_mk g a b gr wk br cs lk sz z ru ki ma bp bt bb hd dr co ce kgr kwk kbr kcs klk ksz kz kru kki kma kbp kbt kbb khd kdr kco kce kp nkf ts fi tb bo rn0 rc0 ra0 rft f0 tot lat se sw sd li th tw cr by_ va su mk sk wsm tk shF (updN sb 2 w) (updN sn 2 (layN w n)) (upW sv 2 (fun _ => 0)) nta nop npr nac nbd nnw nsn nwn nli nal nlo nwi ntr nbg now_ nis (upd nbo 2 (if nI w = 0 then (-1) else nI w)) (updN nsz 2 (if w = 0 then 0 else n)) (fun j => if 40 * 2 ≤ j ∧ j < 40 * 2 + 40 then 0 else nnu j) ?_ ?_ hPe hBk hBo hLk hRu hKp hTp (sh_sheet hSh 2 hw3 hn) hCr hRf⟩
    · simp only [e1, e2, xW, nW, xSet, List.set_cons_zero, List.set_cons_succ, nI_zero, updN_self, upW_self, upW_01, upW_02, upW_03, upW_10, upW_12, upW_13, upW_20, upW_21, upW_23, upW_30, upW_31, upW_32, updN_01, updN_02, updN_03, updN_10, updN_12, updN_13, updN_20, updN_21, updN_23, updN_30, updN_31, updN_32]
    · simp only [xW, nW, xSet, List.set_cons_zero, List.set_cons_succ, nI_zero, updN_self, upW_self, upW_01, upW_02, upW_03, upW_10, upW_12, upW_13, upW_20, upW_21, upW_23, upW_30, upW_31, upW_32, updN_01, updN_02, updN_03, updN_10, updN_12, updN_13, updN_20, updN_21, updN_23, updN_30, updN_31, updN_32]

set_option maxRecDepth 100000 in
set_option maxHeartbeats 4000000 in
theorem pr_sheet_o3 (l : Launch) (g : XG) (a b : Nat → Nat) (gr wk br cs lk sz : Nat) (z : Int32) (ru ki ma bp bt bb hd dr : Nat → Nat) (co ce : Nat → Int32) (kgr kwk kbr kcs klk ksz : Nat) (kz : Int32) (kru kki kma kbp kbt kbb khd kdr : Nat → Nat) (kco kce : Nat → Int32) (kp : Int32) (nkf : Nat → Int32) (ts : Nat) (fi tb bo : Nat → Nat) (rn0 rc0 ra0 : Nat) (rft : Int32) (f0 : Nat → Int32) (tot lat : Nat) (se sw : Int32) (sd li th tw cr by_ : Nat → Nat) (va su : Nat → Int64) (mk : Nat → Nat) (sk : Nat → Int32) (wsm : Nat → Int64) (tk : Nat → Nat) (shF : Nat → Option Nat) (sb sn : Nat → Nat) (sv : Nat → Nat → Int64) (nta nop npr nac : Nat) (nbd nnw nsn nwn : Int32) (nli nal nlo nwi ntr nbg now_ : Nat → Nat) (nis nbo : Nat → Int32) (nsz : Nat → Nat) (nnu : Nat → Int64) (hPe : PeI gr ki ma) (hBk : BkI wk ce dr) (hBo : BoI br bp bt hd) (hLk : LkI cs co lk sz bb) (hRu : RuI ru) (hKp : KpI kp nkf kgr kwk kbr kcs klk ksz kz kru kki kma kbp kbt kbb khd kdr kco kce) (hTp : TpI ts tb bo) (hSh : ShI a shF sb sn sv nbo nsz nnu) (hCr : CrI gr wk br cs sz ki ma bp bt bb dr tot lat se sw sd cr th tw) (hRf : RfI gr wk cs sz ki ma hd bb dr nnw nsn nwn nli nal nlo nwi nac) (w n : Nat) (hw : nI w = 0 ∨ ¬ wdI (nI w) = 0) (hw3 : w = 0 ∨ w = 8 ∨ w = 16 ∨ w = 64) (hn : n ≤ 40) : PairP l g yX8_sheet cX8_sheet 4 (some .int) [.ref ((a 0)), .int 3, .int (nI w), .int (nI n)] yX9_sheet cX9_sheet 5 (some .int) [.ref ((b 0)), .int 3, .int (nI w), .int (nI n)] (xW g a gr wk br cs z ru ki ma bp bt co ce kgr kwk kbr kcs kz kru kki kma kbp kbt kco kce kp ts fi tb bo rn0 rc0 ra0 rft f0 tot lat se sw sd li th tw cr by_ va su mk sk wsm tk shF sb sn sv) (nW g b gr wk lk sz br z ru ki ma bb ce hd kp nkf ts fi tb nta nop npr nac nbd nnw nsn nwn nli nal nlo nwi ntr nbg now_ nis nbo nsz nnu) (Rel g a b) := by
  have hgr := hPe.1
  have hki := hPe.2.1
  have hma := hPe.2.2
  have hwk := hBk.1
  have hlat := core_lat hBk
  have hL := core_L hBk
  have hbr := hBo.1
  have hbp := hBo.2.1
  have hbt := hBo.2.2.1
  have hhd := hBo.2.2.2.2.2.2
  have hcs := hLk.1
  have hsz := hLk.2.1
  have hbb := hLk.2.2.1
  have hlk := lk_le hLk
  have hV : cs ≠ 0 → ∀ p, p < 495 → evR (nmI wk (laD wk dr) p) (cdF co 0 cs) [] = some [(txV bb sz wk (laD wk dr)) p] := fun q p _ => hLk.2.2.2.2 q wk (laD wk dr) p
  have hse := hCr.1
  have hsw := hCr.2
  have hsd := sdD_le cs bb sz wk (laD wk dr)
  have hsv : ∀ p, p < 495 → sdF cs (txV bb sz wk (laD wk dr)) p = if lk = 1 then clN (txV bb sz wk (laD wk dr) p) else 1 := fun p _ => lk_sd hLk _ _ p
  have hwo := hRf.1
  have hwc := hRf.2
  have htot := to_lt hPe hBo (laD wk dr) (sdF cs (txV bb sz wk (laD wk dr)))
  have e1 := cr_eq hBo gr ki ma (laD wk dr) (sdF cs (txV bb sz wk (laD wk dr)))
  have e2 := to_eq hBo gr ki ma (laD wk dr) (sdF cs (txV bb sz wk (laD wk dr)))
  have hts := hTp.1
  have htb := hTp.2.1
  have hbo := hTp.2.2
  refine ⟨.int (nI (layN w n)), 32, 34, _, _, by decide, by decide, Or.inl ⟨rfl, _, rfl⟩, Ct.sub [0, 49, 40, 47, 48] rfl rfl ?_ (ct_sheet_o l g (a 0) (a 1) (a 9) (a 17) (a 24) (a 33) (a 36) (a 39) (a 40) (a 49) ts kp fi (a 47) (a 48) (sb 3) (sn 3) (sv 3) shF 3 w n (by decide) (hSh.1.2.2.2) (hw) (by omega) (hn)), Ct.sub [0, 3, 9, 10, 11] rfl rfl ?_ (ct_nsheet_o l g (b 0) (b 1) (b 2) (b 3) (b 4) (b 5) (b 6) (b 7) (b 8) (b 9) (b 10) (b 11) (b 12) (b 13) (b 14) (b 15) (b 16) (b 17) (b 18) (b 19) ts nta nop npr nac kp nbd 0 nnw nsn nwn fi nbo nsz nnu 3 w n (by decide) (hw) (by omega) (hn)), ?_⟩
  · rintro v w ⟨rfl, rfl⟩; rfl
  · rintro v w ⟨rfl, rfl⟩; rfl
  · rintro v1 w1 v2 w2 ⟨wq1, ⟨rfl, rfl⟩, rfl⟩ ⟨wq2, ⟨rfl, rfl⟩, rfl⟩
    refine ⟨rfl, rfl, rel_mk g a b gr wk br cs lk sz z ru ki ma bp bt bb hd dr co ce kgr kwk kbr kcs klk ksz kz kru kki kma kbp kbt kbb khd kdr kco kce kp nkf ts fi tb bo rn0 rc0 ra0 rft f0 tot lat se sw sd li th tw cr by_ va su mk sk wsm tk shF (updN sb 3 w) (updN sn 3 (layN w n)) (upW sv 3 (fun _ => 0)) nta nop npr nac nbd nnw nsn nwn nli nal nlo nwi ntr nbg now_ nis (upd nbo 3 (if nI w = 0 then (-1) else nI w)) (updN nsz 3 (if w = 0 then 0 else n)) (fun j => if 40 * 3 ≤ j ∧ j < 40 * 3 + 40 then 0 else nnu j) ?_ ?_ hPe hBk hBo hLk hRu hKp hTp (sh_sheet hSh 3 hw3 hn) hCr hRf⟩
    · simp only [e1, e2, xW, nW, xSet, List.set_cons_zero, List.set_cons_succ, nI_zero, updN_self, upW_self, upW_01, upW_02, upW_03, upW_10, upW_12, upW_13, upW_20, upW_21, upW_23, upW_30, upW_31, upW_32, updN_01, updN_02, updN_03, updN_10, updN_12, updN_13, updN_20, updN_21, updN_23, updN_30, updN_31, updN_32]
    · simp only [xW, nW, xSet, List.set_cons_zero, List.set_cons_succ, nI_zero, updN_self, upW_self, upW_01, upW_02, upW_03, upW_10, upW_12, upW_13, upW_20, upW_21, upW_23, upW_30, upW_31, upW_32, updN_01, updN_02, updN_03, updN_10, updN_12, updN_13, updN_20, updN_21, updN_23, updN_30, updN_31, updN_32]

set_option maxRecDepth 100000 in
set_option maxHeartbeats 4000000 in
theorem pm_sheet (l : Launch) (g : XG) (a b : Nat → Nat) {wX wM : va_W} (hR : Rel g a b wX wM) (x : Int32) (y : Int32) (z0 : Int32) : PairP l g yX8_sheet cX8_sheet 4 (some .int) [.ref (a 0), .int x, .int y, .int z0] yX9_sheet cX9_sheet 5 (some .int) [.ref (b 0), .int x, .int y, .int z0] wX wM (Rel g a b) := by
  refine rel_elim hR (fun gr wk br cs lk sz z ru ki ma bp bt bb hd dr co ce kgr kwk kbr kcs klk ksz kz kru kki kma kbp kbt kbb khd kdr kco kce kp nkf ts fi tb bo rn0 rc0 ra0 rft f0 tot lat se sw sd li th tw cr by_ va su mk sk wsm tk shF sb sn sv nta nop npr nac nbd nnw nsn nwn nli nal nlo nwi ntr nbg now_ nis nbo nsz nnu hx hm hPe hBk hBo hLk hRu hKp hTp hSh hCr hRf => ?_)
  subst hx
  subst hm
  by_cases hw : y = 0 ∨ ¬ wdI y = 0
  rotate_left
  · exact pr_sheet_b l g a b gr wk br cs lk sz z ru ki ma bp bt bb hd dr co ce kgr kwk kbr kcs klk ksz kz kru kki kma kbp kbt kbb khd kdr kco kce kp nkf ts fi tb bo rn0 rc0 ra0 rft f0 tot lat se sw sd li th tw cr by_ va su mk sk wsm tk shF sb sn sv nta nop npr nac nbd nnw nsn nwn nli nal nlo nwi ntr nbg now_ nis nbo nsz nnu hPe hBk hBo hLk hRu hKp hTp hSh hCr hRf x y z0 (Or.inr ⟨fun q => hw (Or.inl q), Classical.byContradiction fun q => hw (Or.inr q)⟩)
  rcases wI_cases x (a := 0) (b := 3) (by decide) (by decide) with h | ⟨s, rfl, -, hs⟩
  · exact pr_sheet_b l g a b gr wk br cs lk sz z ru ki ma bp bt bb hd dr co ce kgr kwk kbr kcs klk ksz kz kru kki kma kbp kbt kbb khd kdr kco kce kp nkf ts fi tb bo rn0 rc0 ra0 rft f0 tot lat se sw sd li th tw cr by_ va su mk sk wsm tk shF sb sn sv nta nop npr nac nbd nnw nsn nwn nli nal nlo nwi ntr nbg now_ nis nbo nsz nnu hPe hBk hBo hLk hRu hKp hTp hSh hCr hRf x y z0 (Or.inl h)
  obtain ⟨w, rfl, hw3⟩ := wd_nat hw
  by_cases c1 : z0 < 0
  · exact pr_sheet_z l g a b gr wk br cs lk sz z ru ki ma bp bt bb hd dr co ce kgr kwk kbr kcs klk ksz kz kru kki kma kbp kbt kbb khd kdr kco kce kp nkf ts fi tb bo rn0 rc0 ra0 rft f0 tot lat se sw sd li th tw cr by_ va su mk sk wsm tk shF sb sn sv nta nop npr nac nbd nnw nsn nwn nli nal nlo nwi ntr nbg now_ nis nbo nsz nnu hPe hBk hBo hLk hRu hKp hTp hSh hCr hRf s (nI w) z0 (by omega) hw c1
  by_cases c2 : 40 < z0
  · exact pr_sheet_c l g a b gr wk br cs lk sz z ru ki ma bp bt bb hd dr co ce kgr kwk kbr kcs klk ksz kz kru kki kma kbp kbt kbb khd kdr kco kce kp nkf ts fi tb bo rn0 rc0 ra0 rft f0 tot lat se sw sd li th tw cr by_ va su mk sk wsm tk shF sb sn sv nta nop npr nac nbd nnw nsn nwn nli nal nlo nwi ntr nbg now_ nis nbo nsz nnu hPe hBk hBo hLk hRu hKp hTp hSh hCr hRf s (nI w) z0 (by omega) hw c2
  obtain ⟨n, rfl, hn⟩ := le40_nat c1 c2
  rcases (by omega : s = 0 ∨ s = 1 ∨ s = 2 ∨ s = 3) with rfl | rfl | rfl | rfl
  · exact pr_sheet_o0 l g a b gr wk br cs lk sz z ru ki ma bp bt bb hd dr co ce kgr kwk kbr kcs klk ksz kz kru kki kma kbp kbt kbb khd kdr kco kce kp nkf ts fi tb bo rn0 rc0 ra0 rft f0 tot lat se sw sd li th tw cr by_ va su mk sk wsm tk shF sb sn sv nta nop npr nac nbd nnw nsn nwn nli nal nlo nwi ntr nbg now_ nis nbo nsz nnu hPe hBk hBo hLk hRu hKp hTp hSh hCr hRf w n hw hw3 hn
  · exact pr_sheet_o1 l g a b gr wk br cs lk sz z ru ki ma bp bt bb hd dr co ce kgr kwk kbr kcs klk ksz kz kru kki kma kbp kbt kbb khd kdr kco kce kp nkf ts fi tb bo rn0 rc0 ra0 rft f0 tot lat se sw sd li th tw cr by_ va su mk sk wsm tk shF sb sn sv nta nop npr nac nbd nnw nsn nwn nli nal nlo nwi ntr nbg now_ nis nbo nsz nnu hPe hBk hBo hLk hRu hKp hTp hSh hCr hRf w n hw hw3 hn
  · exact pr_sheet_o2 l g a b gr wk br cs lk sz z ru ki ma bp bt bb hd dr co ce kgr kwk kbr kcs klk ksz kz kru kki kma kbp kbt kbb khd kdr kco kce kp nkf ts fi tb bo rn0 rc0 ra0 rft f0 tot lat se sw sd li th tw cr by_ va su mk sk wsm tk shF sb sn sv nta nop npr nac nbd nnw nsn nwn nli nal nlo nwi ntr nbg now_ nis nbo nsz nnu hPe hBk hBo hLk hRu hKp hTp hSh hCr hRf w n hw hw3 hn
  · exact pr_sheet_o3 l g a b gr wk br cs lk sz z ru ki ma bp bt bb hd dr co ce kgr kwk kbr kcs klk ksz kz kru kki kma kbp kbt kbb khd kdr kco kce kp nkf ts fi tb bo rn0 rc0 ra0 rft f0 tot lat se sw sd li th tw cr by_ va su mk sk wsm tk shF sb sn sv nta nop npr nac nbd nnw nsn nwn nli nal nlo nwi ntr nbg now_ nis nbo nsz nnu hPe hBk hBo hLk hRu hKp hTp hSh hCr hRf w n hw hw3 hn
