/-! ===== the relation of the two worlds: its pieces ===== -/
def laD (wk : Nat) (dr : Nat → Nat) : Nat := if wk = 0 then 0 else dr (wk - 1)
def PeI (gr : Nat) (ki ma : Nat → Nat) : Prop := gr ≤ 12 ∧ (∀ j, ki j ≤ 7) ∧ (∀ j, ma j ≤ 99999)
def BkI (wk : Nat) (ce : Nat → Int32) (dr : Nat → Nat) : Prop := wk ≤ 40 ∧ (∀ w, w < wk → ce (w * 8) = nI (dr w)) ∧ (∀ w, dr w < 4096)
def BoI (br : Nat) (bp bt hd : Nat → Nat) : Prop := br ≤ 40 ∧ (∀ j, bp j < 495) ∧ (∀ j, bt j ≤ 99999) ∧ (∀ i, i < br → 0 < bt i) ∧ (∀ i j, i < j → j < br → bp i ≠ bp j) ∧ (∀ p, hd p = sumN (fun i => if bp i = p then bt i else 0) br) ∧ (∀ p, hd p ≤ 99999)
def LkI (cs : Nat) (co : Nat → Int32) (lk sz : Nat) (bb : Nat → Nat) : Prop := cs ≤ 60 ∧ sz ≤ 60 ∧ (∀ j, bb j < 256) ∧ lk = (if cs = 0 then 0 else 1) ∧ (cs ≠ 0 → ∀ w L p, evR (nmI w L p) (cdF co 0 cs) [] = some [txV bb sz w L p])
def RuI (ru : Nat → Nat) : Prop := ∀ w, w < 8 → rlN w ≤ ru w ∧ ru w ≤ rmN w
def KpI (kp : Int32) (nkf : Nat → Int32) (kgr kwk kbr kcs klk ksz : Nat) (kz : Int32) (kru kki kma kbp kbt kbb khd kdr : Nat → Nat) (kco kce : Nat → Int32) : Prop := (kp = 0 ∨ kp = 1) ∧ (kp = 1 → PeI kgr kki kma ∧ BkI kwk kce kdr ∧ BoI kbr kbp kbt khd ∧ LkI kcs kco klk ksz kbb ∧ RuI kru ∧ nkf = msF kgr kwk kz klk ksz kbr kru kki kma kbb kce khd)
def TpI (ts : Nat) (tb bo : Nat → Nat) : Prop := ts ≤ 60 ∧ (∀ j, tb j < 256) ∧ (∀ j, bo j < 256)
def ShI (a : Nat → Nat) (shF : Nat → Option Nat) (sb sn : Nat → Nat) (sv : Nat → Nat → Int64) (nbo : Nat → Int32) (nsz : Nat → Nat) (nnu : Nat → Int64) : Prop := (shF 0 = some (a 41) ∧ shF 1 = some (a 43) ∧ shF 2 = some (a 45) ∧ shF 3 = some (a 47)) ∧ ∀ s, s < 4 → (sb s = 0 ∨ sb s = 8 ∨ sb s = 16 ∨ sb s = 64) ∧ sn s ≤ 40 ∧ nbo s = (if sb s = 0 then -1 else nI (sb s)) ∧ nsz s = sn s ∧ ∀ j, j < 40 → nnu (40 * s + j) = sv s j
/-- the row said of a liking -/
abbrev sdD (cs : Nat) (bb : Nat → Nat) (sz wk L : Nat) : Nat → Nat := sdF cs (txV bb sz wk L)
def CrI (gr wk br cs sz : Nat) (ki ma bp bt bb dr : Nat → Nat) (tot lat : Nat) (se sw : Int32) (sd cr th tw : Nat → Nat) : Prop :=
  (se = 0 ∨ (se = 1 ∧ sd = sdF cs (txV bb sz wk (laD wk dr)) ∧ cr = crF gr ki ma bp bt br (laD wk dr) (sdF cs (txV bb sz wk (laD wk dr))) ∧ tot = totF gr ki ma bp bt br (laD wk dr) (sdF cs (txV bb sz wk (laD wk dr))) ∧ lat = laD wk dr)) ∧
  (sw = 0 ∨ (sw = 1 ∧ th = thF (crF gr ki ma bp bt br (laD wk dr) (sdF cs (txV bb sz wk (laD wk dr)))) ∧ tw = twF (crF gr ki ma bp bt br (laD wk dr) (sdF cs (txV bb sz wk (laD wk dr))))))
def RfI (gr wk cs sz : Nat) (ki ma hd bb dr : Nat → Nat) (nnw nsn nwn : Int32) (nli nal nlo nwi : Nat → Nat) (nac : Nat) : Prop :=
  ((nnw = 1 ∧ (nsn = 1 ∨ (nsn = 0 ∧ nli = sdD cs bb sz wk (laD wk dr)))) ∨ (nnw = 0 ∧ nsn = 0 ∧ nli = sdD cs bb sz wk (laD wk dr) ∧ nal = crH gr ki ma hd (laD wk dr) (sdD cs bb sz wk (laD wk dr)) ∧ nac = toH gr ki ma hd (laD wk dr) (sdD cs bb sz wk (laD wk dr)) ∧ ∀ q, q < gr → nlo q = laN (ki q) (ma q) (laD wk dr) (sdD cs bb sz wk (laD wk dr)))) ∧
  (wnI nnw nwn = 1 ∨ (wnI nnw nwn = 0 ∧ nwi = wiF (crH gr ki ma hd (laD wk dr) (sdD cs bb sz wk (laD wk dr)))))
theorem core_lat {wk : Nat} {ce : Nat → Int32} {dr : Nat → Nat} (h : BkI wk ce dr) : latI ce wk = nI (laD wk dr) := by
  unfold latI laD
  by_cases e : wk = 0
  · rw [if_pos e, if_pos e]; rfl
  · rw [if_neg e, if_neg e]; exact h.2.1 (wk - 1) (by omega)
theorem core_L {wk : Nat} {ce : Nat → Int32} {dr : Nat → Nat} (h : BkI wk ce dr) : laD wk dr < 4096 := by
  unfold laD; split
  · decide
  · exact h.2.2 _
theorem lk_le {cs lk sz : Nat} {co : Nat → Int32} {bb : Nat → Nat} (h : LkI cs co lk sz bb) : lk ≤ 1 := by rw [h.2.2.2.1]; split <;> omega
theorem lk_sd {cs lk sz : Nat} {co : Nat → Int32} {bb : Nat → Nat} (h : LkI cs co lk sz bb) (w L p : Nat) : sdD cs bb sz w L p = if lk = 1 then clN (txV bb sz w L p) else 1 := by
  unfold sdD sdF sayN
  rw [h.2.2.2.1]
  by_cases e : cs = 0
  · rw [if_pos e, if_pos e, if_neg (by decide)]
  · rw [if_neg e, if_neg e, if_pos rfl]
theorem sdD_le (cs : Nat) (bb : Nat → Nat) (sz w L : Nat) : ∀ p, sdD cs bb sz w L p ≤ 99 := sdF_le cs (txV bb sz w L)
theorem cr_eq {br : Nat} {bp bt hd : Nat → Nat} (h : BoI br bp bt hd) (gr : Nat) (ki ma : Nat → Nat) (L : Nat) (sd : Nat → Nat) : crF gr ki ma bp bt br L sd = crH gr ki ma hd L sd := by
  funext p
  unfold crF crH
  rw [h.2.2.2.2.2.1 p, Nat.add_comm]
theorem to_eq {br : Nat} {bp bt hd : Nat → Nat} (h : BoI br bp bt hd) (gr : Nat) (ki ma : Nat → Nat) (L : Nat) (sd : Nat → Nat) : totF gr ki ma bp bt br L sd = toH gr ki ma hd L sd := by
  unfold totF toH
  rw [cr_eq h]
theorem cr_le {gr br : Nat} {ki ma bp bt hd : Nat → Nat} (hp : PeI gr ki ma) (h : BoI br bp bt hd) (L : Nat) (sd : Nat → Nat) {p : Nat} (h4 : p < 495) : crH gr ki ma hd L sd p ≤ 1299987 := by
  unfold crH
  have h1 := h.2.2.2.2.2.2 p
  have h2 : sumN (fun q => shN (ki q) (ma q) p L sd) gr ≤ gr * 99999 := sumN_le (fun q _ => Nat.le_trans (shN_le h4) (hp.2.2 q))
  have h3 : gr * 99999 ≤ 12 * 99999 := Nat.mul_le_mul_right _ hp.1
  omega
theorem to_lt {gr br : Nat} {ki ma bp bt hd : Nat → Nat} (hp : PeI gr ki ma) (h : BoI br bp bt hd) (L : Nat) (sd : Nat → Nat) : toH gr ki ma hd L sd < 2 ^ 30 := by
  unfold toH
  have h2 : sumN (crH gr ki ma hd L sd) 495 ≤ 495 * 1299987 := sumN_le (fun p hp4 => cr_le hp h L sd hp4)
  omega
theorem rf_said {gr wk cs sz : Nat} {ki ma hd bb dr : Nat → Nat} {nnw nsn nwn : Int32} {nli nal nlo nwi : Nat → Nat} {nac : Nat} (h : RfI gr wk cs sz ki ma hd bb dr nnw nsn nwn nli nal nlo nwi nac) : nsn = 1 ∨ (nsn = 0 ∧ nli = sdD cs bb sz wk (laD wk dr)) := by
  rcases h.1 with q | q
  · exact q.2
  · exact Or.inr ⟨q.2.1, q.2.2.1⟩
theorem wnI_1 (x : Int32) : wnI 1 x = 1 := by unfold wnI; rw [if_neg (by decide)]
theorem wnI_0 (x : Int32) : wnI 0 x = x := by unfold wnI; rw [if_pos rfl]
/-! arguments -/
theorem wI_cases (v : Int32) {a b : Nat} (ha : a < 2 ^ 31) (hb : b < 2 ^ 31) : wI v (nI a) (nI b) = 0 ∨ ∃ n, v = nI n ∧ a ≤ n ∧ n ≤ b := by
  unfold wI
  by_cases c1 : v < nI a
  · rw [if_pos c1]; exact Or.inl rfl
  rw [if_neg c1]
  by_cases c2 : nI b < v
  · rw [if_pos c2]; exact Or.inl rfl
  have c3 : ¬ v < 0 := fun q => c1 (fa_trans q (nI_pos' ha))
  obtain ⟨n, hn, rfl⟩ := nI_of c3
  right
  refine ⟨n, rfl, ?_, ?_⟩
  · exact Nat.le_of_not_lt (fun q => c1 ((nI_ltI hn ha).mpr q))
  · exact Nat.le_of_not_lt (fun q => c2 ((nI_ltI hb hn).mpr q))
theorem wI_pp (v : Int32) {gr : Nat} (h : gr ≤ 12) : wI v 0 (nI gr - 1) = 0 ∨ ∃ q, v = nI q ∧ q < gr ∧ gr ≤ 12 := by
  rcases Nat.eq_zero_or_pos gr with e | e
  · subst e
    left
    unfold wI
    by_cases c : v < 0
    · rw [if_pos c]
    · obtain ⟨j, hj, rfl⟩ := nI_of c
      rw [if_neg c, if_pos]
      rw [fa_lt, nI_toInt hj, show (nI 0 - 1 : Int32).toInt = -1 from rfl]; omega
  · rw [show nI gr - 1 = nI (gr - 1) from nI_isub gr 1 e]
    rcases wI_cases v (a := 0) (b := gr - 1) (by decide) (by omega) with q | ⟨n, e1, e2, e3⟩
    · exact Or.inl q
    · exact Or.inr ⟨n, e1, by omega, h⟩
theorem wI_wk (v : Int32) {wk : Nat} (h : wk ≤ 40) : wI v 0 (nI wk - 1) = 0 ∨ ∃ q, v = nI q ∧ q < wk ∧ wk ≤ 40 := by
  rcases Nat.eq_zero_or_pos wk with e | e
  · subst e
    left
    unfold wI
    by_cases c : v < 0
    · rw [if_pos c]
    · obtain ⟨j, hj, rfl⟩ := nI_of c
      rw [if_neg c, if_pos]
      rw [fa_lt, nI_toInt hj, show (nI 0 - 1 : Int32).toInt = -1 from rfl]; omega
  · rw [show nI wk - 1 = nI (wk - 1) from nI_isub wk 1 e]
    rcases wI_cases v (a := 0) (b := wk - 1) (by decide) (by omega) with q | ⟨n, e1, e2, e3⟩
    · exact Or.inl q
    · exact Or.inr ⟨n, e1, by omega, h⟩

set_option maxRecDepth 100000 in
def xW (g : XG) (a : Nat → Nat) (gr wk br cs : Nat) (z : Int32) (ru ki ma bp bt : Nat → Nat) (co ce : Nat → Int32) (kgr kwk kbr kcs : Nat) (kz : Int32) (kru kki kma kbp kbt : Nat → Nat) (kco kce : Nat → Int32) (kp : Int32) (ts : Nat) (fi tb bo : Nat → Nat) (rn0 rc0 ra0 : Nat) (rft : Int32) (f0 : Nat → Int32) (tot lat : Nat) (se sw : Int32) (sd li th tw cr by_ : Nat → Nat) (va su : Nat → Int64) (mk : Nat → Nat) (sk : Nat → Int32) (wsm : Nat → Int64) (tk : Nat → Nat) (shF : Nat → Option Nat) (sb sn : Nat → Nat) (sv : Nat → Nat → Int64) : va_W := [((a 0), .inr (8, [.ref (a 1), .ref (a 9), .ref (a 17), .ref (a 24), .ref (a 33), .ref (a 36), .ref (a 39), .ref (a 40), .ref (a 49), .int (nI ts), .int kp])), ((a 1), .inr (6, [.ref (a 2), .ref (a 3), .ref (a 4), .ref (a 5), .ref (a 6), .ref (a 7), .ref (a 8), .int (nI gr), .int (nI br), .int (nI cs), .int (nI wk), .int z])), ((a 2), .inl (g.2.1 0, 12, .inl (nIf ki))), ((a 3), .inl (g.2.1 0, 12, .inl (nIf ma))), ((a 4), .inl (g.2.1 0, 40, .inl (nIf bp))), ((a 5), .inl (g.2.1 0, 40, .inl (nIf bt))), ((a 6), .inl (g.2.1 0, 60, .inl co)), ((a 7), .inl (g.2.1 0, 8, .inl (nIf ru))), ((a 8), .inl (g.2.1 0, 320, .inl ce)), ((a 9), .inr (6, [.ref (a 10), .ref (a 11), .ref (a 12), .ref (a 13), .ref (a 14), .ref (a 15), .ref (a 16), .int (nI kgr), .int (nI kbr), .int (nI kcs), .int (nI kwk), .int kz])), ((a 10), .inl (g.2.1 0, 12, .inl (nIf kki))), ((a 11), .inl (g.2.1 0, 12, .inl (nIf kma))), ((a 12), .inl (g.2.1 0, 40, .inl (nIf kbp))), ((a 13), .inl (g.2.1 0, 40, .inl (nIf kbt))), ((a 14), .inl (g.2.1 0, 60, .inl kco)), ((a 15), .inl (g.2.1 0, 8, .inl (nIf kru))), ((a 16), .inl (g.2.1 0, 320, .inl kce)), ((a 17), .inr (5, [.ref (a 18), .ref (a 19)])), ((a 18), .inl (g.2.1 0, 495, .inl (nIf rowB))), ((a 19), .inl (g.2.1 0, 495, .inl (nIf packB))), ((a 20), .inr (3, [.ref (a 21), .ref (a 22), .ref (a 23), .ref (a 17)])), ((a 21), .inl (g.2.1 2, 495, .inr (.inl va))), ((a 22), .inl (g.2.1 2, 286, .inr (.inl su))), ((a 23), .inl (g.2.1 0, 10, .inl (nIf mk))), ((a 24), .inr (0, [.ref (a 1), .ref (a 17), .ref (a 31), .ref (a 20), .ref (a 25), .ref (a 26), .ref (a 27), .ref (a 28), .ref (a 29), .ref (a 30), .int (nI tot), .int (nI lat), .int se, .int sw])), ((a 25), .inl (g.2.1 0, 495, .inl (nIf sd))), ((a 26), .inl (g.2.1 0, 495, .inl (nIf li))), ((a 27), .inl (g.2.1 0, 495, .inl (nIf th))), ((a 28), .inl (g.2.1 0, 495, .inl (nIf tw))), ((a 29), .inl (g.2.1 0, 495, .inl (nIf cr))), ((a 30), .inl (g.2.1 0, 5, .inl (nIf by_))), ((a 31), .inr (2, [.ref (a 1), .ref (a 32)])), ((a 32), .inl (g.2.1 0, 60, .inl sk)), ((a 33), .inr (7, [.ref (a 1), .ref (a 17), .ref (a 24), .ref (a 20), .ref (a 34), .ref (a 35)])), ((a 34), .inl (g.2.1 2, 495, .inr (.inl wsm))), ((a 35), .inl (g.2.1 0, 495, .inl (nIf tk))), ((a 36), .inr (1, [.ref (a 37), .ref (a 38), .int (nI rn0), .int (nI rc0), .int (nI ra0), .int rft])), ((a 37), .inl (g.2.1 1, 60, .inl (fun j => sgB (bo j)))), ((a 38), .inl (g.2.1 0, 60, .inl f0)), ((a 39), .inl (g.2.1 1, 60, .inl (fun j => sgB (tb j)))), ((a 40), .inl (g.2.1 4, 4, .inr (.inr (.inr (.inr shF))))), ((a 41), .inr (4, [.ref (a 42), .int (nI (sb 0)), .int (nI (sn 0))])), ((a 42), .inl (g.2.1 2, 40, .inr (.inl (sv 0)))), ((a 43), .inr (4, [.ref (a 44), .int (nI (sb 1)), .int (nI (sn 1))])), ((a 44), .inl (g.2.1 2, 40, .inr (.inl (sv 1)))), ((a 45), .inr (4, [.ref (a 46), .int (nI (sb 2)), .int (nI (sn 2))])), ((a 46), .inl (g.2.1 2, 40, .inr (.inl (sv 2)))), ((a 47), .inr (4, [.ref (a 48), .int (nI (sb 3)), .int (nI (sn 3))])), ((a 48), .inl (g.2.1 2, 40, .inr (.inl (sv 3)))), ((a 49), .inl (g.2.1 0, 7, .inl (nIf fi)))]
set_option maxRecDepth 100000 in
def nW (g : XG) (b : Nat → Nat) (gr wk lk sz br : Nat) (z : Int32) (ru ki ma bb : Nat → Nat) (ce : Nat → Int32) (hd : Nat → Nat) (kp : Int32) (nkf : Nat → Int32) (ts : Nat) (fi tb : Nat → Nat) (nta nop npr nac : Nat) (nbd nnw nsn nwn : Int32) (nli nal nlo nwi ntr nbg now_ : Nat → Nat) (nis nbo : Nat → Int32) (nsz : Nat → Nat) (nnu : Nat → Int64) : va_W := [((b 0), .inr (9, [.ref (b 1), .ref (b 2), .int kp, .ref (b 3), .ref (b 4), .ref (b 5), .ref (b 6), .ref (b 7), .ref (b 8), .int (nI ts), .ref (b 9), .ref (b 10), .ref (b 11), .int (nI nta), .int (nI nop), .int nbd, .int 0, .int (nI npr), .int nnw, .int nsn, .int nwn, .ref (b 12), .ref (b 13), .ref (b 14), .int (nI nac), .ref (b 15), .ref (b 16), .ref (b 17), .ref (b 18), .ref (b 19)])), ((b 1), .inl (g.2.1 0, 919, .inl (msF gr wk z lk sz br ru ki ma bb ce hd))), ((b 2), .inl (g.2.1 0, 919, .inl nkf)), ((b 3), .inl (g.2.1 0, 8, .inl (nIf (fnF fi)))), ((b 4), .inl (g.2.1 0, 495, .inl (nIf rowB))), ((b 5), .inl (g.2.1 0, 4096, .inl plI)), ((b 6), .inl (g.2.1 0, 4096, .inl (nIf popN))), ((b 7), .inl (g.2.1 0, 2475, .inl (nIf fcN))), ((b 8), .inl (g.2.1 0, 60, .inl (nIf tb))), ((b 9), .inl (g.2.1 0, 4, .inl nbo)), ((b 10), .inl (g.2.1 0, 4, .inl (nIf nsz))), ((b 11), .inl (g.2.1 2, 160, .inr (.inl nnu))), ((b 12), .inl (g.2.1 0, 495, .inl (nIf nli))), ((b 13), .inl (g.2.1 0, 495, .inl (nIf nal))), ((b 14), .inl (g.2.1 0, 12, .inl (nIf nlo))), ((b 15), .inl (g.2.1 0, 1485, .inl (nIf nwi))), ((b 16), .inl (g.2.1 0, 495, .inl (nIf ntr))), ((b 17), .inl (g.2.1 3, 495, .inl nis)), ((b 18), .inl (g.2.1 0, 495, .inl (nIf nbg))), ((b 19), .inl (g.2.1 0, 5, .inl (nIf now_)))]
/-- the worlds are those of one history -/
def Rel (g : XG) (a b : Nat → Nat) (wX wM : va_W) : Prop := ∃ (gr : Nat) (wk : Nat) (br : Nat) (cs : Nat) (lk : Nat) (sz : Nat) (z : Int32) (ru : Nat → Nat) (ki : Nat → Nat) (ma : Nat → Nat) (bp : Nat → Nat) (bt : Nat → Nat) (bb : Nat → Nat) (hd : Nat → Nat) (dr : Nat → Nat) (co : Nat → Int32) (ce : Nat → Int32) (kgr : Nat) (kwk : Nat) (kbr : Nat) (kcs : Nat) (klk : Nat) (ksz : Nat) (kz : Int32) (kru : Nat → Nat) (kki : Nat → Nat) (kma : Nat → Nat) (kbp : Nat → Nat) (kbt : Nat → Nat) (kbb : Nat → Nat) (khd : Nat → Nat) (kdr : Nat → Nat) (kco : Nat → Int32) (kce : Nat → Int32) (kp : Int32) (nkf : Nat → Int32) (ts : Nat) (fi : Nat → Nat) (tb : Nat → Nat) (bo : Nat → Nat) (rn0 : Nat) (rc0 : Nat) (ra0 : Nat) (rft : Int32) (f0 : Nat → Int32) (tot : Nat) (lat : Nat) (se : Int32) (sw : Int32) (sd : Nat → Nat) (li : Nat → Nat) (th : Nat → Nat) (tw : Nat → Nat) (cr : Nat → Nat) (by_ : Nat → Nat) (va : Nat → Int64) (su : Nat → Int64) (mk : Nat → Nat) (sk : Nat → Int32) (wsm : Nat → Int64) (tk : Nat → Nat) (shF : Nat → Option Nat) (sb : Nat → Nat) (sn : Nat → Nat) (sv : Nat → Nat → Int64) (nta : Nat) (nop : Nat) (npr : Nat) (nac : Nat) (nbd : Int32) (nnw : Int32) (nsn : Int32) (nwn : Int32) (nli : Nat → Nat) (nal : Nat → Nat) (nlo : Nat → Nat) (nwi : Nat → Nat) (ntr : Nat → Nat) (nbg : Nat → Nat) (now_ : Nat → Nat) (nis : Nat → Int32) (nbo : Nat → Int32) (nsz : Nat → Nat) (nnu : Nat → Int64), wX = xW g a gr wk br cs z ru ki ma bp bt co ce kgr kwk kbr kcs kz kru kki kma kbp kbt kco kce kp ts fi tb bo rn0 rc0 ra0 rft f0 tot lat se sw sd li th tw cr by_ va su mk sk wsm tk shF sb sn sv ∧ wM = nW g b gr wk lk sz br z ru ki ma bb ce hd kp nkf ts fi tb nta nop npr nac nbd nnw nsn nwn nli nal nlo nwi ntr nbg now_ nis nbo nsz nnu ∧ PeI gr ki ma ∧ BkI wk ce dr ∧ BoI br bp bt hd ∧ LkI cs co lk sz bb ∧ RuI ru ∧ KpI kp nkf kgr kwk kbr kcs klk ksz kz kru kki kma kbp kbt kbb khd kdr kco kce ∧ TpI ts tb bo ∧ ShI a shF sb sn sv nbo nsz nnu ∧ CrI gr wk br cs sz ki ma bp bt bb dr tot lat se sw sd cr th tw ∧ RfI gr wk cs sz ki ma hd bb dr nnw nsn nwn nli nal nlo nwi nac
theorem rel_mk (g : XG) (a b : Nat → Nat) {wX wM : va_W} (gr wk br cs lk sz : Nat) (z : Int32) (ru ki ma bp bt bb hd dr : Nat → Nat) (co ce : Nat → Int32) (kgr kwk kbr kcs klk ksz : Nat) (kz : Int32) (kru kki kma kbp kbt kbb khd kdr : Nat → Nat) (kco kce : Nat → Int32) (kp : Int32) (nkf : Nat → Int32) (ts : Nat) (fi tb bo : Nat → Nat) (rn0 rc0 ra0 : Nat) (rft : Int32) (f0 : Nat → Int32) (tot lat : Nat) (se sw : Int32) (sd li th tw cr by_ : Nat → Nat) (va su : Nat → Int64) (mk : Nat → Nat) (sk : Nat → Int32) (wsm : Nat → Int64) (tk : Nat → Nat) (shF : Nat → Option Nat) (sb sn : Nat → Nat) (sv : Nat → Nat → Int64) (nta nop npr nac : Nat) (nbd nnw nsn nwn : Int32) (nli nal nlo nwi ntr nbg now_ : Nat → Nat) (nis nbo : Nat → Int32) (nsz : Nat → Nat) (nnu : Nat → Int64) (hx : wX = xW g a gr wk br cs z ru ki ma bp bt co ce kgr kwk kbr kcs kz kru kki kma kbp kbt kco kce kp ts fi tb bo rn0 rc0 ra0 rft f0 tot lat se sw sd li th tw cr by_ va su mk sk wsm tk shF sb sn sv) (hm : wM = nW g b gr wk lk sz br z ru ki ma bb ce hd kp nkf ts fi tb nta nop npr nac nbd nnw nsn nwn nli nal nlo nwi ntr nbg now_ nis nbo nsz nnu) (hPe : PeI gr ki ma) (hBk : BkI wk ce dr) (hBo : BoI br bp bt hd) (hLk : LkI cs co lk sz bb) (hRu : RuI ru) (hKp : KpI kp nkf kgr kwk kbr kcs klk ksz kz kru kki kma kbp kbt kbb khd kdr kco kce) (hTp : TpI ts tb bo) (hSh : ShI a shF sb sn sv nbo nsz nnu) (hCr : CrI gr wk br cs sz ki ma bp bt bb dr tot lat se sw sd cr th tw) (hRf : RfI gr wk cs sz ki ma hd bb dr nnw nsn nwn nli nal nlo nwi nac) : Rel g a b wX wM := ⟨gr, wk, br, cs, lk, sz, z, ru, ki, ma, bp, bt, bb, hd, dr, co, ce, kgr, kwk, kbr, kcs, klk, ksz, kz, kru, kki, kma, kbp, kbt, kbb, khd, kdr, kco, kce, kp, nkf, ts, fi, tb, bo, rn0, rc0, ra0, rft, f0, tot, lat, se, sw, sd, li, th, tw, cr, by_, va, su, mk, sk, wsm, tk, shF, sb, sn, sv, nta, nop, npr, nac, nbd, nnw, nsn, nwn, nli, nal, nlo, nwi, ntr, nbg, now_, nis, nbo, nsz, nnu, hx, hm, hPe, hBk, hBo, hLk, hRu, hKp, hTp, hSh, hCr, hRf⟩
theorem rel_elim {g : XG} {a b : Nat → Nat} {wX wM : va_W} {P : Prop} (h : Rel g a b wX wM) (k : ∀ (gr wk br cs lk sz : Nat) (z : Int32) (ru ki ma bp bt bb hd dr : Nat → Nat) (co ce : Nat → Int32) (kgr kwk kbr kcs klk ksz : Nat) (kz : Int32) (kru kki kma kbp kbt kbb khd kdr : Nat → Nat) (kco kce : Nat → Int32) (kp : Int32) (nkf : Nat → Int32) (ts : Nat) (fi tb bo : Nat → Nat) (rn0 rc0 ra0 : Nat) (rft : Int32) (f0 : Nat → Int32) (tot lat : Nat) (se sw : Int32) (sd li th tw cr by_ : Nat → Nat) (va su : Nat → Int64) (mk : Nat → Nat) (sk : Nat → Int32) (wsm : Nat → Int64) (tk : Nat → Nat) (shF : Nat → Option Nat) (sb sn : Nat → Nat) (sv : Nat → Nat → Int64) (nta nop npr nac : Nat) (nbd nnw nsn nwn : Int32) (nli nal nlo nwi ntr nbg now_ : Nat → Nat) (nis nbo : Nat → Int32) (nsz : Nat → Nat) (nnu : Nat → Int64), wX = xW g a gr wk br cs z ru ki ma bp bt co ce kgr kwk kbr kcs kz kru kki kma kbp kbt kco kce kp ts fi tb bo rn0 rc0 ra0 rft f0 tot lat se sw sd li th tw cr by_ va su mk sk wsm tk shF sb sn sv → wM = nW g b gr wk lk sz br z ru ki ma bb ce hd kp nkf ts fi tb nta nop npr nac nbd nnw nsn nwn nli nal nlo nwi ntr nbg now_ nis nbo nsz nnu → PeI gr ki ma → BkI wk ce dr → BoI br bp bt hd → LkI cs co lk sz bb → RuI ru → KpI kp nkf kgr kwk kbr kcs klk ksz kz kru kki kma kbp kbt kbb khd kdr kco kce → TpI ts tb bo → ShI a shF sb sn sv nbo nsz nnu → CrI gr wk br cs sz ki ma bp bt bb dr tot lat se sw sd cr th tw → RfI gr wk cs sz ki ma hd bb dr nnw nsn nwn nli nal nlo nwi nac → P) : P := by
  obtain ⟨gr, wk, br, cs, lk, sz, z, ru, ki, ma, bp, bt, bb, hd, dr, co, ce, kgr, kwk, kbr, kcs, klk, ksz, kz, kru, kki, kma, kbp, kbt, kbb, khd, kdr, kco, kce, kp, nkf, ts, fi, tb, bo, rn0, rc0, ra0, rft, f0, tot, lat, se, sw, sd, li, th, tw, cr, by_, va, su, mk, sk, wsm, tk, shF, sb, sn, sv, nta, nop, npr, nac, nbd, nnw, nsn, nwn, nli, nal, nlo, nwi, ntr, nbg, now_, nis, nbo, nsz, nnu, hx, hm, hPe, hBk, hBo, hLk, hRu, hKp, hTp, hSh, hCr, hRf⟩ := h
  exact k gr wk br cs lk sz z ru ki ma bp bt bb hd dr co ce kgr kwk kbr kcs klk ksz kz kru kki kma kbp kbt kbb khd kdr kco kce kp nkf ts fi tb bo rn0 rc0 ra0 rft f0 tot lat se sw sd li th tw cr by_ va su mk sk wsm tk shF sb sn sv nta nop npr nac nbd nnw nsn nwn nli nal nlo nwi ntr nbg now_ nis nbo nsz nnu hx hm hPe hBk hBo hLk hRu hKp hTp hSh hCr hRf
def vOK (rx : Option FieldType) (v : Value) : Prop := (rx = some .int ∧ ∃ r, v = .int r) ∨ (rx = some .long ∧ ∃ r, v = .long r)
/-- both sides of a call: the same answer, related worlds -/
def PairP (l : Launch) (g : XG) (yx : MethodName) (cx : ByteArray) (mx : Nat) (rx : Option FieldType) (ax : List Value) (yn : MethodName) (cn : ByteArray) (mn : Nat) (rn : Option FieldType) (an : List Value) (wx wn : va_W) (R : va_W → va_W → Prop) : Prop :=
  ∃ (v : Value) (kx kn : Nat) (PX PM : Option Value → va_W → Prop), kx ≤ 40 ∧ kn ≤ 40 ∧ vOK rx v ∧ Ct l g kx 0 0 yx cx mx rx ax wx PX ∧ Ct l g kn 0 0 yn cn mn rn an wn PM ∧ ∀ v1 w1 v2 w2, PX v1 w1 → PM v2 w2 → v1 = some v ∧ v2 = some v ∧ R w1 w2
def upW (sv : Nat → Nat → Int64) (s : Nat) (f : Nat → Int64) : Nat → Nat → Int64 := fun t => if t = s then f else sv t

