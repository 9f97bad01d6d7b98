/-! ===== what a cross is worth: both sides in natural numbers ===== -/
theorem lN_of (n : Nat) (h : n < 2 ^ 31) : (nI n).toInt64 = lN n := by
  rw [fa_eq64, Int32.toInt_toInt64, nI_toInt h]
  show _ = (Int64.ofNat n).toInt
  rw [Int64.toInt_ofNat_of_lt (by omega)]
theorem lM_toInt {n : Nat} (h : n < 2 ^ 63) : (lN n).toInt = (n : Int) := Int64.toInt_ofNat_of_lt h
theorem lN_div {a b : Nat} (ha : a < 2 ^ 63) (hb : b < 2 ^ 63) : lN a / lN b = lN (a / b) := by
  apply Int64.toInt_inj.mp
  have h3 : a / b < 2 ^ 63 := Nat.lt_of_le_of_lt (Nat.div_le_self a b) ha
  rw [lM_toInt h3, Int64.toInt_div, lM_toInt ha, lM_toInt hb]
  have e : ((a : Int).tdiv (b : Int)) = ((a / b : Nat) : Int) := by
    rw [Int.tdiv_eq_ediv_of_nonneg (by omega)]; rfl
  rw [e]
  generalize a / b = q at h3 ⊢
  exact fb_bmodL (by omega) (by omega)
theorem lN_lit (n : Nat) : (OfNat.ofNat n : Int64) = lN n := rfl
theorem lN_leI {a b : Nat} (ha : a < 2 ^ 63) (hb : b < 2 ^ 63) : lN a ≤ lN b ↔ a ≤ b := by
  rw [fa_le64, lM_toInt ha, lM_toInt hb]; omega
theorem lN_ltI {a b : Nat} (ha : a < 2 ^ 63) (hb : b < 2 ^ 63) : lN a < lN b ↔ a < b := by
  rw [fa_lt64, lM_toInt ha, lM_toInt hb]; omega
theorem lN_i32 (n : Nat) : (lN n).toInt32 = nI n := by
  show (Int64.ofNat n).toInt32 = Int32.ofNat n
  exact Int64.toInt32_ofNat'
theorem sumL_lN (f : Nat → Nat) : ∀ n, sumL (fun k => lN (f k)) n = lN (sumN f n)
  | 0 => rfl
  | n + 1 => by simp only [sumL, sumN, sumL_lN f n, lN_add]
def taxN (ru : Nat → Nat) (v : Nat) : Nat := if v ≤ ru 6 then v else v - (v - ru 6) * ru 5 / 100
theorem taxN_le (ru : Nat → Nat) (v : Nat) : taxN ru v ≤ v := by unfold taxN; split <;> omega
theorem ru5 {ru : Nat → Nat} (h : RuI ru) : ru 5 ≤ 100 := (h 5 (by decide)).2
theorem ru6 {ru : Nat → Nat} (h : RuI ru) : ru 6 ≤ 999999 := (h 6 (by decide)).2
theorem taxR_N {ru : Nat → Nat} (h : RuI ru) {v : Nat} (hv : v < 2 ^ 50) : txR ru (lN v) = lN (taxN ru v) := by
  have h5 := ru5 h
  have h6 := ru6 h
  unfold txR taxN
  rw [lN_of _ (by omega), lN_of _ (by omega)]
  have c : lg_cmp (lN v) (lN (ru 6)) ≤ 0 ↔ v ≤ ru 6 := by rw [lgL_le, lN_leI (by omega) (by omega)]
  by_cases q : v ≤ ru 6
  · rw [if_pos (c.mpr q), if_pos q]
  · rw [if_neg (mt c.mp q), if_neg q]
    have hm : (v - ru 6) * ru 5 < 2 ^ 63 := by
      have : (v - ru 6) * ru 5 ≤ 2 ^ 50 * 100 := Nat.mul_le_mul (by omega) h5
      omega
    have hd : (v - ru 6) * ru 5 / 100 ≤ v := by
      have h1 : (v - ru 6) * ru 5 ≤ (v - ru 6) * 100 := Nat.mul_le_mul_left _ h5
      omega
    rw [lN_sub (by omega), lN_mul, show (100 : Int64) = lN 100 from rfl, lN_div hm (by omega), lN_sub hd]
theorem taxL_N {ru : Nat → Nat} (h : RuI ru) {v : Nat} (hv : v < 2 ^ 50) : taxL ru (lN v) = lN (taxN ru v) := by
  rw [← taxR_N h hv]
  have h6 := ru6 h
  unfold taxL txR
  rw [lN_of (ru 6) (by omega)]
  have c : lg_cmp (lN v - lN (ru 6)) 0 ≤ 0 ↔ lg_cmp (lN v) (lN (ru 6)) ≤ 0 := by
    rw [lgL_le, lgL_le, fa_le64, fa_le64]
    have e1 := lM_toInt (n := v) (by omega)
    have e2 := lM_toInt (n := ru 6) (by omega)
    rw [fb_subL (by rw [e1, e2]; omega) (by rw [e1, e2]; omega), e1, e2, show (0 : Int64).toInt = 0 from rfl]
    omega
  by_cases q : lg_cmp (lN v) (lN (ru 6)) ≤ 0
  · rw [if_pos (c.mpr q), if_pos q]
  · rw [if_neg (mt c.mp q), if_neg q]
/-- the pot with this week's part -/
def potN (ru : Nat → Nat) (pt tot : Nat) : Nat := pt + tot * ru 0 * ru 1 / 100
theorem ru0 {ru : Nat → Nat} (h : RuI ru) : ru 0 ≤ 99 := (h 0 (by decide)).2
theorem ru1 {ru : Nat → Nat} (h : RuI ru) : ru 1 ≤ 100 := (h 1 (by decide)).2
theorem ru7 {ru : Nat → Nat} (h : RuI ru) : ru 7 ≤ 99999999 := (h 7 (by decide)).2
theorem in_le {ru : Nat → Nat} (h : RuI ru) {tot : Nat} (ht : tot ≤ 5199948) : tot * ru 0 * ru 1 ≤ 51479485200 := by
  have h1 : tot * ru 0 ≤ 5199948 * 99 := Nat.mul_le_mul ht (ru0 h)
  exact Nat.le_trans (Nat.mul_le_mul h1 (ru1 h)) (by decide)
theorem potN_le {ru : Nat → Nat} (h : RuI ru) {pt tot : Nat} (ht : tot ≤ 5199948) (hp : pt ≤ 99999999) : potN ru pt tot ≤ 614794851 := by
  have := in_le h ht
  unfold potN; omega
theorem potL_N {ru : Nat → Nat} (h : RuI ru) {pt tot : Nat} (ht : tot ≤ 5199948) (hp : pt ≤ 99999999) : potL ru (nI pt).toInt64 (nI tot).toInt64 = lN (potN ru pt tot) := by
  have h0 := ru0 h
  have h1 := ru1 h
  have hi := in_le h ht
  unfold potL potN
  rw [lN_of _ (by omega), lN_of _ (by omega), lN_of _ (by omega), lN_of _ (by omega), lN_mul, lN_mul, show (100 : Int64) = lN 100 from rfl, lN_div (by omega) (by omega), lN_add]
/-- a rank's part -/
def partN (ru : Nat → Nat) (k pot : Nat) : Nat := pot * ru (6 - k) / 100
theorem ru_sh {ru : Nat → Nat} (h : RuI ru) {k : Nat} (h2 : 2 ≤ k) (h4 : k ≤ 4) : ru (6 - k) ≤ 100 := by
  rcases (by omega : k = 2 ∨ k = 3 ∨ k = 4) with rfl | rfl | rfl
  · exact (h 4 (by decide)).2
  · exact (h 3 (by decide)).2
  · exact (h 2 (by decide)).2
theorem partN_le {ru : Nat → Nat} (h : RuI ru) {k pot : Nat} (h2 : 2 ≤ k) (h4 : k ≤ 4) : partN ru k pot ≤ pot := by
  unfold partN
  have : pot * ru (6 - k) ≤ pot * 100 := Nat.mul_le_mul_left _ (ru_sh h h2 h4)
  omega
theorem partL_N {ru : Nat → Nat} (h : RuI ru) {k pot : Nat} (h2 : 2 ≤ k) (h4 : k ≤ 4) (hp : pot ≤ 614794851) : partL ru k (lN pot) = lN (partN ru k pot) := by
  have h1 := ru_sh h h2 h4
  have h3 : pot * ru (6 - k) ≤ 614794851 * 100 := Nat.mul_le_mul hp h1
  unfold partL partN
  rw [lN_of _ (by omega), lN_mul, show (100 : Int64) = lN 100 from rfl, lN_div (by omega) (by omega)]
/-- what one gets beside w others, so many crosses new -/
def getN (ru : Nat → Nat) (k pot w m : Nat) : Nat := taxN ru (partN ru k pot / (w + m))
theorem getN_le {ru : Nat → Nat} (h : RuI ru) {k pot w m : Nat} (h2 : 2 ≤ k) (h4 : k ≤ 4) : getN ru k pot w m ≤ pot :=
  Nat.le_trans (taxN_le _ _) (Nat.le_trans (Nat.div_le_self _ _) (partN_le h h2 h4))
theorem oneG_N {ru : Nat → Nat} (h : RuI ru) {k pot w m : Nat} (h2 : 2 ≤ k) (h4 : k ≤ 4) (hp : pot ≤ 614794851) (hw : w < 2 ^ 30) (hm : 1 ≤ m) (hm2 : m < 2 ^ 30) : oneG ru (partL ru k (lN pot)) w (lN m) = lN (getN ru k pot w m) := by
  have h1 := partN_le h (pot := pot) h2 h4
  unfold oneG getN
  rw [lN_of _ (by omega), lN_add, partL_N h h2 h4 hp, if_neg]
  · rw [lN_div (by omega) (by omega)]
    exact taxL_N h (Nat.lt_of_le_of_lt (Nat.div_le_self _ _) (by omega))
  · rw [lgL_le, show (0 : Int64) = lN 0 from rfl, lN_leI (by omega) (by omega)]; omega
theorem win4 (cr : Nat → Nat) {d : Nat} (hd : d < 495) : winN cr (rowB d) 4 = cr d := by
  unfold winN winT
  rw [if_pos (Nat.le_refl 4), sumN_one (k := d) hd, if_pos ((pop_eq4 hd hd).mpr rfl)]
  intro i hi hne
  rw [if_neg (fun q => hne ((pop_eq4 hd hi).mp q))]
theorem wnA_N (cr : Nat → Nat) {k d : Nat} (hd : d < 495) (h2 : 2 ≤ k) (h4 : k ≤ 4) : wnA cr (thF cr) (twF cr) k d = winN cr (rowB d) k := by
  unfold wnA
  rcases (by omega : k = 2 ∨ k = 3 ∨ k = 4) with rfl | rfl | rfl
  · rw [if_neg (by decide), if_neg (by decide)]; rfl
  · rw [if_neg (by decide), if_pos (by decide)]; rfl
  · rw [if_pos (by decide), win4 cr hd]
/-- the worth of a row, all draws together -/
def woT (ru : Nat → Nat) (pot : Nat) (cr : Nat → Nat) (p d : Nat) : Nat := if popN (rowB p &&& rowB d) ≤ 1 then 0 else getN ru (popN (rowB p &&& rowB d)) pot (winN cr (rowB d) (popN (rowB p &&& rowB d))) 1
def woS (ru : Nat → Nat) (pot : Nat) (cr : Nat → Nat) (p : Nat) : Nat := sumN (woT ru pot cr p) 495
def woN (ru : Nat → Nat) (pot : Nat) (cr : Nat → Nat) (p : Nat) : Nat := woS ru pot cr p / 495
theorem woT_le {ru : Nat → Nat} (h : RuI ru) {pot : Nat} (cr : Nat → Nat) {p : Nat} (hp : p < 495) (d : Nat) : woT ru pot cr p d ≤ pot := by
  unfold woT
  split
  · exact Nat.zero_le _
  · exact getN_le h (by omega) (and4 hp)
theorem woN_le {ru : Nat → Nat} (h : RuI ru) {pot : Nat} (cr : Nat → Nat) {p : Nat} (hp : p < 495) : woN ru pot cr p ≤ pot ∧ woS ru pot cr p ≤ 495 * pot := by
  have : woS ru pot cr p ≤ 495 * pot := sumN_le (fun d _ => woT_le h cr hp d)
  unfold woN
  exact ⟨by omega, this⟩
section WO
variable {ru : Nat → Nat} {tot : Nat} {cr : Nat → Nat}
theorem ga_N {pot : Nat} (hp : pot ≤ 614794851) {p : Nat} (h4 : p < 495) (h : RuI ru) (ht : tot ≤ 5199948) (hc : sumN cr 495 = tot) : gaR ru (lN pot) cr p 495 = lN (woS ru pot cr p) := by
  unfold gaR woS
  rw [← sumL_lN]
  apply sumL_cong
  intro d hd
  unfold woT
  have hk := and4 (d := d) h4
  have hw := winN_le cr (rowB d) (popN (rowB p &&& rowB d))
  by_cases c : popN (rowB p &&& rowB d) ≤ 1
  · rw [if_pos c, if_pos c]; rfl
  · rw [if_neg c, if_neg c, partL_N h (by omega) hk hp, lN_of _ (by omega)]
    have h1 := partN_le h (pot := pot) (by omega : 2 ≤ popN (rowB p &&& rowB d)) hk
    rw [lN_div (by omega) (by omega)]
    exact taxR_N h (Nat.lt_of_le_of_lt (Nat.div_le_self _ _) (by omega))
theorem ws_N {pot : Nat} (hp : pot ≤ 614794851) {p : Nat} (h4 : p < 495) (h : RuI ru) (ht : tot ≤ 5199948) (hc : sumN cr 495 = tot) : worthS ru (lN pot) cr (thF cr) (twF cr) p 495 = lN (woS ru pot cr p) := by
  unfold worthS woS
  rw [← sumL_lN]
  apply sumL_cong
  intro d hd
  unfold woT
  have hk := and4 (d := d) h4
  have hw := winN_le cr (rowB d) (popN (rowB p &&& rowB d))
  have hlt : nI (popN (rowB p &&& rowB d)) < 2 ↔ popN (rowB p &&& rowB d) < 2 := nI_ltI (b := 2) (by omega) (by decide)
  by_cases c : popN (rowB p &&& rowB d) ≤ 1
  · rw [if_pos c, if_pos (hlt.mpr (by omega))]; rfl
  · rw [if_neg c, if_neg (fun q => by have := hlt.mp q; omega), wnA_N cr hd (by omega) hk]
    have e : prtI ru (lN pot) (popN (rowB p &&& rowB d)) = partL ru (popN (rowB p &&& rowB d)) (lN pot) := by
      unfold prtI
      generalize popN (rowB p &&& rowB d) = k at c hk
      rcases (by omega : k = 2 ∨ k = 3 ∨ k = 4) with rfl | rfl | rfl <;> rfl
    rw [e]
    exact oneG_N h (by omega) hk hp (by omega) (Nat.le_refl 1) (by decide)
theorem worthL_N {pt : Nat} (hp : pt ≤ 99999999) {p : Nat} (h4 : p < 495) (h : RuI ru) (ht : tot ≤ 5199948) (hc : sumN cr 495 = tot) : worthL ru tot cr (thF cr) (twF cr) p pt = lN (woN ru (potN ru pt tot) cr p) := by
  have hb := potN_le h ht hp
  have := (woN_le h cr h4 (pot := potN ru pt tot)).2
  unfold worthL woN
  rw [potL_N h ht hp, ws_N hb h4 h ht hc, show (495 : Int64) = lN 495 from rfl, lN_div (by omega) (by omega)]
theorem woR_N {pt : Nat} (hp : pt ≤ 99999999) {p : Nat} (h4 : p < 495) (h : RuI ru) (ht : tot ≤ 5199948) (hc : sumN cr 495 = tot) : woR ru (potL ru (nI pt).toInt64 (nI tot).toInt64) cr p = nI (woN ru (potN ru pt tot) cr p) := by
  have hb := potN_le h ht hp
  have := (woN_le h cr h4 (pot := potN ru pt tot)).2
  unfold woR woN
  rw [potL_N h ht hp, ga_N hb h4 h ht hc, show (495 : Int64) = lN 495 from rfl, lN_div (by omega) (by omega), lN_i32]
theorem worth_eq {p : Nat} (h4 : p < 495) (h : RuI ru) (ht : tot ≤ 5199948) (hc : sumN cr 495 = tot) : woR ru (potL ru (nI (ru 7)).toInt64 (nI tot).toInt64) cr p = (worthL ru tot cr (thF cr) (twF cr) p (ru 7)).toInt32 := by
  rw [woR_N (ru7 h) h4 h ht hc, worthL_N (ru7 h) h4 h ht hc, lN_i32]
/-! line -/
theorem lp_eq {p m : Nat} (hm : m ≤ 99999999) (h4 : p < 495) (h : RuI ru) (ht : tot ≤ 5199948) (hc : sumN cr 495 = tot) : (lg_cmp (worthL ru tot cr (thF cr) (twF cr) p m) (nI (ru 0)).toInt64 < 0) ↔ (woR ru (potL ru (nI m).toInt64 (nI tot).toInt64) cr p < nI (ru 0)) := by
  have hb := potN_le h ht hm
  have h0 := ru0 h
  have := (woN_le h cr h4 (pot := potN ru m tot)).1
  rw [woR_N hm h4 h ht hc, worthL_N hm h4 h ht hc, lgL_lt, lN_of _ (by omega), lN_ltI (by omega) (by omega), nI_ltI (by omega) (by omega)]
theorem hvI_cong {P P2 : Nat → Bool} {x : Nat × Nat} {H : Nat} (hx : x.1 ≤ H ∧ x.2 ≤ H) (hP : ∀ m, m ≤ H → P m = P2 m) : ∀ i, hvI P x i = hvI P2 x i
  | 0 => rfl
  | i + 1 => by
    have ih := hvI_cong hx hP i
    have hl := hvI_le P2 x H hx i
    simp only [hvI]
    rw [ih]
    unfold hv1
    rw [hP _ (by omega)]
theorem hv_ord (P : Nat → Bool) {x : Nat × Nat} (hx : x.1 ≤ x.2) : ∀ i, (hvI P x i).1 ≤ (hvI P x i).2
  | 0 => hx
  | i + 1 => by
    have ih := hv_ord P hx i
    simp only [hvI, hv1]
    generalize hvI P x i = q at ih ⊢
    split
    · split <;> simp only <;> omega
    · exact ih
theorem line_eq' {p : Nat} (h4 : p < 495) (h : RuI ru) (ht : tot ≤ 5199948) (hc : sumN cr 495 = tot) : liR ru tot cr p = lpB ru tot cr (thF cr) (twF cr) p := by
  unfold liR lpB
  rw [hvI_cong (P := lpP ru tot cr (thF cr) (twF cr) p) (P2 := liP ru tot cr p) (H := 99999999) ⟨by decide, Nat.le_refl _⟩ (fun m hm => by
    unfold lpP liP
    exact decide_eq_decide.mpr (lp_eq hm h4 h ht hc)) 32]
  have h1 := hv_w (liP ru tot cr p) (0, 99999999) (W := 99999999) (by decide) 32
  rw [show 99999999 / 2 ^ 32 = 0 from by decide] at h1
  have h2 : (hvI (liP ru tot cr p) (0, 99999999) 32).1 ≤ (hvI (liP ru tot cr p) (0, 99999999) 32).2 := hv_ord (liP ru tot cr p) (by decide) 32
  omega
/-! best -/
theorem bs_N {pot : Nat} (hp : pot ≤ 614794851) {p : Nat} (h4 : p < 495) (h : RuI ru) (ht : tot ≤ 5199948) (hc : sumN cr 495 = tot) : bsS ru (lN pot) cr (thF cr) (twF cr) p = lN (woS ru pot cr p) := by
  unfold bsS ovS woS
  rw [Int64.zero_add, ← sumL_add, ← sumL_add, ← sumL_lN]
  apply sumL_cong
  intro d hd
  unfold woT
  rw [Nat.and_comm (rowB d)]
  have hk := and4 (d := d) h4
  have hw := winN_le cr (rowB d) (popN (rowB p &&& rowB d))
  generalize popN (rowB p &&& rowB d) = k at hk hw ⊢
  have key : ∀ r, 2 ≤ r → r ≤ 4 → k = r → bvF ru (lN pot) cr (thF cr) (twF cr) r d = lN (getN ru k pot (winN cr (rowB d) k) 1) := by
    intro r h2 h5 e
    subst e
    unfold bvF
    rw [wnA_N cr hd h2 h5]
    exact oneG_N h h2 h5 hp (by omega) (Nat.le_refl 1) (by decide)
  rcases (by omega : k ≤ 1 ∨ k = 2 ∨ k = 3 ∨ k = 4) with e | e | e | e
  · rw [if_neg (by omega), if_neg (by omega), if_neg (by omega), if_pos e]; rfl
  · rw [if_neg (by omega), if_neg (by omega), if_pos e, if_neg (by omega), key 2 (by decide) (by decide) e, Int64.add_zero, Int64.zero_add]
  · rw [if_neg (by omega), if_pos e, if_neg (by omega), if_neg (by omega), key 3 (by decide) (by decide) e, Int64.add_zero, Int64.zero_add]
  · rw [if_pos e, if_neg (by omega), if_neg (by omega), if_neg (by omega), key 4 (by decide) (by decide) e, Int64.add_zero, Int64.add_zero]
theorem bsTR {S : Nat → Int64} {W : Nat → Int32} {f : Nat → Nat} (hS : ∀ p, p < 495 → S p / 495 = lN (f p)) (hW : ∀ p, p < 495 → W p = nI (f p)) (hf : ∀ p, p < 495 → f p < 2 ^ 31) : ∀ i, i ≤ 495 → bsR W i = bsT S i
  | 0, _ => rfl
  | i + 1, hi => by
    have ih := bsTR hS hW hf i (by omega)
    have hb := bsT_lt S (i := i) (N := 495) (by decide) (by omega)
    simp only [bsR, bsT]
    rw [ih, hS i (by omega), hS _ hb, hW i (by omega), hW _ hb]
    have h1 := hf i (by omega)
    have h2 := hf _ hb
    have c1 : nI (f i) ≤ nI (f (bsT S i)) ↔ f i ≤ f (bsT S i) := nI_leI h1 h2
    have c2 : lg_cmp (lN (f i)) (lN (f (bsT S i))) ≤ 0 ↔ f i ≤ f (bsT S i) := by rw [lgL_le, lN_leI (by omega) (by omega)]
    by_cases q : f i ≤ f (bsT S i)
    · rw [if_pos (c1.mpr q), if_pos (c2.mpr q)]
    · rw [if_neg (mt c1.mp q), if_neg (mt c2.mp q)]
theorem best_eq (h : RuI ru) (ht : tot ≤ 5199948) (hc : sumN cr 495 = tot) : bsR (woR ru (potL ru (nI (ru 7)).toInt64 (nI tot).toInt64) cr) 495 = bsT (bsS ru (wkPot ru tot) cr (thF cr) (twF cr)) 495 := by
  have hb := potN_le h ht (ru7 h)
  refine bsTR (f := woN ru (potN ru (ru 7) tot) cr) (fun p hp => ?_) (fun p hp => woR_N (ru7 h) hp h ht hc) (fun p hp => ?_) 495 (Nat.le_refl _)
  · have := (woN_le h cr hp (pot := potN ru (ru 7) tot)).2
    unfold wkPot woN
    rw [potL_N h ht (ru7 h), bs_N hb hp h ht hc, show (495 : Int64) = lN 495 from rfl, lN_div (by omega) (by omega)]
  · have := (woN_le h cr hp (pot := potN ru (ru 7) tot)).1
    omega
end WO
/-! all crosses together -/
theorem floor_sum (c L : Nat) (f : Nat → Nat) : ∀ n, sumN (fun p => c * f p / L) n * L ≤ c * sumN f n
  | 0 => by simp [sumN]
  | n + 1 => by
    have ih := floor_sum c L f n
    have h1 : c * f n / L * L ≤ c * f n := Nat.div_mul_le_self _ _
    simp only [sumN, Nat.add_mul, Nat.mul_add]; omega
theorem sh_sum (kd mn L : Nat) (sd : Nat → Nat) : sumN (fun p => shN kd mn p L sd) 495 ≤ mn := by
  by_cases c : laN kd mn L sd = 0
  · rw [sumN_zero (fun p _ => by unfold shN; rw [if_pos c])]; exact Nat.zero_le _
  · rw [sumN_cong (g := fun p => mn * lkN kd mn p L (sd p) / laN kd mn L sd) (fun p _ => by unfold shN; rw [if_neg c])]
    have h1 := floor_sum mn (laN kd mn L sd) (fun p => lkN kd mn p L (sd p)) 495
    have h2 : sumN (fun p => lkN kd mn p L (sd p)) 495 = laN kd mn L sd := rfl
    rw [h2] at h1
    exact Nat.le_of_mul_le_mul_right h1 (by omega)
theorem to_le {gr br : Nat} {ki ma bp bt hd : Nat → Nat} (hp : PeI gr ki ma) (h : BoI br bp bt hd) (L : Nat) (sd : Nat → Nat) : toH gr ki ma hd L sd ≤ 5199948 := by
  unfold toH crH
  rw [sumN_add, bo_sum h, sumN_swap (fun p q => shN (ki q) (ma q) p L sd) gr 495]
  have h1 : sumN bt br ≤ br * 99999 := sumN_le (fun k _ => h.2.2.1 k)
  have h2 : sumN (fun q => sumN (fun p => shN (ki q) (ma q) p L sd) 495) gr ≤ gr * 99999 := sumN_le (fun q _ => Nat.le_trans (sh_sum _ _ _ _) (hp.2.2 q))
  have h3 : br * 99999 ≤ 40 * 99999 := Nat.mul_le_mul_right _ h.1
  have h4 : gr * 99999 ≤ 12 * 99999 := Nat.mul_le_mul_right _ hp.1
  omega
