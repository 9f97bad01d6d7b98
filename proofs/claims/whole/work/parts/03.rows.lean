/-! ===== MY LAYER OVER THE KIT: a judgement over pure data (pc, locals, stack, world); rows; contracts ===== -/
/-- the classes and slots, the array classes, the addresses of the static arrays -/
abbrev XG : Type := va_G × (Nat → ClassId) × (Nat → Nat)
def xTy (g : XG) : List (ClassId × FieldType) := [(g.2.1 0, .int), (g.2.1 1, .byte), (g.2.1 2, .long), (g.2.1 3, .boolean), (g.2.1 4, .object "SlipWeeks$Sheet")]
def rmX (k mc ms : Nat) : Room := { frames := k, cells := mc, slots := ms, locals := 64 * k }
def rfN : Nat → Nat := fun j => ([1, 50, 60, 30, 10, 0, 0, 0] : List Nat).getD j 0
def tRF : Nat → Int32 := fun j => nI (rfN j)
def tKA : Nat → Int32 := fun j => ([-1, 0, 0, 0, 0, 1, 3, 6] : List Int32).getD j 0
def rlN : Nat → Nat := fun j => ([1, 0, 0, 0, 0, 0, 0, 0] : List Nat).getD j 0
def tRL : Nat → Int32 := fun j => nI (rlN j)
def rmN : Nat → Nat := fun j => ([99, 100, 100, 100, 100, 100, 999999, 99999999] : List Nat).getD j 0
def tRM : Nat → Int32 := fun j => nI (rmN j)
def pbN : Nat → Nat := fun j => ([0, 0, 1, 3, 6, 10, 15, 21, 28, 36, 45, 55] : List Nat).getD j 0
def tPB : Nat → Int32 := fun j => nI (pbN j)
def tbN : Nat → Nat := fun j => ([0, 0, 0, 1, 4, 10, 20, 35, 56, 84, 120, 165] : List Nat).getD j 0
def tTB : Nat → Int32 := fun j => nI (tbN j)
/-- one static array of ints: the field, and what stands there -/
def xSA (n : String) (t N : Nat) (f : Nat → Int32) (A : Nat → Prop) (U : State) (H : Heap) : Prop := va_Z "SlipWeeks" n "[I" (.ref t) A U H ∧ va_T .int t N (fun j => .int (f j)) A U H
/-- links between nest mates -/
def xNw (U : State) : Prop :=
  va_Nw (.fieldLinkNest "SlipWeeks$State" 37 "SlipWeeks" "RULE_FIRST" "[I" "SlipWeeks") U ∧
  va_Nw (.fieldLinkNest "SlipWeeks$Overlaps" 47 "SlipWeeks" "PAIRS_BELOW" "[I" "SlipWeeks") U ∧
  va_Nw (.fieldLinkNest "SlipWeeks$Overlaps" 50 "SlipWeeks" "TRIPLES_BELOW" "[I" "SlipWeeks") U ∧
  va_Nw (.methodLinkNest RX8 51 yX1_init "SlipWeeks") U ∧
  va_Nw (.methodLinkNest RX8 66 yX4_init "SlipWeeks") U ∧
  va_Nw (.methodLinkNest RX6 58 yX8_within "SlipWeeks") U ∧
  va_Nw (.methodLinkNest RX0 109 yX8_isPlace "SlipWeeks") U ∧
  va_AO "SlipWeeks$Sheet" U
/-- the one String constant: its object, its bytes, its place in the class file; the JDK's flag -/
def xStr (g : XG) (A : Nat → Prop) (U : State) (H : Heap) : Prop :=
  vk_S 1 [7] [[115, 108, 103, 101, 99, 100, 119]] (fun _ => g.2.2 6) (fun _ => g.2.2 7) A U H ∧ vk_R RX1 81 "slgecdw" (g.2.2 6) U ∧ va_Z "java/lang/String" "COMPACT_STRINGS" "Z" (.int 1) A U H
theorem xStr.to {g : XG} {A B : Nat → Prop} {u U : State} {H H1 : Heap} (h : xStr g A u H) (hW : u.WarmedH U.vm) (hq : ∀ a : Nat, a < H.size → ¬ A a → H1[a]? = H[a]?) (hAB : ∀ q, B q → A q) : xStr g B U H1 :=
  ⟨((h.1.moved hW.alike).kept hq).narrow hAB, h.2.1.warm hW, ((h.2.2.moved hW.alike).kept hq).narrow hAB⟩
def xSF (g : XG) (A : Nat → Prop) (U : State) (H : Heap) : Prop :=
  xSA "RULE_FIRST" (g.2.2 0) 8 tRF A U H ∧ xSA "KIND_ABOVE" (g.2.2 1) 8 tKA A U H ∧ xSA "RULE_LEAST" (g.2.2 2) 8 tRL A U H ∧ xSA "RULE_MOST" (g.2.2 3) 8 tRM A U H ∧ xSA "PAIRS_BELOW" (g.2.2 4) 12 tPB A U H ∧ xSA "TRIPLES_BELOW" (g.2.2 5) 12 tTB A U H ∧ xNw U ∧ xStr g A U H
theorem xSA.to {n : String} {t N : Nat} {f : Nat → Int32} {A B : Nat → Prop} {u U : State} {H H1 : Heap} (h : xSA n t N f A u H) (hvm : u.vm.Alike U.vm) (hq : ∀ a : Nat, a < H.size → ¬ A a → H1[a]? = H[a]?) (hAB : ∀ q, B q → A q) : xSA n t N f B U H1 :=
  ⟨((h.1.moved hvm).kept hq).narrow hAB, ((h.2.moved hvm).kept hq).narrow hAB⟩
theorem xNw.to {u U : State} (h : xNw u) (hW : u.WarmedH U.vm) : xNw U :=
  ⟨h.1.warmF hW, h.2.1.warmF hW, h.2.2.1.warmF hW, h.2.2.2.1.warmM hW, h.2.2.2.2.1.warmM hW, h.2.2.2.2.2.1.warmM hW, h.2.2.2.2.2.2.1.warmM hW, va_AO.moved hW.alike h.2.2.2.2.2.2.2⟩
theorem xSF.to {g : XG} {A B : Nat → Prop} {u U : State} {H H1 : Heap} (h : xSF g A u H) (hW : u.WarmedH U.vm) (hq : ∀ a : Nat, a < H.size → ¬ A a → H1[a]? = H[a]?) (hAB : ∀ q, B q → A q) : xSF g B U H1 := by
  obtain ⟨h1, h2, h3, h4, h5, h6, h7, h8⟩ := h
  exact ⟨h1.to hW.alike hq hAB, h2.to hW.alike hq hAB, h3.to hW.alike hq hAB, h4.to hW.alike hq hAB, h5.to hW.alike hq hAB, h6.to hW.alike hq hAB, h7.to hW, h8.to hW hq hAB⟩
/-- where a walk stands: program, launch, env, start, method, arguments, frames below, method, code, the cells that may change -/
abbrev Kx : Type := Program × Launch × Env × State × MethodId × Array Value × List Frame × Method × Code × (Nat → Prop)
abbrev ks (κ : Kx) : State := κ.2.2.2.1
abbrev km (κ : Kx) : MethodId := κ.2.2.2.2.1
abbrev ka (κ : Kx) : Array Value := κ.2.2.2.2.2.1
abbrev kb (κ : Kx) : List Frame := κ.2.2.2.2.2.2.1
abbrev kt (κ : Kx) : Method := κ.2.2.2.2.2.2.2.1
abbrev kc (κ : Kx) : Code := κ.2.2.2.2.2.2.2.2.1
abbrev kA (κ : Kx) : Nat → Prop := κ.2.2.2.2.2.2.2.2.2
def Fx (κ : Kx) (g : XG) (cc : ByteArray) (y : MethodName) (ret : Option FieldType) : Prop :=
  κ.1.tables.exec = Jvm.exec ∧ (kc κ).code = cc ∧ (ks κ).vm.findClass y.cls = some (km κ).cls ∧ (∀ w ∈ TT, w.before (ka κ) (ks κ) = true) ∧ va_K g.1 vwCl (xTy g) (ks κ) ∧ xSF g (kA κ) (ks κ) (ks κ).heap ∧ (∀ q, (ks κ).heap.size ≤ q → kA κ q) ∧ (kt κ).locks = false ∧ (kt κ).name = y.name ∧ (kt κ).sig.returnType = ret
def Wd (κ : Kx) (g : XG) (ws : va_W) (H : Heap) (locs : List Loc) : Prop := va_P g.1 vwCl ws H ∧ va_D (kA κ) ws ∧ va_S (kA κ) (ks κ).heap H locs
def xL (κ : Kx) (ls : Array Slot) (lv : List (Option Value)) : Prop := ls.size = (kc κ).maxLocals ∧ lv.length = ls.size ∧ lv_wf ls ∧ ∀ (i : Nat) (v : Value), lv[i]? = some (some v) → ls[i]? = some (.val v)
/-- THE JUDGEMENT: from pc with these locals, this stack, this world, the method comes to Q -/
def Xs (κ : Kx) (g : XG) (k mc ms : Nat) (cc : ByteArray) (y : MethodName) (ret : Option FieldType) (Q : State → Prop) (nc ns pc : Nat) (lv : List (Option Value)) (st : List Value) (ws : va_W) : Prop :=
  Fx κ g cc y ret → ∀ (H : Heap) (locs : List Loc) (ls : Array Slot), Wd κ g ws H locs → xL κ ls lv → W κ.1 κ.2.1 κ.2.2.1 (rmX k mc ms) (ks κ) (km κ) (ka κ) (kb κ) (kt κ) (kc κ) H locs nc ns Q (F0 (km κ) pc ls st)
/-- an instruction, its length, the next pc -/
def xd (cc : ByteArray) (pc : Nat) (i : Instr) (n pc' : Nat) : Prop := decode cc pc = .ok (i, n) ∧ pc + n = pc'
/-- a jump: where to -/
def xj (cc : ByteArray) (pc : Nat) (f : Int → Instr) (pc' tgt : Nat) : Prop := ∃ off : Int, decode cc pc = .ok (f off, 3) ∧ pc + 3 = pc' ∧ (pc : Int) + off = (tgt : Int)
/-! the locals as a list: a store; the kit's list of pairs out of it -/
def xkill (lv : List (Option Value)) (i : Nat) : List (Option Value) := match i with
  | 0 => lv
  | j + 1 => match lv[j]? with
    | some (some v) => if v.category = 2 then lv.set j none else lv
    | _ => lv
def xset1 (lv : List (Option Value)) (i : Nat) (v : Value) : List (Option Value) := (xkill lv i).set i (some v)
def xset2 (lv : List (Option Value)) (i : Nat) (v : Value) : List (Option Value) := ((xkill lv i).set (i + 1) none).set i (some v)
def xPairsF : Nat → List (Option Value) → List (Nat × Value)
  | _, [] => []
  | i, some v :: l => (i, v) :: xPairsF (i + 1) l
  | i, none :: l => xPairsF (i + 1) l
def xPairs (lv : List (Option Value)) : List (Nat × Value) := xPairsF 0 lv
theorem xPairsF_iff (l : List (Option Value)) : ∀ (i j : Nat) (v : Value), (j, v) ∈ xPairsF i l ↔ ∃ t, l[t]? = some (some v) ∧ j = i + t := by
  induction l with
  | nil => intro i j v; simp [xPairsF]
  | cons a l ih =>
    intro i j v
    cases a with
    | none =>
      simp only [xPairsF, ih]
      constructor
      · rintro ⟨t, h1, h2⟩; exact ⟨t + 1, by simpa using h1, by omega⟩
      · rintro ⟨t, h1, h2⟩
        cases t with
        | zero => simp at h1
        | succ t => exact ⟨t, by simpa using h1, by omega⟩
    | some w =>
      simp only [xPairsF, List.mem_cons, ih, Prod.mk.injEq]
      constructor
      · rintro (⟨h1, h2⟩ | ⟨t, h1, h2⟩)
        · exact ⟨0, by simp [h2], by omega⟩
        · exact ⟨t + 1, by simpa using h1, by omega⟩
      · rintro ⟨t, h1, h2⟩
        cases t with
        | zero => left; simp at h1; exact ⟨by omega, h1.symm⟩
        | succ t => right; exact ⟨t, by simpa using h1, by omega⟩
theorem xPairs_mem {lv : List (Option Value)} {i : Nat} {v : Value} (h : lv[i]? = some (some v)) : (i, v) ∈ xPairs lv := (xPairsF_iff lv 0 i v).mpr ⟨i, h, by omega⟩
theorem xPairs_of {lv : List (Option Value)} {i : Nat} {v : Value} (h : (i, v) ∈ xPairs lv) : lv[i]? = some (some v) := by
  obtain ⟨t, h1, h2⟩ := (xPairsF_iff lv 0 i v).mp h
  rw [h2, Nat.zero_add]; exact h1
theorem xL_has {κ : Kx} {ls : Array Slot} {lv : List (Option Value)} (h : xL κ ls lv) : lv_has ls ls.size (xPairs lv) := ⟨rfl, h.2.2.1, fun q hq => h.2.2.2 q.1 q.2 (xPairs_of hq)⟩
theorem xkill_get {lv : List (Option Value)} {i j : Nat} {w : Value} (h : (xkill lv i)[j]? = some (some w)) : lv[j]? = some (some w) ∧ ¬ (j + 1 = i ∧ w.category = 2) := by
  cases i with
  | zero => exact ⟨h, fun c => by omega⟩
  | succ t =>
    unfold xkill at h
    dsimp only at h
    split at h
    next v hv =>
      by_cases hc : v.category = 2
      · rw [if_pos hc] at h
        by_cases hj : j = t
        · subst hj
          have := List.getElem?_set_self' (a := (none : Option Value)) (l := lv) (i := j)
          rw [this, hv] at h
          simp at h
        · rw [List.getElem?_set_ne (by omega)] at h
          exact ⟨h, fun c => by omega⟩
      · rw [if_neg hc] at h
        refine ⟨h, fun c => ?_⟩
        have : j = t := by omega
        subst this
        rw [hv] at h
        cases h
        exact hc c.2
    next hv =>
      refine ⟨h, fun c => ?_⟩
      have : j = t := by omega
      subst this
      exact hv _ h
theorem xkill_len (lv : List (Option Value)) (i : Nat) : (xkill lv i).length = lv.length := by
  cases i with
  | zero => rfl
  | succ t =>
    unfold xkill
    dsimp only
    split
    · split <;> simp
    · rfl
theorem xL_set1 {κ : Kx} {ls ls' : Array Slot} {lv : List (Option Value)} {i : Nat} {v : Value} (hL : xL κ ls lv) (hn : i < lv.length) (_hc : v.category = 1) (hl : lv_has ls' ls.size ((i, v) :: (xPairs lv).filter (fun q => !(q.1 == i) && !(q.1 + 1 == i && q.2.category == 2)))) : xL κ ls' (xset1 lv i v) := by
  refine ⟨hl.1.trans hL.1, ?_, hl.2.1, fun j w h => ?_⟩
  · rw [hl.1, ← hL.2.1]; simp [xset1, xkill_len]
  · unfold xset1 at h
    by_cases hj : j = i
    · subst hj
      rw [List.getElem?_set_self (by rw [xkill_len]; exact hn)] at h
      cases h
      exact hl.2.2 (j, v) List.mem_cons_self
    · rw [List.getElem?_set_ne (by omega)] at h
      obtain ⟨h1, h2⟩ := xkill_get h
      refine hl.2.2 (j, w) (List.mem_cons_of_mem _ (List.mem_filter.mpr ⟨xPairs_mem h1, ?_⟩))
      simp only [Bool.and_eq_true, Bool.not_eq_true', beq_eq_false_iff_ne, Bool.and_eq_false_iff]
      refine ⟨hj, ?_⟩
      by_cases h3 : j + 1 = i
      · right; exact fun h4 => h2 ⟨h3, h4⟩
      · left; exact h3
theorem xL_set2 {κ : Kx} {ls ls' : Array Slot} {lv : List (Option Value)} {i : Nat} {v : Value} (hL : xL κ ls lv) (hn : i + 1 < lv.length) (_hc : v.category = 2) (hl : lv_has ls' ls.size ((i, v) :: (xPairs lv).filter (fun q => !(q.1 == i) && (!(q.1 == i + 1) && !(q.1 + 1 == i && q.2.category == 2))))) : xL κ ls' (xset2 lv i v) := by
  refine ⟨hl.1.trans hL.1, ?_, hl.2.1, fun j w h => ?_⟩
  · rw [hl.1, ← hL.2.1]; simp [xset2, xkill_len]
  · unfold xset2 at h
    by_cases hj : j = i
    · subst hj
      rw [List.getElem?_set_self (by simp [xkill_len]; omega)] at h
      cases h
      exact hl.2.2 (j, v) List.mem_cons_self
    · rw [List.getElem?_set_ne (by omega)] at h
      by_cases hj2 : j = i + 1
      · subst hj2
        rw [List.getElem?_set_self (by rw [xkill_len]; exact hn)] at h
        cases h
      · rw [List.getElem?_set_ne (by omega)] at h
        obtain ⟨h1, h2⟩ := xkill_get h
        refine hl.2.2 (j, w) (List.mem_cons_of_mem _ (List.mem_filter.mpr ⟨xPairs_mem h1, ?_⟩))
        simp only [Bool.and_eq_true, Bool.not_eq_true', beq_eq_false_iff_ne, Bool.and_eq_false_iff]
        refine ⟨hj, hj2, ?_⟩
        by_cases h3 : j + 1 = i
        · right; exact fun h4 => h2 ⟨h3, h4⟩
        · left; exact h3
def xArgs : List Value → List (Option Value)
  | [] => []
  | v :: vs => if v.category = 2 then some v :: none :: xArgs vs else some v :: xArgs vs
def xEnt (av : List Value) (n : Nat) : List (Option Value) := xArgs av ++ List.replicate (n - (xArgs av).length) none
theorem xArgs_len (vs : List Value) : (xArgs vs).length = (lg_sl vs).length := by
  induction vs with
  | nil => rfl
  | cons v vs ih => by_cases h : v.category = 2 <;> simp [xArgs, lg_sl, h] <;> simpa [lg_sl] using ih
theorem xArgs_mem (vs : List Value) : ∀ (off t : Nat) (v : Value), (xArgs vs)[t]? = some (some v) → (off + t, v) ∈ lv_args off vs := by
  induction vs with
  | nil => intro off t v h; simp [xArgs] at h
  | cons a vs ih =>
    intro off t v h
    by_cases hc : a.category = 2
    · simp only [xArgs, hc, if_true] at h
      simp only [lv_args, hc, if_true]
      match t, h with
      | 0, h => simp at h; rw [h]; exact List.mem_cons_self
      | 1, h => simp at h
      | t + 2, h => exact List.mem_cons_of_mem _ (by have := ih (off + 2) t v (by simpa using h); rwa [show off + (t + 2) = off + 2 + t by omega])
    · simp only [xArgs, hc, if_false] at h
      simp only [lv_args, hc, if_false]
      match t, h with
      | 0, h => simp at h; rw [h]; exact List.mem_cons_self
      | t + 1, h => exact List.mem_cons_of_mem _ (by have := ih (off + 1) t v (by simpa using h); rwa [show off + (t + 1) = off + 1 + t by omega])
theorem xEnt_mem {av : List Value} {n i : Nat} {v : Value} (h : (xEnt av n)[i]? = some (some v)) : (i, v) ∈ lv_args 0 av := by
  unfold xEnt at h
  by_cases hi : i < (xArgs av).length
  · rw [List.getElem?_append_left hi] at h
    have := xArgs_mem av 0 i v h
    rwa [Nat.zero_add] at this
  · rw [List.getElem?_append_right (by omega)] at h
    exact absurd (List.eq_of_mem_replicate (List.mem_of_getElem? h)) (by simp)
/-! contracts -/
def xPc (g : XG) (av : List Value) (ws : va_W) (sz : Nat) : Array Value → State → Prop := va_Pc av (fun U => U.heap.size = sz ∧ va_P g.1 vwCl ws U.heap ∧ va_K g.1 vwCl (xTy g) U ∧ va_D (fun _ => True) ws ∧ xSF g (va_A ws sz) U U.heap)
def xQk (g : XG) (A : Nat → Prop) (post : Option Value → va_W → Prop) : Array Value → State → Outcome → State → Prop := fun _ st oc t => (∃ (v : Option Value) (ws' : va_W), oc = .returned v ∧ post v ws' ∧ va_P g.1 vwCl ws' t.heap ∧ va_D A ws') ∧ va_F A st t
def xQ (κ : Kx) (g : XG) (mc ms : Nat) (post : Option Value → va_W → Prop) : State → Prop := MQ (kb κ) (xQk g (kA κ) post) (ka κ) (ks κ) mc ms (kA κ)
/-- method y's contract: with these arguments and this world it comes back; the answer and the world then are as 'post' says -/
def Ct (l : Launch) (g : XG) (k mc ms : Nat) (y : MethodName) (cc : ByteArray) (maxL : Nat) (ret : Option FieldType) (av : List Value) (ws : va_W) (post : Option Value → va_W → Prop) : Prop :=
  ∀ sz : Nat, Met l y (Cond.code y cc maxL ret :: TT) (rmX k mc ms) (xPc g av ws sz) (xQk g (va_A ws sz) post) mc ms (va_A ws sz)
def xpi (r : Int32) (w : va_W) : Option Value → va_W → Prop := fun v w' => v = some (.int r) ∧ w' = w
def xpl (r : Int64) (w : va_W) : Option Value → va_W → Prop := fun v w' => v = some (.long r) ∧ w' = w
def xpv (w : va_W) : Option Value → va_W → Prop := fun v w' => v = none ∧ w' = w
theorem Ct.ofX {l : Launch} {g : XG} {k mc ms : Nat} {y : MethodName} {cc : ByteArray} {maxL : Nat} {ret : Option FieldType} {av : List Value} {ws : va_W} {post : Option Value → va_W → Prop} {lv : List (Option Value)} (hy : plainName y.cls = true) (hlv : xEnt av maxL = lv) (hsz : (xArgs av).length ≤ maxL)
    (h : ∀ κ : Kx, Xs κ g k mc ms cc y ret (xQ κ g mc ms post) 0 0 0 lv [] ws) : Ct l g k mc ms y cc maxL ret av ws post := by
  intro sz
  refine Met.ofW (cc := cc) (maxL := maxL) (ret := ret) hy rfl ?_
  intro p e s m args below meth c s₁ B hml hv
  obtain ⟨rfl, rfl, hP, hK, hD, hSF⟩ := hv
  have hts := atoms_spec (ws := Cond.code y cc maxL ret :: TT) B.pre
  have hl := lv_entry av (n := maxL) (by rw [← xArgs_len]; exact hsz)
  rw [lg_entry_eq]
  subst hlv
  exact h (p, l, e, s, m, av.toArray, below, meth, c, va_A ws s.heap.size) ⟨B.exec, B.bytes, findClass_of_methodNamed B.named, fun w hw => hts w (List.mem_cons_of_mem _ hw), hK, hSF, fun q h => Or.inr h, B.notSynchronized, (name_of_methodNamed B.named B.method).1, B.returns⟩ s.heap [] _ ⟨hP, hD.self, va_S.rf⟩
    ⟨hl.1.trans hml.symm, by rw [hl.1]; simp [xEnt]; omega, hl.2.1, fun i v hi => hl.2.2 (i, v) (xEnt_mem hi)⟩
theorem Ct.mono {l : Launch} {g : XG} {k mc ms : Nat} {y : MethodName} {cc : ByteArray} {maxL : Nat} {ret : Option FieldType} {av : List Value} {ws : va_W} {post post2 : Option Value → va_W → Prop} (hp : ∀ v w, post v w → post2 v w) (h : Ct l g k mc ms y cc maxL ret av ws post) : Ct l g k mc ms y cc maxL ret av ws post2 := by
  intro sz p e ha hc hk s m args below hf happ hP hK
  obtain ⟨t, o, h1, h2, h3, ⟨⟨⟨v, ws', e1, e2, e3⟩, e4⟩, e5⟩⟩ := h sz p e ha hc hk s m args below hf happ hP hK
  exact ⟨t, o, h1, h2, h3, ⟨⟨⟨v, ws', e1, hp v ws' e2, e3⟩, e4⟩, e5⟩⟩
theorem xPc_blind {g : XG} {av : List Value} {ws : va_W} {sz : Nat} : FrameBlind (xPc g av ws sz) := by
  intro a U fr mk h
  obtain ⟨q0, q1, qP, qK, qD, qS⟩ := h
  exact ⟨q0, q1, qP, va_K.moved (u := U) (U := U.calling fr mk a) (Vm.Alike.refl U.vm) qK, qD, qS.to (U := U.calling fr mk a) (State.WarmedH.refl U) (fun _ _ _ => rfl) (fun _ h => h)⟩
/-- the callee's cells put back at their places -/
def xSet (ws : va_W) : List Nat → va_W → va_W
  | i :: is, q :: qs => xSet (ws.set i q) is qs
  | _, _ => ws
theorem xSet_get (is : List Nat) : ∀ (qs ws : va_W) (j : Nat) (q : Nat × va_E), is.length = qs.length → (xSet ws is qs)[j]? = some q → (∃ t : Nat, is[t]? = some j ∧ qs[t]? = some q) ∨ (j ∉ is ∧ ws[j]? = some q) := by
  induction is with
  | nil => intro qs ws j q hl h; right; cases qs with
    | nil => exact ⟨List.not_mem_nil, h⟩
    | cons a b => simp at hl
  | cons i is ih =>
    intro qs ws j q hl h
    cases qs with
    | nil => simp at hl
    | cons a qs =>
      simp only [xSet] at h
      rcases ih qs (ws.set i a) j q (by simpa using hl) h with ⟨t, h1, h2⟩ | ⟨h1, h2⟩
      · exact Or.inl ⟨t + 1, by simpa using h1, by simpa using h2⟩
      · by_cases hj : j = i
        · subst hj
          left
          refine ⟨0, rfl, ?_⟩
          by_cases hlt : j < ws.length
          · rw [List.getElem?_set_self hlt] at h2
            simpa using h2
          · rw [List.getElem?_eq_none (by simp; omega)] at h2
            cases h2
        · right
          rw [List.getElem?_set_ne (by omega)] at h2
          exact ⟨fun hm => (List.mem_cons.mp hm).elim hj h1, h2⟩
theorem xmap_at {ws wc : va_W} {is : List Nat} (hC : is.map (fun i => ws[i]?) = wc.map some) (t : Nat) (q : Nat × va_E) (h : wc[t]? = some q) : ∃ i, is[t]? = some i ∧ ws[i]? = some q := by
  have h1 : (is.map (fun i => ws[i]?))[t]? = some (some q) := by rw [hC, List.getElem?_map, h]; rfl
  rw [List.getElem?_map] at h1
  cases hi : is[t]? with
  | none => rw [hi] at h1; cases h1
  | some i => rw [hi] at h1; exact ⟨i, rfl, Option.some.inj h1⟩
theorem xWd_set {κ : Kx} {g : XG} {ws wc wc' : va_W} {H H1 : Heap} {locs locs1 : List Loc} {is : List Nat} (hW : Wd κ g ws H locs) (hC : is.map (fun i => ws[i]?) = wc.map some) (hadr : wc'.map Prod.fst = wc.map Prod.fst) (hk : ∀ q : Nat, q < H.size → ¬ va_A wc H.size q → H1[q]? = H[q]?) (hP1 : va_P g.1 vwCl wc' H1) (hS1 : va_S (kA κ) (ks κ).heap H1 locs1) : Wd κ g (xSet ws is wc') H1 locs1 := by
  have hlen : is.length = wc'.length := by
    have h1 := congrArg List.length hC
    have h2 := congrArg List.length hadr
    simp only [List.length_map] at h1 h2
    omega
  have adr : ∀ (j : Nat) (q : Nat × va_E), (xSet ws is wc')[j]? = some q → ∃ e, ws[j]? = some (q.1, e) := by
    intro j q h
    rcases xSet_get is wc' ws j q hlen h with ⟨t, h1, h2⟩ | ⟨h1, h2⟩
    · have h3 : (wc'.map Prod.fst)[t]? = some q.1 := by rw [List.getElem?_map, h2]; rfl
      rw [hadr, List.getElem?_map] at h3
      cases hw : wc[t]? with
      | none => rw [hw] at h3; cases h3
      | some w =>
        rw [hw] at h3
        obtain ⟨i, h4, h5⟩ := xmap_at hC t w hw
        rw [h1] at h4
        cases h4
        have h6 : w.1 = q.1 := Option.some.inj h3
        exact ⟨w.2, by rw [h5, ← h6]⟩
    · exact ⟨q.2, h2⟩
  refine ⟨fun j q h => ?_, ⟨fun i j p q hi hj e => ?_, fun j q h => ?_⟩, hS1⟩
  · rcases xSet_get is wc' ws j q hlen h with ⟨t, h1, h2⟩ | ⟨h1, h2⟩
    · exact hP1 t q h2
    · have hlt := (hW.1 j q h2).lt
      refine (hW.1 j q h2).kept (hk q.1 hlt fun hA => ?_)
      rcases hA with ⟨t, e, h3⟩ | h3
      · obtain ⟨i, h4, h5⟩ := xmap_at hC t _ h3
        have := hW.2.1.1 j i q (q.1, e) h2 h5 rfl
        subst this
        exact h1 (List.mem_of_getElem? h4)
      · omega
  · obtain ⟨e1, h1⟩ := adr i p hi
    obtain ⟨e2, h2⟩ := adr j q hj
    exact hW.2.1.1 i j _ _ h1 h2 e
  · obtain ⟨e1, h1⟩ := adr j q h
    exact hW.2.1.2 j (q.1, e1) h1
/-- what a call needs of its callee: its words, its name -/
def xMN (y2 : MethodName) (cc2 : ByteArray) (maxL2 : Nat) (ret2 : Option FieldType) (n : Nat) : Prop := Cond.initialized y2.cls ∈ TT ∧ Cond.code y2 cc2 maxL2 ret2 ∈ TT ∧ (y2.cls ≠ "java/lang/invoke/MethodHandle" ∧ y2.cls ≠ "java/lang/invoke/VarHandle" ∧ (parseMethodDescriptor y2.desc).map (fun d => d.parameters.length) = some n) ∧ maxL2 ≤ 45
def xMV (y2 : MethodName) (cc2 : ByteArray) (maxL2 : Nat) (ret2 : Option FieldType) (n : Nat) : Prop := (Cond.instanceMethod y2 ∈ TT ∧ Cond.selects y2.cls y2 y2 ∈ TT) ∧ xMN y2 cc2 maxL2 ret2 n
def xMS (y2 : MethodName) (cc2 : ByteArray) (maxL2 : Nat) (ret2 : Option FieldType) (n : Nat) : Prop := Cond.static y2 ∈ TT ∧ xMN y2 cc2 maxL2 ret2 n
def xMI (y2 : MethodName) (cc2 : ByteArray) (maxL2 : Nat) (n : Nat) : Prop := (Cond.instanceMethod y2 ∈ TT ∧ y2.name = "<init>") ∧ xMN y2 cc2 maxL2 none n
theorem xgood {y2 : MethodName} {cc2 : ByteArray} {maxL2 : Nat} {ret2 : Option FieldType} (h : Cond.code y2 cc2 maxL2 ret2 ∈ TT) : GoodIn TT (Cond.code y2 cc2 maxL2 ret2 :: TT) := fun w hw => by
  have hm : w ∈ TT := (List.mem_cons.mp hw).elim (fun e => e ▸ h) id
  exact ⟨hm, good_of_word (List.mem_filter.mp hm).2⟩
theorem xCB {R : Room} {s : State} {args : Array Value} {own : String} {idx n k2 mc2 ms2 maxL2 : Nat} {y2 : MethodName} {cc2 : ByteArray} {ret2 : Option FieldType} (hT : ∀ w ∈ TT, w.before args s = true) (hm : xMN y2 cc2 maxL2 ret2 n) (hl : Cond.methodLink own idx y2 ∈ TT) (hR : k2 + 1 ≤ R.frames ∧ 64 * (k2 + 1) ≤ R.locals) : CallB R s args own idx y2 cc2 maxL2 ret2 (Cond.code y2 cc2 maxL2 ret2 :: TT) (rmX k2 mc2 ms2) mc2 ms2 n :=
  callB_of n hT (xgood hm.2.1) rfl rfl rfl (hT _ hm.1) (hT _ hl) hm.2.2.1 ⟨hR.1, by have := hm.2.2.2; have := hR.2; simp only [rmX]; omega⟩

section XR
variable {κ : Kx} {g : XG} {k mc ms : Nat} {cc : ByteArray} {y : MethodName} {ret : Option FieldType} {Q : State → Prop} {nc ns pc pc' tgt : Nat} {lv lv' : List (Option Value)} {st : List Value} {ws ws' : va_W}

theorem x_iconst {n : Int} (v : Int32) (d : xd cc pc (.iconst n) 1 pc') (hv : Int32.ofInt n = v) (h : Xs κ g k mc ms cc y ret Q nc ns pc' lv (.int v :: st) ws) : Xs κ g k mc ms cc y ret Q nc ns pc lv (st) ws := by
  intro F H locs ls hW hL
  obtain ⟨d1, rfl⟩ := d
  exact lv_iconst F.1 F.2.1 d1 hv (h F H locs ls hW hL)
theorem x_bipush {n : Int} (v : Int32) (d : xd cc pc (.bipush n) 2 pc') (hv : (Int8.ofInt n).toInt32 = v) (h : Xs κ g k mc ms cc y ret Q nc ns pc' lv (.int v :: st) ws) : Xs κ g k mc ms cc y ret Q nc ns pc lv (st) ws := by
  intro F H locs ls hW hL
  obtain ⟨d1, rfl⟩ := d
  exact lv_bipush F.1 F.2.1 d1 hv (h F H locs ls hW hL)
theorem x_sipush {n : Int} (v : Int32) (d : xd cc pc (.sipush n) 3 pc') (hv : (Int16.ofInt n).toInt32 = v) (h : Xs κ g k mc ms cc y ret Q nc ns pc' lv (.int v :: st) ws) : Xs κ g k mc ms cc y ret Q nc ns pc lv (st) ws := by
  intro F H locs ls hW hL
  obtain ⟨d1, rfl⟩ := d
  exact lv_sipush F.1 F.2.1 d1 hv (h F H locs ls hW hL)
theorem x_lconst {n : Fin 2} (v : Int64) (d : xd cc pc (.lconst n) 1 pc') (hv : Int64.ofNat (n : Nat) = v) (h : Xs κ g k mc ms cc y ret Q nc ns pc' lv (.long v :: st) ws) : Xs κ g k mc ms cc y ret Q nc ns pc lv (st) ws := by
  intro F H locs ls hW hL
  obtain ⟨d1, rfl⟩ := d
  exact lv_lconst F.1 F.2.1 d1 hv (h F H locs ls hW hL)
theorem x_ldc {i : Nat} {v : Int32} (d : xd cc pc (.ldc i) 2 pc') (hc : Cond.constant y.cls i v ∈ TT) (h : Xs κ g k mc ms cc y ret Q nc ns pc' lv (.int v :: st) ws) : Xs κ g k mc ms cc y ret Q nc ns pc lv (st) ws := by
  intro F H locs ls hW hL
  obtain ⟨d1, rfl⟩ := d
  exact lv_ldc F.1 F.2.1 F.2.2.1 (F.2.2.2.1 _ hc) d1 (h F H locs ls hW hL)
theorem x_ldcw {i : Nat} {v : Int32} (d : xd cc pc (.ldc_w i) 3 pc') (hc : Cond.constant y.cls i v ∈ TT) (h : Xs κ g k mc ms cc y ret Q nc ns pc' lv (.int v :: st) ws) : Xs κ g k mc ms cc y ret Q nc ns pc lv (st) ws := by
  intro F H locs ls hW hL
  obtain ⟨d1, rfl⟩ := d
  exact lv_ldcw F.1 F.2.1 F.2.2.1 (F.2.2.2.1 _ hc) d1 (h F H locs ls hW hL)
theorem x_ldc2 {i : Nat} {v : Int64} (d : xd cc pc (.ldc2_w i) 3 pc') (hc : Cond.constantLong y.cls i v ∈ TT) (h : Xs κ g k mc ms cc y ret Q nc ns pc' lv (.long v :: st) ws) : Xs κ g k mc ms cc y ret Q nc ns pc lv (st) ws := by
  intro F H locs ls hW hL
  obtain ⟨d1, rfl⟩ := d
  exact lv_ldc2 F.1 F.2.1 F.2.2.1 (F.2.2.2.1 _ hc) d1 (h F H locs ls hW hL)
theorem x_iload_n {n : Fin 4} {v : Int32} (d : xd cc pc (.iload_n n) 1 pc') (hv : lv[(n : Nat)]? = some (some (.int v))) (h : Xs κ g k mc ms cc y ret Q nc ns pc' lv (.int v :: st) ws) : Xs κ g k mc ms cc y ret Q nc ns pc lv (st) ws := by
  intro F H locs ls hW hL
  obtain ⟨d1, rfl⟩ := d
  exact lv_iload_n F.1 F.2.1 d1 rfl (hL.2.2.2 _ _ hv) (h F H locs ls hW hL)
theorem x_iload {n : Nat} {v : Int32} (d : xd cc pc (.iload n) 2 pc') (hv : lv[n]? = some (some (.int v))) (h : Xs κ g k mc ms cc y ret Q nc ns pc' lv (.int v :: st) ws) : Xs κ g k mc ms cc y ret Q nc ns pc lv (st) ws := by
  intro F H locs ls hW hL
  obtain ⟨d1, rfl⟩ := d
  exact lv_iload F.1 F.2.1 d1 (hL.2.2.2 _ _ hv) (h F H locs ls hW hL)
theorem x_istore_n {n : Fin 4} {v : Int32} (d : xd cc pc (.istore_n n) 1 pc') (hn : (n : Nat) < lv.length) (hs : xset1 lv (n : Nat) (.int v) = lv') (h : Xs κ g k mc ms cc y ret Q nc ns pc' lv' (st) ws) : Xs κ g k mc ms cc y ret Q nc ns pc lv (.int v :: st) ws := by
  intro F H locs ls hW hL
  obtain ⟨d1, rfl⟩ := d
  subst hs
  exact lv_istore_n F.1 F.2.1 d1 rfl (xL_has hL) (by rw [← hL.2.1]; exact hn) rfl (fun ls' hl' => h F H locs ls' hW (xL_set1 hL hn (show Value.category (.int v) = 1 from rfl) hl'))
theorem x_istore {n : Nat} {v : Int32} (d : xd cc pc (.istore n) 2 pc') (hn : n < lv.length) (hs : xset1 lv n (.int v) = lv') (h : Xs κ g k mc ms cc y ret Q nc ns pc' lv' (st) ws) : Xs κ g k mc ms cc y ret Q nc ns pc lv (.int v :: st) ws := by
  intro F H locs ls hW hL
  obtain ⟨d1, rfl⟩ := d
  subst hs
  exact lv_istore F.1 F.2.1 d1 (xL_has hL) (by rw [← hL.2.1]; exact hn) rfl (fun ls' hl' => h F H locs ls' hW (xL_set1 hL hn (show Value.category (.int v) = 1 from rfl) hl'))
theorem x_lload_n {n : Fin 4} {v : Int64} (d : xd cc pc (.lload_n n) 1 pc') (hv : lv[(n : Nat)]? = some (some (.long v))) (h : Xs κ g k mc ms cc y ret Q nc ns pc' lv (.long v :: st) ws) : Xs κ g k mc ms cc y ret Q nc ns pc lv (st) ws := by
  intro F H locs ls hW hL
  obtain ⟨d1, rfl⟩ := d
  exact lv_lload_n F.1 F.2.1 d1 rfl (hL.2.2.2 _ _ hv) (h F H locs ls hW hL)
theorem x_lload {n : Nat} {v : Int64} (d : xd cc pc (.lload n) 2 pc') (hv : lv[n]? = some (some (.long v))) (h : Xs κ g k mc ms cc y ret Q nc ns pc' lv (.long v :: st) ws) : Xs κ g k mc ms cc y ret Q nc ns pc lv (st) ws := by
  intro F H locs ls hW hL
  obtain ⟨d1, rfl⟩ := d
  exact lv_lload F.1 F.2.1 d1 (hL.2.2.2 _ _ hv) (h F H locs ls hW hL)
theorem x_lstore_n {n : Fin 4} {v : Int64} (d : xd cc pc (.lstore_n n) 1 pc') (hn : (n : Nat) + 1 < lv.length) (hs : xset2 lv (n : Nat) (.long v) = lv') (h : Xs κ g k mc ms cc y ret Q nc ns pc' lv' (st) ws) : Xs κ g k mc ms cc y ret Q nc ns pc lv (.long v :: st) ws := by
  intro F H locs ls hW hL
  obtain ⟨d1, rfl⟩ := d
  subst hs
  exact lv_lstore_n F.1 F.2.1 d1 rfl (xL_has hL) (by rw [← hL.2.1]; exact hn) rfl (fun ls' hl' => h F H locs ls' hW (xL_set2 hL hn (show Value.category (.long v) = 2 from rfl) hl'))
theorem x_lstore {n : Nat} {v : Int64} (d : xd cc pc (.lstore n) 2 pc') (hn : n + 1 < lv.length) (hs : xset2 lv n (.long v) = lv') (h : Xs κ g k mc ms cc y ret Q nc ns pc' lv' (st) ws) : Xs κ g k mc ms cc y ret Q nc ns pc lv (.long v :: st) ws := by
  intro F H locs ls hW hL
  obtain ⟨d1, rfl⟩ := d
  subst hs
  exact lv_lstore F.1 F.2.1 d1 (xL_has hL) (by rw [← hL.2.1]; exact hn) rfl (fun ls' hl' => h F H locs ls' hW (xL_set2 hL hn (show Value.category (.long v) = 2 from rfl) hl'))
theorem x_aload_n {n : Fin 4} {v : Nat} (d : xd cc pc (.aload_n n) 1 pc') (hv : lv[(n : Nat)]? = some (some (.ref v))) (h : Xs κ g k mc ms cc y ret Q nc ns pc' lv (.ref v :: st) ws) : Xs κ g k mc ms cc y ret Q nc ns pc lv (st) ws := by
  intro F H locs ls hW hL
  obtain ⟨d1, rfl⟩ := d
  exact lv_aload_n F.1 F.2.1 d1 rfl (hL.2.2.2 _ _ hv) (h F H locs ls hW hL)
theorem x_aload {n : Nat} {v : Nat} (d : xd cc pc (.aload n) 2 pc') (hv : lv[n]? = some (some (.ref v))) (h : Xs κ g k mc ms cc y ret Q nc ns pc' lv (.ref v :: st) ws) : Xs κ g k mc ms cc y ret Q nc ns pc lv (st) ws := by
  intro F H locs ls hW hL
  obtain ⟨d1, rfl⟩ := d
  exact lv_aload F.1 F.2.1 d1 (hL.2.2.2 _ _ hv) (h F H locs ls hW hL)
theorem x_astore_n {n : Fin 4} {v : Nat} (d : xd cc pc (.astore_n n) 1 pc') (hn : (n : Nat) < lv.length) (hs : xset1 lv (n : Nat) (.ref v) = lv') (h : Xs κ g k mc ms cc y ret Q nc ns pc' lv' (st) ws) : Xs κ g k mc ms cc y ret Q nc ns pc lv (.ref v :: st) ws := by
  intro F H locs ls hW hL
  obtain ⟨d1, rfl⟩ := d
  subst hs
  exact lv_astore_n F.1 F.2.1 d1 rfl (xL_has hL) (by rw [← hL.2.1]; exact hn) rfl (fun ls' hl' => h F H locs ls' hW (xL_set1 hL hn (show Value.category (.ref v) = 1 from rfl) hl'))
theorem x_astore {n : Nat} {v : Nat} (d : xd cc pc (.astore n) 2 pc') (hn : n < lv.length) (hs : xset1 lv n (.ref v) = lv') (h : Xs κ g k mc ms cc y ret Q nc ns pc' lv' (st) ws) : Xs κ g k mc ms cc y ret Q nc ns pc lv (.ref v :: st) ws := by
  intro F H locs ls hW hL
  obtain ⟨d1, rfl⟩ := d
  subst hs
  exact lv_astore F.1 F.2.1 d1 (xL_has hL) (by rw [← hL.2.1]; exact hn) rfl (fun ls' hl' => h F H locs ls' hW (xL_set1 hL hn (show Value.category (.ref v) = 1 from rfl) hl'))
theorem x_iinc {i : Nat} {n : Int} {x : Int32} (v : Int32) (d : xd cc pc (.iinc i n) 3 pc') (hk : lv[i]? = some (some (.int x))) (hv : x + Int32.ofInt n = v) (hs : xset1 lv i (.int v) = lv') (h : Xs κ g k mc ms cc y ret Q nc ns pc' lv' (st) ws) : Xs κ g k mc ms cc y ret Q nc ns pc lv (st) ws := by
  intro F H locs ls hW hL
  obtain ⟨d1, rfl⟩ := d
  subst hs
  have hn : i < lv.length := (List.getElem?_eq_some_iff.mp hk).1
  obtain ⟨q, hq⟩ := List.getElem?_of_mem (xPairs_mem hk)
  exact lv_iinc F.1 F.2.1 d1 (xL_has hL) hq hv (by rw [← hL.2.1]; exact hn) rfl (fun ls' hl' => h F H locs ls' hW (xL_set1 hL hn (show Value.category (.int v) = 1 from rfl) hl'))
theorem x_iadd {a b : Int32} (d : xd cc pc .iadd 1 pc') (h : Xs κ g k mc ms cc y ret Q nc ns pc' lv (.int (a + b) :: st) ws) : Xs κ g k mc ms cc y ret Q nc ns pc lv (.int b :: .int a :: st) ws := by
  intro F H locs ls hW hL
  obtain ⟨d1, rfl⟩ := d
  exact lv_iadd F.1 F.2.1 d1 (h F H locs ls hW hL)
theorem x_isub {a b : Int32} (d : xd cc pc .isub 1 pc') (h : Xs κ g k mc ms cc y ret Q nc ns pc' lv (.int (a - b) :: st) ws) : Xs κ g k mc ms cc y ret Q nc ns pc lv (.int b :: .int a :: st) ws := by
  intro F H locs ls hW hL
  obtain ⟨d1, rfl⟩ := d
  exact lv_isub F.1 F.2.1 d1 (h F H locs ls hW hL)
theorem x_imul {a b : Int32} (d : xd cc pc .imul 1 pc') (h : Xs κ g k mc ms cc y ret Q nc ns pc' lv (.int (a * b) :: st) ws) : Xs κ g k mc ms cc y ret Q nc ns pc lv (.int b :: .int a :: st) ws := by
  intro F H locs ls hW hL
  obtain ⟨d1, rfl⟩ := d
  exact lv_imul F.1 F.2.1 d1 (h F H locs ls hW hL)
theorem x_iand {a b : Int32} (d : xd cc pc .iand 1 pc') (h : Xs κ g k mc ms cc y ret Q nc ns pc' lv (.int (a &&& b) :: st) ws) : Xs κ g k mc ms cc y ret Q nc ns pc lv (.int b :: .int a :: st) ws := by
  intro F H locs ls hW hL
  obtain ⟨d1, rfl⟩ := d
  exact lv_iand F.1 F.2.1 d1 (h F H locs ls hW hL)
theorem x_ior {a b : Int32} (d : xd cc pc .ior 1 pc') (h : Xs κ g k mc ms cc y ret Q nc ns pc' lv (.int (a ||| b) :: st) ws) : Xs κ g k mc ms cc y ret Q nc ns pc lv (.int b :: .int a :: st) ws := by
  intro F H locs ls hW hL
  obtain ⟨d1, rfl⟩ := d
  exact lv_ior F.1 F.2.1 d1 (h F H locs ls hW hL)
theorem x_ladd {a b : Int64} (d : xd cc pc .ladd 1 pc') (h : Xs κ g k mc ms cc y ret Q nc ns pc' lv (.long (a + b) :: st) ws) : Xs κ g k mc ms cc y ret Q nc ns pc lv (.long b :: .long a :: st) ws := by
  intro F H locs ls hW hL
  obtain ⟨d1, rfl⟩ := d
  exact lv_ladd F.1 F.2.1 d1 (h F H locs ls hW hL)
theorem x_lsub {a b : Int64} (d : xd cc pc .lsub 1 pc') (h : Xs κ g k mc ms cc y ret Q nc ns pc' lv (.long (a - b) :: st) ws) : Xs κ g k mc ms cc y ret Q nc ns pc lv (.long b :: .long a :: st) ws := by
  intro F H locs ls hW hL
  obtain ⟨d1, rfl⟩ := d
  exact lv_lsub F.1 F.2.1 d1 (h F H locs ls hW hL)
theorem x_lmul {a b : Int64} (d : xd cc pc .lmul 1 pc') (h : Xs κ g k mc ms cc y ret Q nc ns pc' lv (.long (a * b) :: st) ws) : Xs κ g k mc ms cc y ret Q nc ns pc lv (.long b :: .long a :: st) ws := by
  intro F H locs ls hW hL
  obtain ⟨d1, rfl⟩ := d
  exact lv_lmul F.1 F.2.1 d1 (h F H locs ls hW hL)
theorem x_land {a b : Int64} (d : xd cc pc .land 1 pc') (h : Xs κ g k mc ms cc y ret Q nc ns pc' lv (.long (a &&& b) :: st) ws) : Xs κ g k mc ms cc y ret Q nc ns pc lv (.long b :: .long a :: st) ws := by
  intro F H locs ls hW hL
  obtain ⟨d1, rfl⟩ := d
  exact lv_land F.1 F.2.1 d1 (h F H locs ls hW hL)
theorem x_lor {a b : Int64} (d : xd cc pc .lor 1 pc') (h : Xs κ g k mc ms cc y ret Q nc ns pc' lv (.long (a ||| b) :: st) ws) : Xs κ g k mc ms cc y ret Q nc ns pc lv (.long b :: .long a :: st) ws := by
  intro F H locs ls hW hL
  obtain ⟨d1, rfl⟩ := d
  exact lv_lor F.1 F.2.1 d1 (h F H locs ls hW hL)
theorem x_idiv {a b : Int32} (d : xd cc pc .idiv 1 pc') (hne : ¬ b = 0) (h : Xs κ g k mc ms cc y ret Q nc ns pc' lv (.int (a / b) :: st) ws) : Xs κ g k mc ms cc y ret Q nc ns pc lv (.int b :: .int a :: st) ws := by
  intro F H locs ls hW hL
  obtain ⟨d1, rfl⟩ := d
  exact lv_idiv F.1 F.2.1 d1 hne (h F H locs ls hW hL)
theorem x_irem {a b : Int32} (d : xd cc pc .irem 1 pc') (hne : ¬ b = 0) (h : Xs κ g k mc ms cc y ret Q nc ns pc' lv (.int (a - a / b * b) :: st) ws) : Xs κ g k mc ms cc y ret Q nc ns pc lv (.int b :: .int a :: st) ws := by
  intro F H locs ls hW hL
  obtain ⟨d1, rfl⟩ := d
  exact lv_irem F.1 F.2.1 d1 hne (h F H locs ls hW hL)
theorem x_ldiv {a b : Int64} (d : xd cc pc .ldiv 1 pc') (hne : ¬ b = 0) (h : Xs κ g k mc ms cc y ret Q nc ns pc' lv (.long (a / b) :: st) ws) : Xs κ g k mc ms cc y ret Q nc ns pc lv (.long b :: .long a :: st) ws := by
  intro F H locs ls hW hL
  obtain ⟨d1, rfl⟩ := d
  exact lv_ldiv F.1 F.2.1 d1 hne (h F H locs ls hW hL)
theorem x_ishl {a b : Int32} (d : xd cc pc .ishl 1 pc') (h : Xs κ g k mc ms cc y ret Q nc ns pc' lv (.int (a <<< (b &&& 31)) :: st) ws) : Xs κ g k mc ms cc y ret Q nc ns pc lv (.int b :: .int a :: st) ws := by
  intro F H locs ls hW hL
  obtain ⟨d1, rfl⟩ := d
  exact lv_ishl F.1 F.2.1 d1 (h F H locs ls hW hL)
theorem x_ishr {a b : Int32} (d : xd cc pc .ishr 1 pc') (h : Xs κ g k mc ms cc y ret Q nc ns pc' lv (.int (a >>> (b &&& 31)) :: st) ws) : Xs κ g k mc ms cc y ret Q nc ns pc lv (.int b :: .int a :: st) ws := by
  intro F H locs ls hW hL
  obtain ⟨d1, rfl⟩ := d
  exact lv_ishr F.1 F.2.1 d1 (h F H locs ls hW hL)
theorem x_iushr {a b : Int32} (d : xd cc pc .iushr 1 pc') (h : Xs κ g k mc ms cc y ret Q nc ns pc' lv (.int ((a.toUInt32 >>> (b.toUInt32 &&& Int32.toUInt32 31)).toInt32) :: st) ws) : Xs κ g k mc ms cc y ret Q nc ns pc lv (.int b :: .int a :: st) ws := by
  intro F H locs ls hW hL
  obtain ⟨d1, rfl⟩ := d
  exact lv_iushr F.1 F.2.1 d1 rfl (h F H locs ls hW hL)
theorem x_lshl {a : Int64} {b : Int32} (d : xd cc pc .lshl 1 pc') (h : Xs κ g k mc ms cc y ret Q nc ns pc' lv (.long (a <<< (b.toInt64 &&& 63)) :: st) ws) : Xs κ g k mc ms cc y ret Q nc ns pc lv (.int b :: .long a :: st) ws := by
  intro F H locs ls hW hL
  obtain ⟨d1, rfl⟩ := d
  exact lv_lshl F.1 F.2.1 d1 rfl (h F H locs ls hW hL)
theorem x_i2l {a : Int32} (d : xd cc pc .i2l 1 pc') (h : Xs κ g k mc ms cc y ret Q nc ns pc' lv (.long a.toInt64 :: st) ws) : Xs κ g k mc ms cc y ret Q nc ns pc lv (.int a :: st) ws := by
  intro F H locs ls hW hL
  obtain ⟨d1, rfl⟩ := d
  exact lv_i2l F.1 F.2.1 d1 rfl (h F H locs ls hW hL)
theorem x_l2i {a : Int64} (d : xd cc pc .l2i 1 pc') (h : Xs κ g k mc ms cc y ret Q nc ns pc' lv (.int a.toInt32 :: st) ws) : Xs κ g k mc ms cc y ret Q nc ns pc lv (.long a :: st) ws := by
  intro F H locs ls hW hL
  obtain ⟨d1, rfl⟩ := d
  exact lv_l2i F.1 F.2.1 d1 rfl (h F H locs ls hW hL)
theorem x_i2b {a : Int32} (d : xd cc pc .i2b 1 pc') (h : Xs κ g k mc ms cc y ret Q nc ns pc' lv (.int a.toInt8.toInt32 :: st) ws) : Xs κ g k mc ms cc y ret Q nc ns pc lv (.int a :: st) ws := by
  intro F H locs ls hW hL
  obtain ⟨d1, rfl⟩ := d
  exact lv_i2b F.1 F.2.1 d1 rfl (h F H locs ls hW hL)
theorem x_i2s {a : Int32} (d : xd cc pc .i2s 1 pc') (h : Xs κ g k mc ms cc y ret Q nc ns pc' lv (.int a.toInt16.toInt32 :: st) ws) : Xs κ g k mc ms cc y ret Q nc ns pc lv (.int a :: st) ws := by
  intro F H locs ls hW hL
  obtain ⟨d1, rfl⟩ := d
  exact lv_i2s F.1 F.2.1 d1 rfl (h F H locs ls hW hL)
theorem x_i2c {a : Int32} (d : xd cc pc .i2c 1 pc') (h : Xs κ g k mc ms cc y ret Q nc ns pc' lv (.int (a.toUInt32 % 65536).toInt32 :: st) ws) : Xs κ g k mc ms cc y ret Q nc ns pc lv (.int a :: st) ws := by
  intro F H locs ls hW hL
  obtain ⟨d1, rfl⟩ := d
  exact lv_i2c F.1 F.2.1 d1 rfl (h F H locs ls hW hL)
theorem x_lcmp {a b : Int64} (d : xd cc pc .lcmp 1 pc') (h : Xs κ g k mc ms cc y ret Q nc ns pc' lv (.int (lg_cmp a b) :: st) ws) : Xs κ g k mc ms cc y ret Q nc ns pc lv (.long b :: .long a :: st) ws := by
  intro F H locs ls hW hL
  obtain ⟨d1, rfl⟩ := d
  exact W.lcmp F.1 F.2.1 d1 (h F H locs ls hW hL)
theorem x_dup {v : Value} (d : xd cc pc .dup 1 pc') (hc : v.category = 1) (h : Xs κ g k mc ms cc y ret Q nc ns pc' lv (v :: v :: st) ws) : Xs κ g k mc ms cc y ret Q nc ns pc lv (v :: st) ws := by
  intro F H locs ls hW hL
  obtain ⟨d1, rfl⟩ := d
  exact lv_dup F.1 F.2.1 d1 hc (h F H locs ls hW hL)
theorem x_dup2 {v w : Value} (d : xd cc pc .dup2 1 pc') (hc : v.category = 1) (hd : w.category = 1) (h : Xs κ g k mc ms cc y ret Q nc ns pc' lv (v :: w :: v :: w :: st) ws) : Xs κ g k mc ms cc y ret Q nc ns pc lv (v :: w :: st) ws := by
  intro F H locs ls hW hL
  obtain ⟨d1, rfl⟩ := d
  exact lv_dup2_11 F.1 F.2.1 d1 hc hd (h F H locs ls hW hL)
theorem x_if_eq {x : Int32} (d : xj cc pc (.ifCond .eq) pc' tgt) (ht : x = 0 → Xs κ g k mc ms cc y ret Q nc ns tgt lv (st) ws) (hf : ¬ (x = 0) → Xs κ g k mc ms cc y ret Q nc ns pc' lv (st) ws) : Xs κ g k mc ms cc y ret Q nc ns pc lv (.int x :: st) ws := by
  intro F H locs ls hW hL
  obtain ⟨off, d1, rfl, d2⟩ := d
  exact lv_if_eq F.1 F.2.1 d1 d2 (fun c => ht c F H locs ls hW hL) (fun c => hf c F H locs ls hW hL)
theorem x_icmp_eq {x z : Int32} (d : xj cc pc (.if_icmp .eq) pc' tgt) (ht : x = z → Xs κ g k mc ms cc y ret Q nc ns tgt lv (st) ws) (hf : ¬ (x = z) → Xs κ g k mc ms cc y ret Q nc ns pc' lv (st) ws) : Xs κ g k mc ms cc y ret Q nc ns pc lv (.int z :: .int x :: st) ws := by
  intro F H locs ls hW hL
  obtain ⟨off, d1, rfl, d2⟩ := d
  exact lv_icmp_eq F.1 F.2.1 d1 d2 (fun c => ht c F H locs ls hW hL) (fun c => hf c F H locs ls hW hL)
theorem x_if_ne {x : Int32} (d : xj cc pc (.ifCond .ne) pc' tgt) (ht : ¬ x = 0 → Xs κ g k mc ms cc y ret Q nc ns tgt lv (st) ws) (hf : x = 0 → Xs κ g k mc ms cc y ret Q nc ns pc' lv (st) ws) : Xs κ g k mc ms cc y ret Q nc ns pc lv (.int x :: st) ws := by
  intro F H locs ls hW hL
  obtain ⟨off, d1, rfl, d2⟩ := d
  exact lv_if_ne F.1 F.2.1 d1 d2 (fun c => ht c F H locs ls hW hL) (fun c => hf c F H locs ls hW hL)
theorem x_icmp_ne {x z : Int32} (d : xj cc pc (.if_icmp .ne) pc' tgt) (ht : ¬ x = z → Xs κ g k mc ms cc y ret Q nc ns tgt lv (st) ws) (hf : x = z → Xs κ g k mc ms cc y ret Q nc ns pc' lv (st) ws) : Xs κ g k mc ms cc y ret Q nc ns pc lv (.int z :: .int x :: st) ws := by
  intro F H locs ls hW hL
  obtain ⟨off, d1, rfl, d2⟩ := d
  exact lv_icmp_ne F.1 F.2.1 d1 d2 (fun c => ht c F H locs ls hW hL) (fun c => hf c F H locs ls hW hL)
theorem x_if_lt {x : Int32} (d : xj cc pc (.ifCond .lt) pc' tgt) (ht : x < 0 → Xs κ g k mc ms cc y ret Q nc ns tgt lv (st) ws) (hf : ¬ (x < 0) → Xs κ g k mc ms cc y ret Q nc ns pc' lv (st) ws) : Xs κ g k mc ms cc y ret Q nc ns pc lv (.int x :: st) ws := by
  intro F H locs ls hW hL
  obtain ⟨off, d1, rfl, d2⟩ := d
  exact lv_if_lt F.1 F.2.1 d1 d2 (fun c => ht c F H locs ls hW hL) (fun c => hf c F H locs ls hW hL)
theorem x_icmp_lt {x z : Int32} (d : xj cc pc (.if_icmp .lt) pc' tgt) (ht : x < z → Xs κ g k mc ms cc y ret Q nc ns tgt lv (st) ws) (hf : ¬ (x < z) → Xs κ g k mc ms cc y ret Q nc ns pc' lv (st) ws) : Xs κ g k mc ms cc y ret Q nc ns pc lv (.int z :: .int x :: st) ws := by
  intro F H locs ls hW hL
  obtain ⟨off, d1, rfl, d2⟩ := d
  exact lv_icmp_lt F.1 F.2.1 d1 d2 (fun c => ht c F H locs ls hW hL) (fun c => hf c F H locs ls hW hL)
theorem x_if_ge {x : Int32} (d : xj cc pc (.ifCond .ge) pc' tgt) (ht : 0 ≤ x → Xs κ g k mc ms cc y ret Q nc ns tgt lv (st) ws) (hf : ¬ (0 ≤ x) → Xs κ g k mc ms cc y ret Q nc ns pc' lv (st) ws) : Xs κ g k mc ms cc y ret Q nc ns pc lv (.int x :: st) ws := by
  intro F H locs ls hW hL
  obtain ⟨off, d1, rfl, d2⟩ := d
  exact lv_if_ge F.1 F.2.1 d1 d2 (fun c => ht c F H locs ls hW hL) (fun c => hf c F H locs ls hW hL)
theorem x_icmp_ge {x z : Int32} (d : xj cc pc (.if_icmp .ge) pc' tgt) (ht : z ≤ x → Xs κ g k mc ms cc y ret Q nc ns tgt lv (st) ws) (hf : ¬ (z ≤ x) → Xs κ g k mc ms cc y ret Q nc ns pc' lv (st) ws) : Xs κ g k mc ms cc y ret Q nc ns pc lv (.int z :: .int x :: st) ws := by
  intro F H locs ls hW hL
  obtain ⟨off, d1, rfl, d2⟩ := d
  exact lv_icmp_ge F.1 F.2.1 d1 d2 (fun c => ht c F H locs ls hW hL) (fun c => hf c F H locs ls hW hL)
theorem x_if_gt {x : Int32} (d : xj cc pc (.ifCond .gt) pc' tgt) (ht : 0 < x → Xs κ g k mc ms cc y ret Q nc ns tgt lv (st) ws) (hf : ¬ (0 < x) → Xs κ g k mc ms cc y ret Q nc ns pc' lv (st) ws) : Xs κ g k mc ms cc y ret Q nc ns pc lv (.int x :: st) ws := by
  intro F H locs ls hW hL
  obtain ⟨off, d1, rfl, d2⟩ := d
  exact lv_if_gt F.1 F.2.1 d1 d2 (fun c => ht c F H locs ls hW hL) (fun c => hf c F H locs ls hW hL)
theorem x_icmp_gt {x z : Int32} (d : xj cc pc (.if_icmp .gt) pc' tgt) (ht : z < x → Xs κ g k mc ms cc y ret Q nc ns tgt lv (st) ws) (hf : ¬ (z < x) → Xs κ g k mc ms cc y ret Q nc ns pc' lv (st) ws) : Xs κ g k mc ms cc y ret Q nc ns pc lv (.int z :: .int x :: st) ws := by
  intro F H locs ls hW hL
  obtain ⟨off, d1, rfl, d2⟩ := d
  exact lv_icmp_gt F.1 F.2.1 d1 d2 (fun c => ht c F H locs ls hW hL) (fun c => hf c F H locs ls hW hL)
theorem x_if_le {x : Int32} (d : xj cc pc (.ifCond .le) pc' tgt) (ht : x ≤ 0 → Xs κ g k mc ms cc y ret Q nc ns tgt lv (st) ws) (hf : ¬ (x ≤ 0) → Xs κ g k mc ms cc y ret Q nc ns pc' lv (st) ws) : Xs κ g k mc ms cc y ret Q nc ns pc lv (.int x :: st) ws := by
  intro F H locs ls hW hL
  obtain ⟨off, d1, rfl, d2⟩ := d
  exact lv_if_le F.1 F.2.1 d1 d2 (fun c => ht c F H locs ls hW hL) (fun c => hf c F H locs ls hW hL)
theorem x_icmp_le {x z : Int32} (d : xj cc pc (.if_icmp .le) pc' tgt) (ht : x ≤ z → Xs κ g k mc ms cc y ret Q nc ns tgt lv (st) ws) (hf : ¬ (x ≤ z) → Xs κ g k mc ms cc y ret Q nc ns pc' lv (st) ws) : Xs κ g k mc ms cc y ret Q nc ns pc lv (.int z :: .int x :: st) ws := by
  intro F H locs ls hW hL
  obtain ⟨off, d1, rfl, d2⟩ := d
  exact lv_icmp_le F.1 F.2.1 d1 d2 (fun c => ht c F H locs ls hW hL) (fun c => hf c F H locs ls hW hL)
theorem x_goto (d : xj cc pc .goto pc' tgt) (h : Xs κ g k mc ms cc y ret Q nc ns tgt lv (st) ws) : Xs κ g k mc ms cc y ret Q nc ns pc lv (st) ws := by
  intro F H locs ls hW hL
  obtain ⟨off, d1, rfl, d2⟩ := d
  exact lv_goto F.1 F.2.1 d1 d2 (h F H locs ls hW hL)
theorem x_nmi {x : Int32} (h : ∀ v : Int32, v = x → Xs κ g k mc ms cc y ret Q nc ns pc lv (.int v :: st) ws) : Xs κ g k mc ms cc y ret Q nc ns pc lv (.int x :: st) ws := h x rfl
theorem x_rei {x : Int32} (v : Int32) (e : x = v) (h : Xs κ g k mc ms cc y ret Q nc ns pc lv (.int v :: st) ws) : Xs κ g k mc ms cc y ret Q nc ns pc lv (.int x :: st) ws := e ▸ h
theorem x_nml {x : Int64} (h : ∀ v : Int64, v = x → Xs κ g k mc ms cc y ret Q nc ns pc lv (.long v :: st) ws) : Xs κ g k mc ms cc y ret Q nc ns pc lv (.long x :: st) ws := h x rfl
theorem x_rel {x : Int64} (v : Int64) (e : x = v) (h : Xs κ g k mc ms cc y ret Q nc ns pc lv (.long v :: st) ws) : Xs κ g k mc ms cc y ret Q nc ns pc lv (.long x :: st) ws := e ▸ h
theorem x_eq {st' : List Value} (h : Xs κ g k mc ms cc y ret Q nc ns pc lv' (st') ws') (h1 : lv = lv') (h2 : st = st') (h3 : ws = ws') : Xs κ g k mc ms cc y ret Q nc ns pc lv (st) ws := by subst h1; subst h2; subst h3; exact h
theorem x_get {C : String} {T : u_T} {N ci idx a : Nat} {fs : List Value} {v : Value} (d : xd cc pc (.getfield idx) 3 pc') (q0 j : Nat) (hin : ∀ w ∈ u_ws C T N, w ∈ TT) (hl : Cond.fieldLink y.cls idx (T j).1 (T j).2.1 (T j).2.2.1 ∈ TT) (he : ws[q0]? = some (a, .inr (ci, fs))) (hc : vwCl[ci]? = some (C, T, N)) (hj : j < N) (hv : fs[j]? = some v) (h : Xs κ g k mc ms cc y ret Q nc ns pc' lv (v :: st) ws) : Xs κ g k mc ms cc y ret Q nc ns pc lv (.ref a :: st) ws := by
  intro F H locs ls hW hL
  obtain ⟨d1, rfl⟩ := d
  exact va_get F.1 F.2.1 F.2.2.2.1 hin F.2.2.1 F.2.2.2.2.1 hW.1 q0 he hc j hj (F.2.2.2.1 _ hl) (fun _ h9 => h9) hv d1 (h F H locs ls hW hL)
theorem x_put {C : String} {T : u_T} {N ci idx a : Nat} {fs : List Value} {v : Value} {ty : Nat → FieldType} (d : xd cc pc (.putfield idx) 3 pc') (q0 j : Nat) (hin : ∀ w ∈ u_ws C T N, w ∈ TT) (hty : ∀ k, k < N → parseFieldDescriptor (T k).2.2.1 = some (ty k)) (hnm : ∀ a, a < N → ∀ b, b < N → a ≠ b → (T a).2.1 ≠ (T b).2.1) (hl : Cond.fieldLink y.cls idx (T j).1 (T j).2.1 (T j).2.2.1 ∈ TT) (he : ws[q0]? = some (a, .inr (ci, fs))) (hc : vwCl[ci]? = some (C, T, N)) (hj : j < N) (hfin : (T j).2.2.2 = false) (hn : narrow (ty j) v = v) (hfit : fits (ty j) v = true) (hlen : j < fs.length) (hws : ws.set q0 (a, .inr (ci, fs.set j v)) = ws') (h : Xs κ g k mc ms cc y ret Q nc ns pc' lv (st) ws') : Xs κ g k mc ms cc y ret Q nc ns pc lv (v :: .ref a :: st) ws := by
  intro F H locs ls hW hL
  obtain ⟨d1, rfl⟩ := d
  subst hws
  exact va_put F.1 F.2.1 F.2.2.2.1 hin ty hty hnm F.2.2.1 F.2.2.2.2.1 hW.1 hW.2.1 hW.2.2 q0 he hc j hj (F.2.2.2.1 _ hl) (fun _ h9 => h9) hfin (hty j hj) hn hfit hlen d1 (fun H1 locs1 hP hD hS => h F H1 locs1 ls ⟨hP, hD, hS⟩ hL)
theorem x_putF {C : String} {T : u_T} {N ci idx a : Nat} {fs : List Value} {v : Value} {ty : Nat → FieldType} (d : xd cc pc (.putfield idx) 3 pc') (q0 j : Nat) (hin : ∀ w ∈ u_ws C T N, w ∈ TT) (hty : ∀ k, k < N → parseFieldDescriptor (T k).2.2.1 = some (ty k)) (hnm : ∀ a, a < N → ∀ b, b < N → a ≠ b → (T a).2.1 ≠ (T b).2.1) (hl : Cond.fieldLink y.cls idx (T j).1 (T j).2.1 (T j).2.2.1 ∈ TT) (he : ws[q0]? = some (a, .inr (ci, fs))) (hc : vwCl[ci]? = some (C, T, N)) (hj : j < N) (hfin : (T j).2.2.2 = true) (hini : y.name = "<init>") (hdecl : (T j).1 = y.cls) (hn : narrow (ty j) v = v) (hfit : fits (ty j) v = true) (hlen : j < fs.length) (hws : ws.set q0 (a, .inr (ci, fs.set j v)) = ws') (h : Xs κ g k mc ms cc y ret Q nc ns pc' lv (st) ws') : Xs κ g k mc ms cc y ret Q nc ns pc lv (v :: .ref a :: st) ws := by
  intro F H locs ls hW hL
  obtain ⟨d1, rfl⟩ := d
  subst hws
  exact va_putF F.1 F.2.1 F.2.2.2.1 hin ty hty hnm F.2.2.1 F.2.2.2.2.1 hW.1 hW.2.1 hW.2.2 q0 he hc j hj (F.2.2.2.1 _ hl) (fun _ h9 => h9) hfin (by rw [← hini]; exact F.2.2.2.2.2.2.2.2.1) hdecl (hty j hj) hn hfit hlen d1 (fun H1 locs1 hP hD hS => h F H1 locs1 ls ⟨hP, hD, hS⟩ hL)
theorem x_iald {a n : Nat} {f : Nat → Int32} {i : Int32} (d : xd cc pc .iaload 1 pc') (q0 j : Nat) (ha : ws[q0]? = some (a, .inl (g.2.1 0, n, .inl f))) (hi : i = nI j) (hj : j < n) (hn : n < 2 ^ 31) (h : Xs κ g k mc ms cc y ret Q nc ns pc' lv (.int (f j) :: st) ws) : Xs κ g k mc ms cc y ret Q nc ns pc lv (.int i :: .ref a :: st) ws := by
  intro F H locs ls hW hL
  obtain ⟨d1, rfl⟩ := d
  subst hi
  have e : (nI j).toNatClampNeg = j := nI_clamp (Nat.lt_trans hj hn)
  refine va_iald F.1 F.2.1 F.2.2.2.2.1 hW.1 q0 0 ha rfl (vp_in_nI hj hn) d1 ?_
  rw [e]
  exact h F H locs ls hW hL
theorem x_iast {a n : Nat} {f : Nat → Int32} {i : Int32} {x : Int32} (d : xd cc pc .iastore 1 pc') (q0 j : Nat) (ha : ws[q0]? = some (a, .inl (g.2.1 0, n, .inl f))) (hi : i = nI j) (hj : j < n) (hn : n < 2 ^ 31) (hws : ws.set q0 (a, .inl (g.2.1 0, n, .inl (upd f j x))) = ws') (h : Xs κ g k mc ms cc y ret Q nc ns pc' lv (st) ws') : Xs κ g k mc ms cc y ret Q nc ns pc lv (.int x :: .int i :: .ref a :: st) ws := by
  intro F H locs ls hW hL
  obtain ⟨d1, rfl⟩ := d
  subst hi
  subst hws
  have e : (nI j).toNatClampNeg = j := nI_clamp (Nat.lt_trans hj hn)
  refine va_iast F.1 F.2.1 F.2.2.2.2.1 hW.1 hW.2.1 hW.2.2 q0 0 ha rfl (vp_in_nI hj hn) d1 ?_
  rw [e]
  exact fun H1 locs1 hP hD hS => h F H1 locs1 ls ⟨hP, hD, hS⟩ hL
theorem x_bald {a n : Nat} {f : Nat → Int32} {i : Int32} (d : xd cc pc .baload 1 pc') (q0 j : Nat) (ha : ws[q0]? = some (a, .inl (g.2.1 1, n, .inl f))) (hi : i = nI j) (hj : j < n) (hn : n < 2 ^ 31) (h : Xs κ g k mc ms cc y ret Q nc ns pc' lv (.int (f j) :: st) ws) : Xs κ g k mc ms cc y ret Q nc ns pc lv (.int i :: .ref a :: st) ws := by
  intro F H locs ls hW hL
  obtain ⟨d1, rfl⟩ := d
  subst hi
  have e : (nI j).toNatClampNeg = j := nI_clamp (Nat.lt_trans hj hn)
  refine va_bald F.1 F.2.1 F.2.2.2.2.1 hW.1 q0 1 ha rfl (vp_in_nI hj hn) d1 ?_
  rw [e]
  exact h F H locs ls hW hL
theorem x_bast {a n : Nat} {f : Nat → Int32} {i : Int32} {x : Int32} (d : xd cc pc .bastore 1 pc') (q0 j : Nat) (ha : ws[q0]? = some (a, .inl (g.2.1 1, n, .inl f))) (hi : i = nI j) (hj : j < n) (hn : n < 2 ^ 31) (hws : ws.set q0 (a, .inl (g.2.1 1, n, .inl (upd f j (vp_nar .byte x)))) = ws') (h : Xs κ g k mc ms cc y ret Q nc ns pc' lv (st) ws') : Xs κ g k mc ms cc y ret Q nc ns pc lv (.int x :: .int i :: .ref a :: st) ws := by
  intro F H locs ls hW hL
  obtain ⟨d1, rfl⟩ := d
  subst hi
  subst hws
  have e : (nI j).toNatClampNeg = j := nI_clamp (Nat.lt_trans hj hn)
  refine va_bast F.1 F.2.1 F.2.2.2.2.1 hW.1 hW.2.1 hW.2.2 q0 1 ha rfl (vp_in_nI hj hn) d1 ?_
  rw [e]
  exact fun H1 locs1 hP hD hS => h F H1 locs1 ls ⟨hP, hD, hS⟩ hL
theorem x_zald {a n : Nat} {f : Nat → Int32} {i : Int32} (d : xd cc pc .baload 1 pc') (q0 j : Nat) (ha : ws[q0]? = some (a, .inl (g.2.1 3, n, .inl f))) (hi : i = nI j) (hj : j < n) (hn : n < 2 ^ 31) (h : Xs κ g k mc ms cc y ret Q nc ns pc' lv (.int (f j) :: st) ws) : Xs κ g k mc ms cc y ret Q nc ns pc lv (.int i :: .ref a :: st) ws := by
  intro F H locs ls hW hL
  obtain ⟨d1, rfl⟩ := d
  subst hi
  have e : (nI j).toNatClampNeg = j := nI_clamp (Nat.lt_trans hj hn)
  refine va_zald F.1 F.2.1 F.2.2.2.2.1 hW.1 q0 3 ha rfl (vp_in_nI hj hn) d1 ?_
  rw [e]
  exact h F H locs ls hW hL
theorem x_zast {a n : Nat} {f : Nat → Int32} {i : Int32} {x : Int32} (d : xd cc pc .bastore 1 pc') (q0 j : Nat) (ha : ws[q0]? = some (a, .inl (g.2.1 3, n, .inl f))) (hi : i = nI j) (hj : j < n) (hn : n < 2 ^ 31) (hws : ws.set q0 (a, .inl (g.2.1 3, n, .inl (upd f j (vp_nar .boolean x)))) = ws') (h : Xs κ g k mc ms cc y ret Q nc ns pc' lv (st) ws') : Xs κ g k mc ms cc y ret Q nc ns pc lv (.int x :: .int i :: .ref a :: st) ws := by
  intro F H locs ls hW hL
  obtain ⟨d1, rfl⟩ := d
  subst hi
  subst hws
  have e : (nI j).toNatClampNeg = j := nI_clamp (Nat.lt_trans hj hn)
  refine va_zast F.1 F.2.1 F.2.2.2.2.1 hW.1 hW.2.1 hW.2.2 q0 3 ha rfl (vp_in_nI hj hn) d1 ?_
  rw [e]
  exact fun H1 locs1 hP hD hS => h F H1 locs1 ls ⟨hP, hD, hS⟩ hL
theorem x_lald {a n : Nat} {f : Nat → Int64} {i : Int32} (d : xd cc pc .laload 1 pc') (q0 j : Nat) (ha : ws[q0]? = some (a, .inl (g.2.1 2, n, .inr (.inl f)))) (hi : i = nI j) (hj : j < n) (hn : n < 2 ^ 31) (h : Xs κ g k mc ms cc y ret Q nc ns pc' lv (.long (f j) :: st) ws) : Xs κ g k mc ms cc y ret Q nc ns pc lv (.int i :: .ref a :: st) ws := by
  intro F H locs ls hW hL
  obtain ⟨d1, rfl⟩ := d
  subst hi
  have e : (nI j).toNatClampNeg = j := nI_clamp (Nat.lt_trans hj hn)
  refine va_lald F.1 F.2.1 F.2.2.2.2.1 hW.1 q0 2 ha rfl (vp_in_nI hj hn) d1 ?_
  rw [e]
  exact h F H locs ls hW hL
theorem x_last {a n : Nat} {f : Nat → Int64} {i : Int32} {x : Int64} (d : xd cc pc .lastore 1 pc') (q0 j : Nat) (ha : ws[q0]? = some (a, .inl (g.2.1 2, n, .inr (.inl f)))) (hi : i = nI j) (hj : j < n) (hn : n < 2 ^ 31) (hws : ws.set q0 (a, .inl (g.2.1 2, n, .inr (.inl (vp_updL f j x)))) = ws') (h : Xs κ g k mc ms cc y ret Q nc ns pc' lv (st) ws') : Xs κ g k mc ms cc y ret Q nc ns pc lv (.long x :: .int i :: .ref a :: st) ws := by
  intro F H locs ls hW hL
  obtain ⟨d1, rfl⟩ := d
  subst hi
  subst hws
  have e : (nI j).toNatClampNeg = j := nI_clamp (Nat.lt_trans hj hn)
  refine va_last F.1 F.2.1 F.2.2.2.2.1 hW.1 hW.2.1 hW.2.2 q0 2 ha rfl (vp_in_nI hj hn) d1 ?_
  rw [e]
  exact fun H1 locs1 hP hD hS => h F H1 locs1 ls ⟨hP, hD, hS⟩ hL
theorem x_alen {a ti : Nat} {x : vp_A} {ty : FieldType} {cA : ClassId} (v : Int32) (d : xd cc pc .arraylength 1 pc') (q0 : Nat) (ha : ws[q0]? = some (a, .inl (cA, x))) (ht : (xTy g)[ti]? = some (cA, ty)) (hv : Int32.ofNat x.1 = v) (h : Xs κ g k mc ms cc y ret Q nc ns pc' lv (.int v :: st) ws) : Xs κ g k mc ms cc y ret Q nc ns pc lv (.ref a :: st) ws := by
  intro F H locs ls hW hL
  obtain ⟨d1, rfl⟩ := d
  exact va_alen F.1 F.2.1 F.2.2.2.2.1 hW.1 q0 ti ha ht hv d1 (h F H locs ls hW hL)
theorem x_qald {a n b : Nat} {f : Nat → Option Nat} {i : Int32} (d : xd cc pc .aaload 1 pc') (q0 j : Nat) (ha : ws[q0]? = some (a, .inl (g.2.1 4, n, .inr (.inr (.inr (.inr f)))))) (hi : i = nI j) (hj : j < n) (hn : n < 2 ^ 31) (hf : f j = some b) (h : Xs κ g k mc ms cc y ret Q nc ns pc' lv (.ref b :: st) ws) : Xs κ g k mc ms cc y ret Q nc ns pc lv (.int i :: .ref a :: st) ws := by
  intro F H locs ls hW hL
  obtain ⟨d1, rfl⟩ := d
  subst hi
  have e : (nI j).toNatClampNeg = j := nI_clamp (Nat.lt_trans hj hn)
  refine va_aldq F.1 F.2.1 F.2.2.2.2.1 hW.1 q0 4 ha rfl (vp_in_nI hj hn) d1 ?_
  rw [e, hf]
  exact h F H locs ls hW hL
theorem x_gets {n : String} {t N idx : Nat} {f : Nat → Int32} (d : xd cc pc (.getstatic idx) 3 pc') (hz : ∀ {A : Nat → Prop} {U : State} {H : Heap}, xSF g A U H → xSA n t N f A U H) (hl : Cond.fieldLink y.cls idx "SlipWeeks" n "[I" ∈ TT) (h : Xs κ g k mc ms cc y ret Q nc ns pc' lv (.ref t :: st) ws) : Xs κ g k mc ms cc y ret Q nc ns pc lv (st) ws := by
  intro F H locs ls hW hL
  obtain ⟨d1, rfl⟩ := d
  exact va_gets F.1 F.2.1 (hz F.2.2.2.2.2.1).1 hW.2.2 F.2.2.1 (F.2.2.2.1 _ hl) (fun _ h9 => h9) d1 (h F H locs ls hW hL)
theorem x_getsN {n : String} {t N idx : Nat} {f : Nat → Int32} (d : xd cc pc (.getstatic idx) 3 pc') (hz : ∀ {A : Nat → Prop} {U : State} {H : Heap}, xSF g A U H → xSA n t N f A U H) (hl : ∀ {U : State}, xNw U → va_Nw (.fieldLinkNest y.cls idx "SlipWeeks" n "[I" "SlipWeeks") U) (h : Xs κ g k mc ms cc y ret Q nc ns pc' lv (.ref t :: st) ws) : Xs κ g k mc ms cc y ret Q nc ns pc lv (st) ws := by
  intro F H locs ls hW hL
  obtain ⟨d1, rfl⟩ := d
  exact va_getsN F.1 F.2.1 (hz F.2.2.2.2.2.1).1 hW.2.2 F.2.2.1 (va_Nw.use rfl (hl F.2.2.2.2.2.1.2.2.2.2.2.2.1)) (fun _ h9 => h9) d1 (h F H locs ls hW hL)
theorem x_tald {n : String} {t N : Nat} {f : Nat → Int32} {i : Int32} (d : xd cc pc .iaload 1 pc') (hz : ∀ {A : Nat → Prop} {U : State} {H : Heap}, xSF g A U H → xSA n t N f A U H) (j : Nat) (hi : i = nI j) (hj : j < N) (hn : N < 2 ^ 31) (h : Xs κ g k mc ms cc y ret Q nc ns pc' lv (.int (f j) :: st) ws) : Xs κ g k mc ms cc y ret Q nc ns pc lv (.int i :: .ref t :: st) ws := by
  intro F H locs ls hW hL
  obtain ⟨d1, rfl⟩ := d
  subst hi
  have e : (nI j).toNatClampNeg = j := nI_clamp (Nat.lt_trans hj hn)
  exact va_ti F.1 F.2.1 (hz F.2.2.2.2.2.1).2 hW.2.2 (vp_in_nI hj hn) (v := .int (f j)) (by rw [e]) d1 (h F H locs ls hW hL)
theorem x_ldcS (d : xd cc pc (.ldc 81) 2 pc') (hy : y.cls = RX1) (h : Xs κ g k mc ms cc y ret Q nc ns pc' lv (.ref (g.2.2 6) :: st) ws) : Xs κ g k mc ms cc y ret Q nc ns pc lv (st) ws := by
  intro F H locs ls hW hL
  obtain ⟨d1, rfl⟩ := d
  exact va_ldcS F.1 F.2.1 (own := RX1) (by rw [← hy]; exact F.2.2.1) F.2.2.2.2.2.1.2.2.2.2.2.2.2.2.1 d1 (h F H locs ls hW hL)
theorem x_getOF {o n e : String} {idx q : Nat} {v : Value} (d : xd cc pc (.getfield idx) 3 pc') (hz : ∀ {A : Nat → Prop} {U : State} {H : Heap}, xStr g A U H → va_OF o n e v q A U H) (hl : Cond.fieldLink y.cls idx o n e ∈ TT) (h : Xs κ g k mc ms cc y ret Q nc ns pc' lv (v :: st) ws) : Xs κ g k mc ms cc y ret Q nc ns pc lv (.ref q :: st) ws := by
  intro F H locs ls hW hL
  obtain ⟨d1, rfl⟩ := d
  exact vk_getf F.1 F.2.1 (hz F.2.2.2.2.2.1.2.2.2.2.2.2.2) hW.2.2 F.2.2.1 (F.2.2.2.1 _ hl) (fun _ h9 => h9) d1 (h F H locs ls hW hL)
theorem x_getZ {o n e : String} {idx : Nat} {v : Value} (d : xd cc pc (.getstatic idx) 3 pc') (hz : ∀ {A : Nat → Prop} {U : State} {H : Heap}, xStr g A U H → va_Z o n e v A U H) (hl : Cond.fieldLink y.cls idx o n e ∈ TT) (h : Xs κ g k mc ms cc y ret Q nc ns pc' lv (v :: st) ws) : Xs κ g k mc ms cc y ret Q nc ns pc lv (st) ws := by
  intro F H locs ls hW hL
  obtain ⟨d1, rfl⟩ := d
  exact va_gets F.1 F.2.1 (hz F.2.2.2.2.2.1.2.2.2.2.2.2.2) hW.2.2 F.2.2.1 (F.2.2.2.1 _ hl) (fun _ h9 => h9) d1 (h F H locs ls hW hL)
theorem x_tbld {t N : Nat} {f : Nat → Int32} {i : Int32} (d : xd cc pc .baload 1 pc') (hz : ∀ {A : Nat → Prop} {U : State} {H : Heap}, xStr g A U H → va_T .byte t N (fun j => .int (f j)) A U H) (j : Nat) (hi : i = nI j) (hj : j < N) (hn : N < 2 ^ 31) (h : Xs κ g k mc ms cc y ret Q nc ns pc' lv (.int (f j) :: st) ws) : Xs κ g k mc ms cc y ret Q nc ns pc lv (.int i :: .ref t :: st) ws := by
  intro F H locs ls hW hL
  obtain ⟨d1, rfl⟩ := d
  subst hi
  have e : (nI j).toNatClampNeg = j := nI_clamp (Nat.lt_trans hj hn)
  exact va_tb F.1 F.2.1 (hz F.2.2.2.2.2.1.2.2.2.2.2.2.2) hW.2.2 (vp_in_nI hj hn) (v := .int (f j)) (by rw [e]) d1 (h F H locs ls hW hL)
theorem x_tlen {t N : Nat} {f : Nat → Value} {ty : FieldType} (v : Int32) (d : xd cc pc .arraylength 1 pc') (hz : ∀ {A : Nat → Prop} {U : State} {H : Heap}, xStr g A U H → va_T ty t N f A U H) (hv : Int32.ofNat N = v) (h : Xs κ g k mc ms cc y ret Q nc ns pc' lv (.int v :: st) ws) : Xs κ g k mc ms cc y ret Q nc ns pc lv (.ref t :: st) ws := by
  intro F H locs ls hW hL
  obtain ⟨d1, rfl⟩ := d
  exact va_tlen F.1 F.2.1 (hz F.2.2.2.2.2.1.2.2.2.2.2.2.2) hW.2.2 hv d1 (h F H locs ls hW hL)
theorem x_sald {b L : Nat} {xs : Nat → Int32} {i : Int32} (d : xd cc pc .iaload 1 pc') (hX : va_X b L xs (ks κ) (ks κ).heap) (hb : b < (ks κ).heap.size) (hA : ¬ kA κ b) (j : Nat) (hi : i = nI j) (hj : j < L) (hn : L < 2 ^ 31) (h : Xs κ g k mc ms cc y ret Q nc ns pc' lv (.int (xs j) :: st) ws) : Xs κ g k mc ms cc y ret Q nc ns pc lv (.int i :: .ref b :: st) ws := by
  intro F H locs ls hW hL
  obtain ⟨d1, rfl⟩ := d
  subst hi
  have e : (nI j).toNatClampNeg = j := nI_clamp (Nat.lt_trans hj hn)
  refine va_sld F.1 F.2.1 hX hb hA hW.2.2 (vp_in_nI hj hn) d1 ?_
  rw [e]
  exact h F H locs ls hW hL
theorem x_slen {b L : Nat} {xs : Nat → Int32} (d : xd cc pc .arraylength 1 pc') (hX : va_X b L xs (ks κ) (ks κ).heap) (hb : b < (ks κ).heap.size) (hA : ¬ kA κ b) (h : Xs κ g k mc ms cc y ret Q nc ns pc' lv (.int (nI L) :: st) ws) : Xs κ g k mc ms cc y ret Q nc ns pc lv (.ref b :: st) ws := by
  intro F H locs ls hW hL
  obtain ⟨d1, rfl⟩ := d
  exact va_slen F.1 F.2.1 hX hb hA hW.2.2 d1 (h F H locs ls hW hL)
theorem x_tabIn {dflt lo hi off : Int} {offs : Array Int} {len : Nat} {x : Int32} (tgt : Nat) (d : decode cc pc = .ok (.tableswitch dflt lo hi offs, len)) (h1 : ¬ x.toInt < lo) (h2 : ¬ hi < x.toInt) (ho : offs[(x.toInt - lo).toNat]? = some off) (ht : (pc : Int) + off = (tgt : Int)) (h : Xs κ g k mc ms cc y ret Q nc ns tgt lv (st) ws) : Xs κ g k mc ms cc y ret Q nc ns pc lv (.int x :: st) ws := fun F H locs ls hW hL => lv_tableIn F.1 F.2.1 d h1 h2 ho ht (h F H locs ls hW hL)
theorem x_tabOut {dflt lo hi : Int} {offs : Array Int} {len : Nat} {x : Int32} (tgt : Nat) (d : decode cc pc = .ok (.tableswitch dflt lo hi offs, len)) (h1 : x.toInt < lo ∨ hi < x.toInt) (ht : (pc : Int) + dflt = (tgt : Int)) (h : Xs κ g k mc ms cc y ret Q nc ns tgt lv (st) ws) : Xs κ g k mc ms cc y ret Q nc ns pc lv (.int x :: st) ws := fun F H locs ls hW hL => lv_tableOut F.1 F.2.1 d h1 ht (h F H locs ls hW hL)
theorem x_lookup {dflt off : Int} {ps : Array (Int × Int)} {len : Nat} {x : Int32} (tgt : Nat) (d : decode cc pc = .ok (.lookupswitch dflt ps, len)) (hp : (ps.toList.zip (ps.toList.drop 1)).all (fun (a, next) => a.1 < next.1) = true) (ho : Op.lookupswitch.offset ps.toList dflt x.toInt = off) (ht : (pc : Int) + off = (tgt : Int)) (h : Xs κ g k mc ms cc y ret Q nc ns tgt lv (st) ws) : Xs κ g k mc ms cc y ret Q nc ns pc lv (.int x :: st) ws := fun F H locs ls hW hL => lv_lookup F.1 F.2.1 d hp ho ht (h F H locs ls hW hL)
theorem xcore {post : Option Value → va_W → Prop} {wc : va_W} {H : Heap} {locs : List Loc} {ls : Array Slot} {st0 : List Value} {a : Array Value} {mc2 ms2 : Nat} {is : List Nat} (F : Fx κ g cc y ret) (hW : Wd κ g ws H locs) (hC : is.map (fun i => ws[i]?) = wc.map some)
    (hr : va_Run κ.1 κ.2.1 κ.2.2.1 (rmX k mc ms) (ks κ) (km κ) (ka κ) (kb κ) (kt κ) (kc κ) H locs nc ns mc2 ms2 (F0 (km κ) pc ls st0) st (xQk g (va_A wc H.size) post a) (va_A wc H.size))
    (kk : ∀ (v : Option Value) (wc' : va_W) (H1 : Heap) (locs1 : List Loc), post v wc' → va_P g.1 vwCl wc' H1 → va_D (va_A wc H.size) wc' → (∀ q : Nat, q < H.size → ¬ va_A wc H.size q → H1[q]? = H[q]?) → va_S (kA κ) (ks κ).heap H1 locs1 → W κ.1 κ.2.1 κ.2.2.1 (rmX k mc ms) (ks κ) (km κ) (ka κ) (kb κ) (kt κ) (kc κ) H1 locs1 (nc + mc2) (ns + ms2) Q (F0 (km κ) (pc + 3) ls (v.toList ++ st))) :
    W κ.1 κ.2.1 κ.2.2.1 (rmX k mc ms) (ks κ) (km κ) (ka κ) (kb κ) (kt κ) (kc κ) H locs nc ns Q (F0 (km κ) pc ls st0) := by
  intro T hT X
  obtain ⟨v, st₀, t, T', L, h0, X', hL, e1, e2, ⟨⟨v', wc', hv, hp, hP', hD'⟩, hz, hk⟩, st⟩ := hr T hT X
  cases hv
  rw [h0] at hz hk
  have hF := va_free hW.2.1 hW.2.2 F.2.2.2.2.2.2.1 is hC
  have hS := hW.2.2
  obtain ⟨t2, a1, b1⟩ := kk v wc' T'.heap (locs ++ L) hp (by rw [e1]; exact hP') hD' (fun q h1 h2 => by rw [e1]; exact hk q h1 h2)
    ⟨Nat.le_trans hS.1 (by rw [e1]; exact hz), fun q h1 h2 => by rw [e1, hk q (Nat.lt_of_lt_of_le h1 hS.1) (fun z => h2 (hF q z))]; exact hS.2.1 q h1 h2, fun q hq => by
      rcases List.mem_append.mp hq with h | h
      · exact hS.2.2 q h
      · exact hF _ (hL q h)⟩ T' rfl X'
  exact ⟨t2, st t2 a1, b1⟩
theorem xpre {wc : va_W} {H : Heap} {locs : List Loc} {is : List Nat} {av : List Value} (F : Fx κ g cc y ret) (hW : Wd κ g ws H locs) (hC : is.map (fun i => ws[i]?) = wc.map some) (hnd : va_nd is = true) : ∀ U : State, U.heap = H → (ks κ).WarmedH U.vm → xPc g av wc H.size av.toArray U := by
  intro U hU hWm
  have hF := va_free hW.2.1 hW.2.2 F.2.2.2.2.2.2.1 is hC
  refine ⟨rfl, by rw [hU], ?_, va_K.moved hWm.alike F.2.2.2.2.1, (hW.2.1.sub is hnd hC).weaken (fun _ _ _ _ => trivial), ?_⟩
  · rw [hU]
    intro t q h
    obtain ⟨i, -, h2⟩ := xmap_at hC t q h
    exact hW.1 i q h2
  · rw [hU]
    exact F.2.2.2.2.2.1.to hWm (fun a h1 h2 => hW.2.2.2.1 a h1 h2) hF
theorem x_callV {post : Option Value → va_W → Prop} {idx k2 maxL2 N ci b : Nat} {T : u_T} {y2 : MethodName} {cc2 : ByteArray} {ret2 : Option FieldType} {As st0 : List Value} {wc : va_W} {fs : List Value} (d : xd cc pc (.invokevirtual idx) 3 pc') (hl : Cond.methodLink y.cls idx y2 ∈ TT) (hm : xMV y2 cc2 maxL2 ret2 As.length) (hM : Ct κ.2.1 g k2 0 0 y2 cc2 maxL2 ret2 (.ref b :: As) wc post) (is : List Nat) (hC : is.map (fun i => ws[i]?) = wc.map some) (hnd : va_nd is = true) (q0 : Nat) (he : ws[q0]? = some (b, .inr (ci, fs))) (hc : vwCl[ci]? = some (y2.cls, T, N)) (hst0 : st0 = As.reverse ++ .ref b :: st) (hst : (st.map fun v => v.category).sum ≤ 8) (hk : k2 < k) (hnc : nc ≤ mc) (hns : ns ≤ ms)
    (h : ∀ (v : Option Value) (wc' : va_W), post v wc' → wc'.map Prod.fst = wc.map Prod.fst ∧ Xs κ g k mc ms cc y ret Q nc ns pc' lv (v.toList ++ st) (xSet ws is wc')) : Xs κ g k mc ms cc y ret Q nc ns pc lv st0 ws := by
  intro F H locs ls hW hL
  obtain ⟨d1, rfl⟩ := d
  subst hst0
  refine xcore (mc2 := 0) (ms2 := 0) F hW hC (va_runV (As := As) (rest := st) ⟨F.1, F.2.1, rfl, F.2.2.1, F.2.2.2.1⟩ (hM H.size) ⟨xCB F.2.2.2.1 hm.2 hl ⟨hk, by simp only [rmX]; omega⟩, F.2.2.2.1 _ hm.1.1, F.2.2.2.1 _ hm.1.2⟩ ⟨xPc_blind, va_recv F.2.2.2.2.1 hW.1 hc he, xpre F hW hC hnd⟩ rfl rfl hL.1 rfl (lv_room hst) d1 ⟨hnc, hns⟩) ?_
  intro v wc' H1 locs1 hp hP1 hD1 hk1 hS1
  obtain ⟨hadr, hX⟩ := h v wc' hp
  exact hX F H1 locs1 ls (xWd_set hW hC hadr hk1 hP1 hS1) hL
theorem x_callVS {post : Option Value → va_W → Prop} {idx k2 maxL2 : Nat} {y2 : MethodName} {cc2 : ByteArray} {ret2 : Option FieldType} {As st0 : List Value} (d : xd cc pc (.invokevirtual idx) 3 pc') (hl : Cond.methodLink y.cls idx y2 ∈ TT) (hm : xMV y2 cc2 maxL2 ret2 As.length) (hy2 : y2.cls = "java/lang/String") (hM : Ct κ.2.1 g k2 0 0 y2 cc2 maxL2 ret2 (.ref (g.2.2 6) :: As) [] post) (hst0 : st0 = As.reverse ++ .ref (g.2.2 6) :: st) (hst : (st.map fun v => v.category).sum ≤ 8) (hk : k2 < k) (hnc : nc ≤ mc) (hns : ns ≤ ms)
    (h : ∀ (v : Option Value) (wc' : va_W), post v wc' → wc' = [] ∧ Xs κ g k mc ms cc y ret Q nc ns pc' lv (v.toList ++ st) ws) : Xs κ g k mc ms cc y ret Q nc ns pc lv st0 ws := by
  intro F H locs ls hW hL
  obtain ⟨d1, rfl⟩ := d
  subst hst0
  have hC : ([] : List Nat).map (fun i => ws[i]?) = ([] : va_W).map some := rfl
  refine xcore (mc2 := 0) (ms2 := 0) F hW hC (va_runV (As := As) (rest := st) ⟨F.1, F.2.1, rfl, F.2.2.1, F.2.2.2.1⟩ (hM H.size) ⟨xCB F.2.2.2.1 hm.2 hl ⟨hk, by simp only [rmX]; omega⟩, F.2.2.2.1 _ hm.1.1, F.2.2.2.1 _ hm.1.2⟩ ⟨xPc_blind, by rw [hy2]; exact vk_recv (i := 0) F.2.2.2.2.2.1.2.2.2.2.2.2.2.1 (by decide) hW.2.2, xpre F hW hC rfl⟩ rfl rfl hL.1 rfl (lv_room hst) d1 ⟨hnc, hns⟩) ?_
  intro v wc' H1 locs1 hp hP1 hD1 hk1 hS1
  obtain ⟨rfl, hX⟩ := h v wc' hp
  exact hX F H1 locs1 ls (xWd_set hW hC rfl hk1 hP1 hS1) hL
theorem x_callS {post : Option Value → va_W → Prop} {idx k2 maxL2 : Nat} {y2 : MethodName} {cc2 : ByteArray} {ret2 : Option FieldType} {As st0 : List Value} {wc : va_W} (d : xd cc pc (.invokestatic idx) 3 pc') (hl : Cond.methodLink y.cls idx y2 ∈ TT) (hm : xMS y2 cc2 maxL2 ret2 As.length) (hM : Ct κ.2.1 g k2 0 0 y2 cc2 maxL2 ret2 As wc post) (is : List Nat) (hC : is.map (fun i => ws[i]?) = wc.map some) (hnd : va_nd is = true) (hst0 : st0 = As.reverse ++ st) (hst : (st.map fun v => v.category).sum ≤ 8) (hk : k2 < k) (hnc : nc ≤ mc) (hns : ns ≤ ms)
    (h : ∀ (v : Option Value) (wc' : va_W), post v wc' → wc'.map Prod.fst = wc.map Prod.fst ∧ Xs κ g k mc ms cc y ret Q nc ns pc' lv (v.toList ++ st) (xSet ws is wc')) : Xs κ g k mc ms cc y ret Q nc ns pc lv st0 ws := by
  intro F H locs ls hW hL
  obtain ⟨d1, rfl⟩ := d
  subst hst0
  refine xcore (mc2 := 0) (ms2 := 0) F hW hC (va_runS (As := As) (rest := st) ⟨F.1, F.2.1, rfl, F.2.2.1, F.2.2.2.1⟩ (hM H.size) ⟨xCB F.2.2.2.1 hm.2 hl ⟨hk, by simp only [rmX]; omega⟩, F.2.2.2.1 _ hm.1⟩ ⟨xPc_blind, xpre F hW hC hnd⟩ rfl rfl hL.1 rfl (lv_room hst) d1 ⟨hnc, hns⟩) ?_
  intro v wc' H1 locs1 hp hP1 hD1 hk1 hS1
  obtain ⟨hadr, hX⟩ := h v wc' hp
  exact hX F H1 locs1 ls (xWd_set hW hC hadr hk1 hP1 hS1) hL
theorem xCN {R : Room} {s : State} {args : Array Value} {own : String} {idx n k2 mc2 ms2 maxL2 : Nat} {y2 : MethodName} {cc2 : ByteArray} {ret2 : Option FieldType} (hT : ∀ w ∈ TT, w.before args s = true) (hm : xMN y2 cc2 maxL2 ret2 n) (hl : va_Nw (.methodLinkNest own idx y2 "SlipWeeks") s) (hR : k2 + 1 ≤ R.frames ∧ 64 * (k2 + 1) ≤ R.locals) : va_CN R s args own idx y2 "SlipWeeks" cc2 maxL2 ret2 (Cond.code y2 cc2 maxL2 ret2 :: TT) (rmX k2 mc2 ms2) mc2 ms2 n :=
  va_cnB n hT (xgood hm.2.1) rfl rfl rfl hl (hT _ hm.1) hm.2.2.1 ⟨hR.1, by have := hm.2.2.2; have := hR.2; simp only [rmX]; omega⟩
theorem x_callSN {post : Option Value → va_W → Prop} {idx k2 maxL2 : Nat} {y2 : MethodName} {cc2 : ByteArray} {ret2 : Option FieldType} {As st0 : List Value} {wc : va_W} (d : xd cc pc (.invokestatic idx) 3 pc') (hl : ∀ {U : State}, xNw U → va_Nw (.methodLinkNest y.cls idx y2 "SlipWeeks") U) (hm : xMS y2 cc2 maxL2 ret2 As.length) (hM : Ct κ.2.1 g k2 0 0 y2 cc2 maxL2 ret2 As wc post) (is : List Nat) (hC : is.map (fun i => ws[i]?) = wc.map some) (hnd : va_nd is = true) (hst0 : st0 = As.reverse ++ st) (hst : (st.map fun v => v.category).sum ≤ 8) (hk : k2 < k) (hnc : nc ≤ mc) (hns : ns ≤ ms)
    (h : ∀ (v : Option Value) (wc' : va_W), post v wc' → wc'.map Prod.fst = wc.map Prod.fst ∧ Xs κ g k mc ms cc y ret Q nc ns pc' lv (v.toList ++ st) (xSet ws is wc')) : Xs κ g k mc ms cc y ret Q nc ns pc lv st0 ws := by
  intro F H locs ls hW hL
  obtain ⟨d1, rfl⟩ := d
  subst hst0
  refine xcore (mc2 := 0) (ms2 := 0) F hW hC (va_runSN (As := As) (rest := st) (nL := (kc κ).maxLocals) (Ts := TT) ⟨F.1, F.2.1, rfl, F.2.2.1, F.2.2.2.1⟩ (hM H.size) ⟨xCN F.2.2.2.1 hm.2 (hl F.2.2.2.2.2.1.2.2.2.2.2.2.1) ⟨hk, by simp only [rmX]; omega⟩, F.2.2.2.1 _ hm.1, trivial⟩ ⟨xPc_blind, xpre F hW hC hnd⟩ rfl rfl hL.1 rfl (lv_room hst) d1 ⟨hnc, hns⟩) ?_
  intro v wc' H1 locs1 hp hP1 hD1 hk1 hS1
  obtain ⟨hadr, hX⟩ := h v wc' hp
  exact hX F H1 locs1 ls (xWd_set hW hC hadr hk1 hP1 hS1) hL
theorem x_callI {post : Option Value → va_W → Prop} {idx k2 mc2 ms2 maxL2 b : Nat} {y2 : MethodName} {cc2 : ByteArray} {As st0 : List Value} {wc wr : va_W} (d : xd cc pc (.invokespecial idx) 3 pc') (hl : Cond.methodLink y.cls idx y2 ∈ TT) (hm : xMI y2 cc2 maxL2 As.length) (hM : Ct κ.2.1 g k2 mc2 ms2 y2 cc2 maxL2 none (.ref b :: As) wc post) (is isR : List Nat) (hC : is.map (fun i => ws[i]?) = wc.map some) (hnd : va_nd is = true) (hR : isR.map (fun i => ws[i]?) = wr.map some) (hnR : va_nd isR = true) (hdis : ∀ i ∈ isR, i ∉ is) (hst0 : st0 = As.reverse ++ .ref b :: st) (hst : (st.map fun v => v.category).sum ≤ 8) (hk : k2 < k) (hnc : nc + mc2 ≤ mc) (hns : ns + ms2 ≤ ms)
    (h : ∀ (v : Option Value) (wc' : va_W), post v wc' → Xs κ g k mc ms cc y ret Q (nc + mc2) (ns + ms2) pc' lv (v.toList ++ st) (wr ++ wc')) : Xs κ g k mc ms cc y ret Q nc ns pc lv st0 ws := by
  intro F H locs ls hW hL
  obtain ⟨d1, rfl⟩ := d
  subst hst0
  refine xcore (mc2 := mc2) (ms2 := ms2) F hW hC (va_runI (As := As) (rest := st) ⟨F.1, F.2.1, rfl, F.2.2.1, F.2.2.2.1⟩ (hM H.size) ⟨xCB F.2.2.2.1 hm.2 hl ⟨hk, by simp only [rmX]; omega⟩, hm.1.2, F.2.2.2.1 _ hm.1.1⟩ ⟨xPc_blind, xpre F hW hC hnd⟩ rfl rfl hL.1 rfl (lv_room hst) d1 ⟨hnc, hns⟩) ?_
  intro v wc' H1 locs1 hp hP1 hD1 hk1 hS1
  obtain ⟨hP2, hD2⟩ := va_join hW.1 hW.2.1 is isR hC hR hnR hdis hk1 (va_free hW.2.1 hW.2.2 F.2.2.2.2.2.2.1 is hC) hP1 hD1
  exact h v wc' hp F H1 locs1 ls ⟨hP2, hD2, hS1⟩ hL
theorem x_callIN {post : Option Value → va_W → Prop} {idx k2 mc2 ms2 maxL2 b : Nat} {y2 : MethodName} {cc2 : ByteArray} {As st0 : List Value} {wc wr : va_W} (d : xd cc pc (.invokespecial idx) 3 pc') (hl : ∀ {U : State}, xNw U → va_Nw (.methodLinkNest y.cls idx y2 "SlipWeeks") U) (hm : xMI y2 cc2 maxL2 As.length) (hM : Ct κ.2.1 g k2 mc2 ms2 y2 cc2 maxL2 none (.ref b :: As) wc post) (is isR : List Nat) (hC : is.map (fun i => ws[i]?) = wc.map some) (hnd : va_nd is = true) (hR : isR.map (fun i => ws[i]?) = wr.map some) (hnR : va_nd isR = true) (hdis : ∀ i ∈ isR, i ∉ is) (hst0 : st0 = As.reverse ++ .ref b :: st) (hst : (st.map fun v => v.category).sum ≤ 8) (hk : k2 < k) (hnc : nc + mc2 ≤ mc) (hns : ns + ms2 ≤ ms)
    (h : ∀ (v : Option Value) (wc' : va_W), post v wc' → Xs κ g k mc ms cc y ret Q (nc + mc2) (ns + ms2) pc' lv (v.toList ++ st) (wr ++ wc')) : Xs κ g k mc ms cc y ret Q nc ns pc lv st0 ws := by
  intro F H locs ls hW hL
  obtain ⟨d1, rfl⟩ := d
  subst hst0
  refine xcore (mc2 := mc2) (ms2 := ms2) F hW hC (va_runIN (As := As) (rest := st) (nL := (kc κ).maxLocals) (Ts := TT) ⟨F.1, F.2.1, rfl, F.2.2.1, F.2.2.2.1⟩ (hM H.size) ⟨xCN F.2.2.2.1 hm.2 (hl F.2.2.2.2.2.1.2.2.2.2.2.2.1) ⟨hk, by simp only [rmX]; omega⟩, hm.1.2, F.2.2.2.1 _ hm.1.1⟩ ⟨xPc_blind, xpre F hW hC hnd⟩ rfl rfl hL.1 rfl (lv_room hst) d1 ⟨hnc, hns⟩) ?_
  intro v wc' H1 locs1 hp hP1 hD1 hk1 hS1
  obtain ⟨hP2, hD2⟩ := va_join hW.1 hW.2.1 is isR hC hR hnR hdis hk1 (va_free hW.2.1 hW.2.2 F.2.2.2.2.2.2.1 is hC) hP1 hD1
  exact h v wc' hp F H1 locs1 ls ⟨hP2, hD2, hS1⟩ hL
/-! returns -/
theorem x_iret {post : Option Value → va_W → Prop} {v : Int32} (d : xd cc pc .ireturn 1 pc') (hr : ret = some .int) (hnc : nc ≤ mc) (hns : ns ≤ ms) (hp : post (some (.int v)) ws) : Xs κ g k mc ms cc y ret (xQ κ g mc ms post) nc ns pc lv [.int v] ws := by
  intro F H locs ls hW hL
  obtain ⟨d1, rfl⟩ := d
  refine W.widen hnc hns ?_
  exact W.iret F.1 F.2.1 (F.2.2.2.2.2.2.2.2.2.trans hr) (fun t ht hWm => ⟨⟨_, ws, rfl, hp, by rw [ht]; exact hW.1, hW.2.1⟩, hW.2.2.F ht⟩) hW.2.2.2.2 d1 F.2.2.2.2.2.2.2.1
theorem x_zret {post : Option Value → va_W → Prop} {v : Int32} {ty : FieldType} (d : xd cc pc .ireturn 1 pc') (hr : ret = some ty) (hz : narrow ty (.int v) = .int v) (hnc : nc ≤ mc) (hns : ns ≤ ms) (hp : post (some (.int v)) ws) : Xs κ g k mc ms cc y ret (xQ κ g mc ms post) nc ns pc lv [.int v] ws := by
  intro F H locs ls hW hL
  obtain ⟨d1, rfl⟩ := d
  refine W.widen hnc hns ?_
  exact W.zret F.1 F.2.1 (F.2.2.2.2.2.2.2.2.2.trans hr) hz (fun t ht hWm => ⟨⟨_, ws, rfl, hp, by rw [ht]; exact hW.1, hW.2.1⟩, hW.2.2.F ht⟩) hW.2.2.2.2 d1 F.2.2.2.2.2.2.2.1
theorem x_lret {post : Option Value → va_W → Prop} {v : Int64} (d : xd cc pc .lreturn 1 pc') (hr : ret = some .long) (hnc : nc ≤ mc) (hns : ns ≤ ms) (hp : post (some (.long v)) ws) : Xs κ g k mc ms cc y ret (xQ κ g mc ms post) nc ns pc lv [.long v] ws := by
  intro F H locs ls hW hL
  obtain ⟨d1, rfl⟩ := d
  refine W.widen hnc hns ?_
  exact W.lret F.1 F.2.1 (F.2.2.2.2.2.2.2.2.2.trans hr) (fun t ht hWm => ⟨⟨_, ws, rfl, hp, by rw [ht]; exact hW.1, hW.2.1⟩, hW.2.2.F ht⟩) hW.2.2.2.2 d1 F.2.2.2.2.2.2.2.1
theorem x_vret {post : Option Value → va_W → Prop} (d : xd cc pc .return_ 1 pc') (hr : ret = none) (hnc : nc ≤ mc) (hns : ns ≤ ms) (hp : post none ws) : Xs κ g k mc ms cc y ret (xQ κ g mc ms post) nc ns pc lv [] ws := by
  intro F H locs ls hW hL
  obtain ⟨d1, rfl⟩ := d
  refine W.widen hnc hns ?_
  exact W.vret F.1 F.2.1 (F.2.2.2.2.2.2.2.2.2.trans hr) (fun t ht hWm => ⟨⟨_, ws, rfl, hp, by rw [ht]; exact hW.1, hW.2.1⟩, hW.2.2.F ht⟩) hW.2.2.2.2 d1 F.2.2.2.2.2.2.2.1
/-! calls whose end is told outright -/
theorem x_cVi {idx k2 maxL2 N ci b : Nat} {T : u_T} {y2 : MethodName} {cc2 : ByteArray} {ret2 : Option FieldType} {As st0 : List Value} {wc w : va_W} {fs : List Value} {r : Int32} (d : xd cc pc (.invokevirtual idx) 3 pc') (hl : Cond.methodLink y.cls idx y2 ∈ TT) (hm : xMV y2 cc2 maxL2 ret2 As.length) (hM : Ct κ.2.1 g k2 0 0 y2 cc2 maxL2 ret2 (.ref b :: As) wc (xpi r w)) (is : List Nat) (hC : is.map (fun i => ws[i]?) = wc.map some) (hnd : va_nd is = true) (q0 : Nat) (he : ws[q0]? = some (b, .inr (ci, fs))) (hc : vwCl[ci]? = some (y2.cls, T, N)) (hst0 : st0 = As.reverse ++ .ref b :: st) (hst : (st.map fun v => v.category).sum ≤ 8) (hk : k2 < k) (hnc : nc ≤ mc) (hns : ns ≤ ms) (hadr : w.map Prod.fst = wc.map Prod.fst) (hws : xSet ws is w = ws') (h : Xs κ g k mc ms cc y ret Q nc ns pc' lv (.int r :: st) ws') : Xs κ g k mc ms cc y ret Q nc ns pc lv st0 ws :=
  x_callV d hl hm hM is hC hnd q0 he hc hst0 hst hk hnc hns (fun v wc' hp => by obtain ⟨rfl, rfl⟩ := hp; subst hws; exact ⟨hadr, h⟩)
theorem x_cVl {idx k2 maxL2 N ci b : Nat} {T : u_T} {y2 : MethodName} {cc2 : ByteArray} {ret2 : Option FieldType} {As st0 : List Value} {wc w : va_W} {fs : List Value} {r : Int64} (d : xd cc pc (.invokevirtual idx) 3 pc') (hl : Cond.methodLink y.cls idx y2 ∈ TT) (hm : xMV y2 cc2 maxL2 ret2 As.length) (hM : Ct κ.2.1 g k2 0 0 y2 cc2 maxL2 ret2 (.ref b :: As) wc (xpl r w)) (is : List Nat) (hC : is.map (fun i => ws[i]?) = wc.map some) (hnd : va_nd is = true) (q0 : Nat) (he : ws[q0]? = some (b, .inr (ci, fs))) (hc : vwCl[ci]? = some (y2.cls, T, N)) (hst0 : st0 = As.reverse ++ .ref b :: st) (hst : (st.map fun v => v.category).sum ≤ 8) (hk : k2 < k) (hnc : nc ≤ mc) (hns : ns ≤ ms) (hadr : w.map Prod.fst = wc.map Prod.fst) (hws : xSet ws is w = ws') (h : Xs κ g k mc ms cc y ret Q nc ns pc' lv (.long r :: st) ws') : Xs κ g k mc ms cc y ret Q nc ns pc lv st0 ws :=
  x_callV d hl hm hM is hC hnd q0 he hc hst0 hst hk hnc hns (fun v wc' hp => by obtain ⟨rfl, rfl⟩ := hp; subst hws; exact ⟨hadr, h⟩)
theorem x_cVv {idx k2 maxL2 N ci b : Nat} {T : u_T} {y2 : MethodName} {cc2 : ByteArray} {ret2 : Option FieldType} {As st0 : List Value} {wc w : va_W} {fs : List Value} (d : xd cc pc (.invokevirtual idx) 3 pc') (hl : Cond.methodLink y.cls idx y2 ∈ TT) (hm : xMV y2 cc2 maxL2 ret2 As.length) (hM : Ct κ.2.1 g k2 0 0 y2 cc2 maxL2 ret2 (.ref b :: As) wc (xpv w)) (is : List Nat) (hC : is.map (fun i => ws[i]?) = wc.map some) (hnd : va_nd is = true) (q0 : Nat) (he : ws[q0]? = some (b, .inr (ci, fs))) (hc : vwCl[ci]? = some (y2.cls, T, N)) (hst0 : st0 = As.reverse ++ .ref b :: st) (hst : (st.map fun v => v.category).sum ≤ 8) (hk : k2 < k) (hnc : nc ≤ mc) (hns : ns ≤ ms) (hadr : w.map Prod.fst = wc.map Prod.fst) (hws : xSet ws is w = ws') (h : Xs κ g k mc ms cc y ret Q nc ns pc' lv st ws') : Xs κ g k mc ms cc y ret Q nc ns pc lv st0 ws :=
  x_callV d hl hm hM is hC hnd q0 he hc hst0 hst hk hnc hns (fun v wc' hp => by obtain ⟨rfl, rfl⟩ := hp; subst hws; exact ⟨hadr, h⟩)
theorem x_cVSi {idx k2 maxL2 : Nat} {y2 : MethodName} {cc2 : ByteArray} {ret2 : Option FieldType} {As st0 : List Value} {r : Int32} (d : xd cc pc (.invokevirtual idx) 3 pc') (hl : Cond.methodLink y.cls idx y2 ∈ TT) (hm : xMV y2 cc2 maxL2 ret2 As.length) (hy2 : y2.cls = "java/lang/String") (hM : Ct κ.2.1 g k2 0 0 y2 cc2 maxL2 ret2 (.ref (g.2.2 6) :: As) [] (xpi r [])) (hst0 : st0 = As.reverse ++ .ref (g.2.2 6) :: st) (hst : (st.map fun v => v.category).sum ≤ 8) (hk : k2 < k) (hnc : nc ≤ mc) (hns : ns ≤ ms) (h : Xs κ g k mc ms cc y ret Q nc ns pc' lv (.int r :: st) ws) : Xs κ g k mc ms cc y ret Q nc ns pc lv st0 ws :=
  x_callVS d hl hm hy2 hM hst0 hst hk hnc hns (fun v wc' hp => by obtain ⟨rfl, rfl⟩ := hp; exact ⟨rfl, h⟩)
theorem x_cSi {idx k2 maxL2 : Nat} {y2 : MethodName} {cc2 : ByteArray} {ret2 : Option FieldType} {As st0 : List Value} {r : Int32} (d : xd cc pc (.invokestatic idx) 3 pc') (hl : Cond.methodLink y.cls idx y2 ∈ TT) (hm : xMS y2 cc2 maxL2 ret2 As.length) (hM : Ct κ.2.1 g k2 0 0 y2 cc2 maxL2 ret2 As [] (xpi r [])) (hst0 : st0 = As.reverse ++ st) (hst : (st.map fun v => v.category).sum ≤ 8) (hk : k2 < k) (hnc : nc ≤ mc) (hns : ns ≤ ms) (h : Xs κ g k mc ms cc y ret Q nc ns pc' lv (.int r :: st) ws) : Xs κ g k mc ms cc y ret Q nc ns pc lv st0 ws :=
  x_callS d hl hm hM [] rfl rfl hst0 hst hk hnc hns (fun v wc' hp => by obtain ⟨rfl, rfl⟩ := hp; exact ⟨rfl, h⟩)
theorem x_cSl {idx k2 maxL2 : Nat} {y2 : MethodName} {cc2 : ByteArray} {ret2 : Option FieldType} {As st0 : List Value} {r : Int64} (d : xd cc pc (.invokestatic idx) 3 pc') (hl : Cond.methodLink y.cls idx y2 ∈ TT) (hm : xMS y2 cc2 maxL2 ret2 As.length) (hM : Ct κ.2.1 g k2 0 0 y2 cc2 maxL2 ret2 As [] (xpl r [])) (hst0 : st0 = As.reverse ++ st) (hst : (st.map fun v => v.category).sum ≤ 8) (hk : k2 < k) (hnc : nc ≤ mc) (hns : ns ≤ ms) (h : Xs κ g k mc ms cc y ret Q nc ns pc' lv (.long r :: st) ws) : Xs κ g k mc ms cc y ret Q nc ns pc lv st0 ws :=
  x_callS d hl hm hM [] rfl rfl hst0 hst hk hnc hns (fun v wc' hp => by obtain ⟨rfl, rfl⟩ := hp; exact ⟨rfl, h⟩)
theorem x_cSw {idx k2 maxL2 : Nat} {y2 : MethodName} {cc2 : ByteArray} {ret2 : Option FieldType} {As st0 : List Value} {wc w : va_W} (d : xd cc pc (.invokestatic idx) 3 pc') (hl : Cond.methodLink y.cls idx y2 ∈ TT) (hm : xMS y2 cc2 maxL2 ret2 As.length) (hM : Ct κ.2.1 g k2 0 0 y2 cc2 maxL2 ret2 As wc (xpv w)) (is : List Nat) (hC : is.map (fun i => ws[i]?) = wc.map some) (hnd : va_nd is = true) (hst0 : st0 = As.reverse ++ st) (hst : (st.map fun v => v.category).sum ≤ 8) (hk : k2 < k) (hnc : nc ≤ mc) (hns : ns ≤ ms) (hadr : w.map Prod.fst = wc.map Prod.fst) (hws : xSet ws is w = ws') (h : Xs κ g k mc ms cc y ret Q nc ns pc' lv st ws') : Xs κ g k mc ms cc y ret Q nc ns pc lv st0 ws :=
  x_callS d hl hm hM is hC hnd hst0 hst hk hnc hns (fun v wc' hp => by obtain ⟨rfl, rfl⟩ := hp; subst hws; exact ⟨hadr, h⟩)
theorem x_cSNi {idx k2 maxL2 : Nat} {y2 : MethodName} {cc2 : ByteArray} {ret2 : Option FieldType} {As st0 : List Value} {r : Int32} (d : xd cc pc (.invokestatic idx) 3 pc') (hl : ∀ {U : State}, xNw U → va_Nw (.methodLinkNest y.cls idx y2 "SlipWeeks") U) (hm : xMS y2 cc2 maxL2 ret2 As.length) (hM : Ct κ.2.1 g k2 0 0 y2 cc2 maxL2 ret2 As [] (xpi r [])) (hst0 : st0 = As.reverse ++ st) (hst : (st.map fun v => v.category).sum ≤ 8) (hk : k2 < k) (hnc : nc ≤ mc) (hns : ns ≤ ms) (h : Xs κ g k mc ms cc y ret Q nc ns pc' lv (.int r :: st) ws) : Xs κ g k mc ms cc y ret Q nc ns pc lv st0 ws :=
  x_callSN d hl hm hM [] rfl rfl hst0 hst hk hnc hns (fun v wc' hp => by obtain ⟨rfl, rfl⟩ := hp; exact ⟨rfl, h⟩)
/-! Math, arraycopy, Object.<init>, new -/
theorem x_mmax {a b : Int32} {idx : Nat} (d : xd cc pc (.invokestatic idx) 3 pc') (hl : Cond.methodLink y.cls idx Lib.Math.max.name ∈ TT) (hst : (st.map fun v => v.category).sum ≤ 8) (hk : 1 ≤ k) (hnc : nc ≤ mc) (hns : ns ≤ ms) (h : Xs κ g k mc ms cc y ret Q nc ns pc' lv (.int (if a < b then b else a) :: st) ws) : Xs κ g k mc ms cc y ret Q nc ns pc lv (.int b :: .int a :: st) ws := by
  intro F H locs ls hW hL
  obtain ⟨d1, rfl⟩ := d
  exact va_mmax F.1 F.2.1 hL.1.symm F.2.2.1 (F.2.2.2.1 _ hl) (F.2.2.2.1 _ sm_Lib_Math_max_name) (F.2.2.2.1 _ ini_J9) (F.2.2.2.1 _ cd_Lib_Math_max_name) hk (by simp only [rmX]; omega) hnc hns d1 (h F H locs ls hW hL)
theorem x_mmin {a b : Int32} {idx : Nat} (d : xd cc pc (.invokestatic idx) 3 pc') (hl : Cond.methodLink y.cls idx Lib.Math.min.name ∈ TT) (hst : (st.map fun v => v.category).sum ≤ 8) (hk : 1 ≤ k) (hnc : nc ≤ mc) (hns : ns ≤ ms) (h : Xs κ g k mc ms cc y ret Q nc ns pc' lv (.int (if b < a then b else a) :: st) ws) : Xs κ g k mc ms cc y ret Q nc ns pc lv (.int b :: .int a :: st) ws := by
  intro F H locs ls hW hL
  obtain ⟨d1, rfl⟩ := d
  exact va_mmin F.1 F.2.1 hL.1.symm F.2.2.1 (F.2.2.2.1 _ hl) (F.2.2.2.1 _ sm_Lib_Math_min_name) (F.2.2.2.1 _ ini_J9) (F.2.2.2.1 _ cd_Lib_Math_min_name) hk (by simp only [rmX]; omega) hnc hns d1 (h F H locs ls hW hL)
theorem x_mmaxl {a b : Int64} {idx : Nat} (d : xd cc pc (.invokestatic idx) 3 pc') (hl : Cond.methodLink y.cls idx Lib.MathLoose.max_long.x ∈ TT) (hst : (st.map fun v => v.category).sum ≤ 8) (hk : 1 ≤ k) (hnc : nc ≤ mc) (hns : ns ≤ ms) (h : Xs κ g k mc ms cc y ret Q nc ns pc' lv (.long (if b < a then a else b) :: st) ws) : Xs κ g k mc ms cc y ret Q nc ns pc lv (.long b :: .long a :: st) ws := by
  intro F H locs ls hW hL
  obtain ⟨d1, rfl⟩ := d
  exact va_mmax_long F.1 F.2.1 hL.1.symm F.2.2.1 (F.2.2.2.1 _ hl) (F.2.2.2.1 _ sm_Lib_MathLoose_max_long_x) (F.2.2.2.1 _ ini_J9) (F.2.2.2.1 _ cd_Lib_MathLoose_max_long_x) hk (by simp only [rmX]; omega) hnc hns d1 (h F H locs ls hW hL)
theorem x_mminl {a b : Int64} {idx : Nat} (d : xd cc pc (.invokestatic idx) 3 pc') (hl : Cond.methodLink y.cls idx Lib.MathLoose.min_long.x ∈ TT) (hst : (st.map fun v => v.category).sum ≤ 8) (hk : 1 ≤ k) (hnc : nc ≤ mc) (hns : ns ≤ ms) (h : Xs κ g k mc ms cc y ret Q nc ns pc' lv (.long (if b < a then b else a) :: st) ws) : Xs κ g k mc ms cc y ret Q nc ns pc lv (.long b :: .long a :: st) ws := by
  intro F H locs ls hW hL
  obtain ⟨d1, rfl⟩ := d
  exact va_mmin_long F.1 F.2.1 hL.1.symm F.2.2.1 (F.2.2.2.1 _ hl) (F.2.2.2.1 _ sm_Lib_MathLoose_min_long_x) (F.2.2.2.1 _ ini_J9) (F.2.2.2.1 _ cd_Lib_MathLoose_min_long_x) hk (by simp only [rmX]; omega) hnc hns d1 (h F H locs ls hW hL)
theorem x_copyi {idx a0 a n0 n1 sp dp n ti : Nat} {c0 c1 : ClassId} {f f2 : Nat → Int32} {ty : FieldType} {xn xd0 xs : Int32} (d : xd cc pc (.invokestatic idx) 3 pc') (hl : Cond.methodLink y.cls idx arraycopyName ∈ TT) (q0 q1 : Nat) (ha0 : ws[q0]? = some (a0, .inl (c0, n0, .inl f))) (ha1 : ws[q1]? = some (a, .inl (c1, n1, .inl f2))) (ht0 : (xTy g)[ti]? = some (c0, ty)) (ht1 : (xTy g)[ti]? = some (c1, ty)) (hprim : refKind ty = false) (e1 : xs = nI sp) (e2 : xd0 = nI dp) (e3 : xn = nI n) (h4 : sp + n ≤ n0) (h5 : dp + n ≤ n1) (hb : n0 < 2 ^ 31 ∧ n1 < 2 ^ 31) (hfit : ∀ i, i < n → fits ty (.int (f (sp + i))) = true) (hst : (st.map fun v => v.category).sum ≤ 8) (hk : 1 ≤ k) (hws : ws.set q1 (a, .inl (c1, n1, .inl (va_cpy f f2 sp dp n))) = ws')
    (h : Xs κ g k mc ms cc y ret Q nc ns pc' lv st ws') : Xs κ g k mc ms cc y ret Q nc ns pc lv (.int xn :: .int xd0 :: .ref a :: .int xs :: .ref a0 :: st) ws := by
  intro F H locs ls hW hL
  obtain ⟨d1, rfl⟩ := d
  subst e1; subst e2; subst e3; subst hws
  have c1' : (nI sp).toNatClampNeg = sp := nI_clamp (by omega)
  have c2' : (nI dp).toNatClampNeg = dp := nI_clamp (by omega)
  have c3' : (nI n).toNatClampNeg = n := nI_clamp (by omega)
  refine va_copyi F.1 F.2.1 hL.1.symm F.2.2.1 (F.2.2.2.1 _ hl) (F.2.2.2.1 _ nat_arraycopyName) (F.2.2.2.1 _ sm_arraycopyName) (F.2.2.2.1 _ ini_J10) F.2.2.2.2.1 hW.1 hW.2.1 hW.2.2 q0 q1 ti ti ha0 ha1 ht0 ht1 hprim (nI_pos (by omega)) (nI_pos (by omega)) (nI_pos (by omega)) (by rw [c1', c3']; exact h4) (by rw [c2', c3']; exact h5) (by rw [c1', c3']; exact hfit) hk (by simp only [rmX, nativeFrameWords]; simp; omega) d1 ?_
  rw [c1', c2', c3']
  exact fun H1 locs1 hP hD hS => h F H1 locs1 ls ⟨hP, hD, hS⟩ hL
theorem x_copyl {idx a0 a n0 n1 sp dp n ti : Nat} {c0 c1 : ClassId} {f f2 : Nat → Int64} {ty : FieldType} {xn xd0 xs : Int32} (d : xd cc pc (.invokestatic idx) 3 pc') (hl : Cond.methodLink y.cls idx arraycopyName ∈ TT) (q0 q1 : Nat) (ha0 : ws[q0]? = some (a0, .inl (c0, n0, .inr (.inl f)))) (ha1 : ws[q1]? = some (a, .inl (c1, n1, .inr (.inl f2)))) (ht0 : (xTy g)[ti]? = some (c0, ty)) (ht1 : (xTy g)[ti]? = some (c1, ty)) (hprim : refKind ty = false) (e1 : xs = nI sp) (e2 : xd0 = nI dp) (e3 : xn = nI n) (h4 : sp + n ≤ n0) (h5 : dp + n ≤ n1) (hb : n0 < 2 ^ 31 ∧ n1 < 2 ^ 31) (hfit : ∀ i, i < n → fits ty (.long (f (sp + i))) = true) (hst : (st.map fun v => v.category).sum ≤ 8) (hk : 1 ≤ k) (hws : ws.set q1 (a, .inl (c1, n1, .inr (.inl (va_cpy f f2 sp dp n)))) = ws')
    (h : Xs κ g k mc ms cc y ret Q nc ns pc' lv st ws') : Xs κ g k mc ms cc y ret Q nc ns pc lv (.int xn :: .int xd0 :: .ref a :: .int xs :: .ref a0 :: st) ws := by
  intro F H locs ls hW hL
  obtain ⟨d1, rfl⟩ := d
  subst e1; subst e2; subst e3; subst hws
  have c1' : (nI sp).toNatClampNeg = sp := nI_clamp (by omega)
  have c2' : (nI dp).toNatClampNeg = dp := nI_clamp (by omega)
  have c3' : (nI n).toNatClampNeg = n := nI_clamp (by omega)
  refine va_copyl F.1 F.2.1 hL.1.symm F.2.2.1 (F.2.2.2.1 _ hl) (F.2.2.2.1 _ nat_arraycopyName) (F.2.2.2.1 _ sm_arraycopyName) (F.2.2.2.1 _ ini_J10) F.2.2.2.2.1 hW.1 hW.2.1 hW.2.2 q0 q1 ti ti ha0 ha1 ht0 ht1 hprim (nI_pos (by omega)) (nI_pos (by omega)) (nI_pos (by omega)) (by rw [c1', c3']; exact h4) (by rw [c2', c3']; exact h5) (by rw [c1', c3']; exact hfit) hk (by simp only [rmX, nativeFrameWords]; simp; omega) d1 ?_
  rw [c1', c2', c3']
  exact fun H1 locs1 hP hD hS => h F H1 locs1 ls ⟨hP, hD, hS⟩ hL
theorem x_objInit {idx a : Nat} (d : xd cc pc (.invokespecial idx) 3 pc') (hl : Cond.methodLink y.cls idx objectInit ∈ TT) (hst : (st.map fun v => v.category).sum ≤ 8) (hk : 1 ≤ k) (h : Xs κ g k mc ms cc y ret Q nc ns pc' lv st ws) : Xs κ g k mc ms cc y ret Q nc ns pc lv (.ref a :: st) ws := by
  intro F H locs ls hW hL
  obtain ⟨d1, rfl⟩ := d
  exact W.objInit F.1 F.2.1 F.2.2.1 (F.2.2.2.1 _ hl) (F.2.2.2.1 _ im_objectInit) (F.2.2.2.1 _ cd_objectInit) rfl hL.1 rfl d1 hk (by have := lv_room (m := km κ) (pc := pc) (ls := ls) (rest := .ref a :: st) hst; simp only [rmX]; omega) (h F H locs ls hW hL)
theorem x_new {idx N ci : Nat} {C : String} {T : u_T} {ty : Nat → FieldType} {fs : List Value} (d : xd cc pc (.new idx) 3 pc') (hin : ∀ w ∈ u_ws C T N, w ∈ TT) (hty : ∀ k, k < N → parseFieldDescriptor (T k).2.2.1 = some (ty k)) (hcl : Cond.classLink y.cls idx C ∈ TT) (hinst : Cond.instantiable C N ∈ TT) (hini : Cond.initialized C ∈ TT) (hc : vwCl[ci]? = some (C, T, N)) (hfs : ∀ j, j < N → defaultValue (ty j) = vp_V fs j) (hnc : nc + 1 ≤ mc) (hns : ns + N ≤ ms)
    (h : ∀ q : Nat, Xs κ g k mc ms cc y ret Q (nc + 1) (ns + N) pc' lv (.ref q :: st) (ws ++ [(q, .inr (ci, fs))])) : Xs κ g k mc ms cc y ret Q nc ns pc lv st ws := by
  intro F H locs ls hW hL
  obtain ⟨d1, rfl⟩ := d
  exact va_new F.1 F.2.1 F.2.2.2.1 hin ty hty F.2.2.1 (F.2.2.2.1 _ hcl) (F.2.2.2.1 _ hinst) (F.2.2.2.1 _ hini) F.2.2.2.2.1 hW.1 hW.2.1 hW.2.2 F.2.2.2.2.2.2.1 hc hfs hnc hns d1 (fun q H1 hP hD hS => h q F H1 locs ls ⟨hP, hD, hS⟩ hL)
theorem x_newa {atype : ArrayType} {ty : FieldType} {n : Int32} {N' : Nat} {a0 : vp_A} (d : xd cc pc (.newarray atype) 2 pc') (ti : Nat) (harr : Cond.arrayClass ty ∈ TT) (hty : newarray.typeOf atype = ty) (hti : (xTy g)[ti]? = some (g.2.1 ti, ty)) (hprim : ∀ (U : State) (c : ClassId), va_RA U c ty = (U.vm.findClass ("[" ++ ty.toString) = some c)) (ha : ∀ cA : ClassId, vp_cell cA a0 = arrV cA N' (fun _ => defaultValue ty)) (hn : ¬ n < 0) (hN : n.toNatClampNeg = N') (hbytes : N' * componentBytes ty ≤ 536870912) (hnc : nc + 1 ≤ mc) (hns : ns + N' ≤ ms)
    (h : ∀ q : Nat, Xs κ g k mc ms cc y ret Q (nc + 1) (ns + N') pc' lv (.ref q :: st) (ws ++ [(q, .inl (g.2.1 ti, a0))])) : Xs κ g k mc ms cc y ret Q nc ns pc lv (.int n :: st) ws := by
  intro F H locs ls hW hL
  obtain ⟨d1, rfl⟩ := d
  refine va_newa F.1 F.2.1 (atype := atype) (by rw [hty]; exact F.2.2.2.1 _ harr) hty F.2.2.2.2.1 hW.1 hW.2.1 hW.2.2 F.2.2.2.2.2.2.1 ha hn hN hbytes hnc hns d1 ?_
  intro q cA H1 hK hP hD hS
  have h1 := (F.2.2.2.2.1.2 ti _ hti).2
  have h2 := (hK.2 5 (cA, ty) rfl).2
  rw [hprim] at h1 h2
  have hcA : cA = g.2.1 ti := Option.some.inj (h2.symm.trans h1)
  subst hcA
  exact h q F H1 locs ls ⟨hP, hD, hS⟩ hL
theorem x_newq {idx : Nat} {n : Int32} {N' : Nat} (d : xd cc pc (.anewarray idx) 3 pc') (hcl : Cond.classLink y.cls idx "SlipWeeks$Sheet" ∈ TT) (hn : ¬ n < 0) (hN : n.toNatClampNeg = N') (hbytes : N' * 4 ≤ 536870912) (hnc : nc + 1 ≤ mc) (hns : ns + N' ≤ ms)
    (h : ∀ q : Nat, Xs κ g k mc ms cc y ret Q (nc + 1) (ns + N') pc' lv (.ref q :: st) (ws ++ [(q, .inl (g.2.1 4, N', .inr (.inr (.inr (.inr (fun _ => none))))))])) : Xs κ g k mc ms cc y ret Q nc ns pc lv (.int n :: st) ws := by
  intro F H locs ls hW hL
  obtain ⟨d1, rfl⟩ := d
  refine va_newq F.1 F.2.1 F.2.2.1 (F.2.2.2.1 _ hcl) F.2.2.2.2.2.1.2.2.2.2.2.2.1.2.2.2.2.2.2.2 F.2.2.2.2.1 hW.1 hW.2.1 hW.2.2 F.2.2.2.2.2.2.1 hn hN hbytes hnc hns d1 ?_
  intro q cA H1 hK hP hD hS
  obtain ⟨kA, comp, a1, a2, a3, h1⟩ := (F.2.2.2.2.1.2 4 _ rfl).2
  obtain ⟨kA', comp', b1, b2, b3, h2⟩ := (hK.2 5 (cA, .object "SlipWeeks$Sheet") rfl).2
  have hcA : cA = g.2.1 4 := Option.some.inj (h2.symm.trans h1)
  subst hcA
  exact h q F H1 locs ls ⟨hP, hD, hS⟩ hL
theorem x_qast {a n v ci : Nat} {f : Nat → Option Nat} {i : Int32} {T : u_T} {N : Nat} {vs : List Value} (d : xd cc pc .aastore 1 pc') (q0 qk j : Nat) (ha : ws[q0]? = some (a, .inl (g.2.1 4, n, .inr (.inr (.inr (.inr f)))))) (hv : ws[qk]? = some (v, .inr (ci, vs))) (hc : vwCl[ci]? = some ("SlipWeeks$Sheet", T, N)) (hi : i = nI j) (hj : j < n) (hn : n < 2 ^ 31) (hws : ws.set q0 (a, .inl (g.2.1 4, n, .inr (.inr (.inr (.inr (va_up f j (some v))))))) = ws') (h : Xs κ g k mc ms cc y ret Q nc ns pc' lv st ws') : Xs κ g k mc ms cc y ret Q nc ns pc lv (.ref v :: .int i :: .ref a :: st) ws := by
  intro F H locs ls hW hL
  obtain ⟨d1, rfl⟩ := d
  subst hi
  subst hws
  have e : (nI j).toNatClampNeg = j := nI_clamp (Nat.lt_trans hj hn)
  refine va_astq F.1 F.2.1 F.2.2.2.2.1 hW.1 hW.2.1 hW.2.2 q0 4 qk ci ha rfl hv hc (vp_in_nI hj hn) d1 ?_
  rw [e]
  exact fun H1 locs1 hP hD hS => h F H1 locs1 ls ⟨hP, hD, hS⟩ hL
/-! induction from the end: for a loop that counts up -/
theorem upTo {P : Nat → Prop} (N : Nat) (h : ∀ i, i ≤ N → (i < N → P (i + 1)) → P i) : ∀ i, i ≤ N → P i := by
  intro i hi
  obtain ⟨n, hn⟩ : ∃ n, n = N - i := ⟨_, rfl⟩
  induction n generalizing i with
  | zero => exact h i hi (fun c => absurd c (by omega))
  | succ n ih => exact h i hi (fun c => ih (i + 1) c (by omega))
theorem xSet_self (is : List Nat) : ∀ (wc ws : va_W), is.map (fun i => ws[i]?) = wc.map some → xSet ws is wc = ws := by
  induction is with
  | nil => intro wc ws h; cases wc <;> rfl
  | cons i is ih =>
    intro wc ws h
    cases wc with
    | nil => rfl
    | cons q qs =>
      simp only [List.map_cons, List.cons.injEq] at h
      have e : ws.set i q = ws := by
        obtain ⟨hlt, he⟩ := List.getElem?_eq_some_iff.mp h.1
        rw [← he]; exact List.set_getElem_self hlt
      simp only [xSet, e]
      exact ih qs ws h.2
theorem x_reS {x v : Int32} (e : x = v) (h : Xs κ g k mc ms cc y ret Q nc ns pc lv (.int v :: st) ws) : Xs κ g k mc ms cc y ret Q nc ns pc lv (.int x :: st) ws := e ▸ h
theorem xtne {x v : Int32} {z : Int} (h : ¬ x = v) (e : z = v.toInt) : x.toInt ≠ z := fun q => h (Int32.toInt_inj.mp (q.trans e))
theorem x_tabD {dflt lo hi : Int} {offs : Array Int} {len : Nat} {x : Int32} (tgt : Nat) (d : decode cc pc = .ok (.tableswitch dflt lo hi offs, len)) (hhi : hi + 1 = lo + offs.size) (hall : ∀ t : Nat, t < offs.size → offs[t]? = some dflt ∨ x.toInt ≠ lo + t) (ht : (pc : Int) + dflt = (tgt : Int)) (h : Xs κ g k mc ms cc y ret Q nc ns tgt lv st ws) : Xs κ g k mc ms cc y ret Q nc ns pc lv (.int x :: st) ws := by
  by_cases h1 : x.toInt < lo
  · exact x_tabOut tgt d (Or.inl h1) ht h
  by_cases h2 : hi < x.toInt
  · exact x_tabOut tgt d (Or.inr h2) ht h
  rcases hall (x.toInt - lo).toNat (by omega) with h3 | h3
  · exact x_tabIn tgt d h1 h2 h3 ht h
  · exact absurd (by omega) h3
theorem x_cVi0 {idx k2 maxL2 N ci b : Nat} {T : u_T} {y2 : MethodName} {cc2 : ByteArray} {ret2 : Option FieldType} {As st0 : List Value} {wc : va_W} {fs : List Value} {r : Int32} (d : xd cc pc (.invokevirtual idx) 3 pc') (hl : Cond.methodLink y.cls idx y2 ∈ TT) (hm : xMV y2 cc2 maxL2 ret2 As.length) (hM : Ct κ.2.1 g k2 0 0 y2 cc2 maxL2 ret2 (.ref b :: As) wc (xpi r wc)) (is : List Nat) (hC : is.map (fun i => ws[i]?) = wc.map some) (hnd : va_nd is = true) (q0 : Nat) (he : ws[q0]? = some (b, .inr (ci, fs))) (hc : vwCl[ci]? = some (y2.cls, T, N)) (hst0 : st0 = As.reverse ++ .ref b :: st) (hst : (st.map fun v => v.category).sum ≤ 8) (hk : k2 < k) (hnc : nc ≤ mc) (hns : ns ≤ ms) (h : Xs κ g k mc ms cc y ret Q nc ns pc' lv (.int r :: st) ws) : Xs κ g k mc ms cc y ret Q nc ns pc lv st0 ws :=
  x_callV d hl hm hM is hC hnd q0 he hc hst0 hst hk hnc hns (fun v wc' hp => by obtain ⟨rfl, rfl⟩ := hp; rw [xSet_self is _ ws hC]; exact ⟨rfl, h⟩)
theorem x_cVl0 {idx k2 maxL2 N ci b : Nat} {T : u_T} {y2 : MethodName} {cc2 : ByteArray} {ret2 : Option FieldType} {As st0 : List Value} {wc : va_W} {fs : List Value} {r : Int64} (d : xd cc pc (.invokevirtual idx) 3 pc') (hl : Cond.methodLink y.cls idx y2 ∈ TT) (hm : xMV y2 cc2 maxL2 ret2 As.length) (hM : Ct κ.2.1 g k2 0 0 y2 cc2 maxL2 ret2 (.ref b :: As) wc (xpl r wc)) (is : List Nat) (hC : is.map (fun i => ws[i]?) = wc.map some) (hnd : va_nd is = true) (q0 : Nat) (he : ws[q0]? = some (b, .inr (ci, fs))) (hc : vwCl[ci]? = some (y2.cls, T, N)) (hst0 : st0 = As.reverse ++ .ref b :: st) (hst : (st.map fun v => v.category).sum ≤ 8) (hk : k2 < k) (hnc : nc ≤ mc) (hns : ns ≤ ms) (h : Xs κ g k mc ms cc y ret Q nc ns pc' lv (.long r :: st) ws) : Xs κ g k mc ms cc y ret Q nc ns pc lv st0 ws :=
  x_callV d hl hm hM is hC hnd q0 he hc hst0 hst hk hnc hns (fun v wc' hp => by obtain ⟨rfl, rfl⟩ := hp; rw [xSet_self is _ ws hC]; exact ⟨rfl, h⟩)
theorem x_cVv0 {idx k2 maxL2 N ci b : Nat} {T : u_T} {y2 : MethodName} {cc2 : ByteArray} {ret2 : Option FieldType} {As st0 : List Value} {wc : va_W} {fs : List Value} (d : xd cc pc (.invokevirtual idx) 3 pc') (hl : Cond.methodLink y.cls idx y2 ∈ TT) (hm : xMV y2 cc2 maxL2 ret2 As.length) (hM : Ct κ.2.1 g k2 0 0 y2 cc2 maxL2 ret2 (.ref b :: As) wc (xpv wc)) (is : List Nat) (hC : is.map (fun i => ws[i]?) = wc.map some) (hnd : va_nd is = true) (q0 : Nat) (he : ws[q0]? = some (b, .inr (ci, fs))) (hc : vwCl[ci]? = some (y2.cls, T, N)) (hst0 : st0 = As.reverse ++ .ref b :: st) (hst : (st.map fun v => v.category).sum ≤ 8) (hk : k2 < k) (hnc : nc ≤ mc) (hns : ns ≤ ms) (h : Xs κ g k mc ms cc y ret Q nc ns pc' lv st ws) : Xs κ g k mc ms cc y ret Q nc ns pc lv st0 ws :=
  x_callV d hl hm hM is hC hnd q0 he hc hst0 hst hk hnc hns (fun v wc' hp => by obtain ⟨rfl, rfl⟩ := hp; rw [xSet_self is _ ws hC]; exact ⟨rfl, h⟩)
theorem arrV_cong {cI : ClassId} {n : Nat} {f f' : Nat → Value} (h : ∀ j, j < n → f j = f' j) : arrV cI n f = arrV cI n f' := by
  unfold arrV
  congr 1
  congr 1
  funext j
  exact h j.val j.isLt
theorem x_funi {a n q0 : Nat} {c0 : ClassId} {f f' : Nat → Int32} (ha : ws[q0]? = some (a, .inl (c0, n, .inl f))) (he : ∀ j, j < n → f j = f' j) (hws : ws.set q0 (a, .inl (c0, n, .inl f')) = ws') (h : Xs κ g k mc ms cc y ret Q nc ns pc lv st ws') : Xs κ g k mc ms cc y ret Q nc ns pc lv st ws := by
  intro F H locs ls hW hL
  subst hws
  refine h F H locs ls ⟨hW.1.set hW.2.1 ha ?_ (fun _ _ => rfl), hW.2.1.set ha, hW.2.2⟩ hL
  have h1 := hW.1 q0 _ ha
  show H[a]? = some (vp_cell c0 (n, .inl f'))
  rw [vp_cell_i, ← arrV_cong (f := fun j => .int (f j)) (fun j hj => by rw [he j hj])]
  exact h1
theorem x_funl {a n q0 : Nat} {c0 : ClassId} {f f' : Nat → Int64} (ha : ws[q0]? = some (a, .inl (c0, n, .inr (.inl f)))) (he : ∀ j, j < n → f j = f' j) (hws : ws.set q0 (a, .inl (c0, n, .inr (.inl f'))) = ws') (h : Xs κ g k mc ms cc y ret Q nc ns pc lv st ws') : Xs κ g k mc ms cc y ret Q nc ns pc lv st ws := by
  intro F H locs ls hW hL
  subst hws
  refine h F H locs ls ⟨hW.1.set hW.2.1 ha ?_ (fun _ _ => rfl), hW.2.1.set ha, hW.2.2⟩ hL
  have h1 := hW.1 q0 _ ha
  show H[a]? = some (vp_cell c0 (n, .inr (.inl f')))
  rw [vp_cell_l, ← arrV_cong (f := fun j => .long (f j)) (fun j hj => by rw [he j hj])]
  exact h1
def xfg : List (Option Value) → List (Option Value) → Prop
  | [], [] => True
  | a :: l, b :: l' => (b = none ∨ a = b) ∧ xfg l l'
  | _, _ => False
theorem xfg_get : ∀ (l l' : List (Option Value)), xfg l l' → l.length = l'.length ∧ ∀ (i : Nat) (v : Value), l'[i]? = some (some v) → l[i]? = some (some v)
  | [], [], _ => ⟨rfl, fun i v h => by simp at h⟩
  | a :: l, b :: l', h => by
    obtain ⟨h1, h2⟩ := xfg_get l l' h.2
    refine ⟨by simp [h1], fun i v hv => ?_⟩
    cases i with
    | zero =>
      simp only [List.getElem?_cons_zero, Option.some.injEq] at hv ⊢
      rcases h.1 with e | e
      · rw [e] at hv; cases hv
      · rw [e]; exact hv
    | succ i => simp only [List.getElem?_cons_succ] at hv ⊢; exact h2 i v hv
  | [], _ :: _, h => h.elim
  | _ :: _, [], h => h.elim
theorem x_fgt (hf : xfg lv lv') (h : Xs κ g k mc ms cc y ret Q nc ns pc lv' st ws) : Xs κ g k mc ms cc y ret Q nc ns pc lv st ws := by
  intro F H locs ls hW hL
  obtain ⟨h1, h2⟩ := xfg_get lv lv' hf
  exact h F H locs ls hW ⟨hL.1, h1.symm.trans hL.2.1, hL.2.2.1, fun i v hv => hL.2.2.2 i v (h2 i v hv)⟩

end XR
