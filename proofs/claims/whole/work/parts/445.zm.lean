section XZ
variable {κ : Kx} {g : XG} {k mc ms : Nat} {cc : ByteArray} {y : MethodName} {ret : Option FieldType} {Q : State → Prop} {nc ns pc pc' : Nat} {lv : List (Option Value)} {st : List Value} {ws ws' : va_W}
set_option maxHeartbeats 1000000 in
/-- System.arraycopy out of a static row of ints, all of it, to the front of a row of the world -/
theorem x_copyT {nm : String} {t N idx a n1 : Nat} {f f2 : Nat → Int32} (d : xd cc pc (.invokestatic idx) 3 pc') (hl : Cond.methodLink y.cls idx arraycopyName ∈ TT) (hz : ∀ {A : Nat → Prop} {U : State} {H : Heap}, xSF g A U H → xSA nm t N f A U H) (q1 : Nat) (ha1 : ws[q1]? = some (a, .inl (g.2.1 0, n1, .inl f2))) (hN : N ≤ n1) (hb : n1 < 2 ^ 31) (hst : (st.map fun v => v.category).sum ≤ 8) (hk : 1 ≤ k) (hws : ws.set q1 (a, .inl (g.2.1 0, n1, .inl (va_cpy f f2 0 0 N))) = ws')
    (h : Xs κ g k mc ms cc y ret Q nc ns pc' lv st ws') : Xs κ g k mc ms cc y ret Q nc ns pc lv (.int (nI N) :: .int 0 :: .ref a :: .int 0 :: .ref t :: st) ws := by
  intro F H locs ls hW hL
  obtain ⟨d1, rfl⟩ := d
  subst hws
  intro T hT X
  obtain ⟨scr, s1, s2, s3, s4, -, s5, s7⟩ := (hz F.2.2.2.2.2.1).2
  have c0 : H[t]? = some scr := by rw [hW.2.2.2.1 t (Array.getElem?_eq_some_iff.mp s1).1 s7]; exact s1
  have c1 : H[a]? = some (vp_cell (g.2.1 0) (n1, .inl f2)) := hW.1 q1 _ ha1
  obtain ⟨s6, k0, hk0, cm0, hkk0⟩ := s2
  obtain ⟨-, k1, hk1, cm1, hkk1⟩ := (F.2.2.2.2.1.2 0 _ rfl).1 n1 (fun j => .int (f2 j))
  have z0 : ¬ (0 : Int32) < 0 := by decide
  have zN : ¬ nI N < 0 := nI_pos (by omega)
  have iN : (nI N).toInt = (N : Int) := nI_toInt (by omega)
  have cN : (nI N).toNatClampNeg = N := nI_clamp (by omega)
  have cz : (0 : Int32).toNatClampNeg = 0 := rfl
  have iz : (0 : Int32).toInt = 0 := rfl
  obtain ⟨vm', X', step⟩ := X.arraycopy F.1 F.2.2.1 (F.2.2.2.1 _ hl) (F.2.2.2.1 _ nat_arraycopyName) (F.2.2.2.1 _ sm_arraycopyName) (F.2.2.2.1 _ ini_J10) (src := t) (dst := a) (cs := scr) (cd := vp_cell (g.2.1 0) (n1, .inl f2)) (srcPos := 0) (destPos := 0) (n := nI N) (by rw [hT]; exact c0) (by rw [hT]; exact c1)
    s6 (fun _ h => by cases h) s3 (fun h => by cases h) hk0 hk1 hkk0 hkk1 (by simp [refKind]) z0 z0 zN
    (by rw [iN, iz]; omega) (by rw [iN, iz]; show ¬ _ > ((arrV (g.2.1 0) n1 (fun j => .int (f2 j))).slots.size : Int); rw [arrV_size]; omega)
    (fun vm₁ _ i hi => by
      rw [cN] at hi
      have e : scr.slots.getD ((0 : Int32).toNatClampNeg + i) .null = .int (f i) := by
        rw [cz, Nat.zero_add, Array.getD_eq_getD_getElem?, s5 _ hi]; rfl
      exact ⟨by rw [e]; rfl, by rw [e]; exact trivial⟩)
    (g := F0 (km κ) pc ls (.int (nI N) :: .int 0 :: .ref a :: .int 0 :: .ref t :: st)) rfl hL.1 (rest := st) rfl (by rw [F.2.1]; exact d1) hk (by simp only [rmX, nativeFrameWords]; simp; omega)
  have e1 : copied scr (vp_cell (g.2.1 0) (n1, .inl f2)) 0 0 (nI N) = vp_cell (g.2.1 0) (n1, .inl (va_cpy f f2 0 0 N)) := by
    have := va_copiedX (fun z => Value.int z) scr (g.2.1 0) (n0 := N) (n1 := n1) (sp := 0) (dp := 0) (n := N) f f2 s5 (by omega)
    unfold copied
    rw [cN, cz]
    exact this
  rw [e1] at X' step
  have hla : a < H.size := (Array.getElem?_eq_some_iff.mp c1).1
  have hh : ((T.setVm vm').setCell a (vp_cell (g.2.1 0) (n1, .inl (va_cpy f f2 0 0 N)))).heap = H.setIfInBounds a (vp_cell (g.2.1 0) (n1, .inl (va_cpy f f2 0 0 N))) := by rw [← hT]; rfl
  have oq : ∀ q : Nat, q ≠ a → (H.setIfInBounds a (vp_cell (g.2.1 0) (n1, .inl (va_cpy f f2 0 0 N))))[q]? = H[q]? := fun q hq => by simp [Array.getElem?_setIfInBounds, Ne.symm hq]
  have hin : kA κ a := hW.2.1.2 q1 _ ha1
  obtain ⟨t2, a1, b1⟩ := h F _ _ ls ⟨hW.1.set hW.2.1 ha1 (show (H.setIfInBounds a _)[a]? = some _ by simp [Array.getElem?_setIfInBounds, hla]) oq, hW.2.1.set ha1, ⟨by simp; exact hW.2.2.1, fun q g1 g2 => by
      rw [oq q (fun e => g2 (by rw [e]; exact hin))]
      exact hW.2.2.2.1 q g1 g2, fun q hq => by
      rcases List.mem_append.mp hq with h9 | h9
      · exact hW.2.2.2.2 q h9
      · obtain ⟨z, -, hz2⟩ := List.mem_map.mp h9
        rw [← hz2]
        exact hin⟩⟩ hL _ hh X'
  exact ⟨t2, step t2 a1, b1⟩
end XZ

def q4N (d : Nat) : Nat := ([0, 0, 0, 0, 1, 5, 15, 35, 70, 126, 210, 330, 495] : List Nat).getD d 0
def q3N (c : Nat) : Nat := ([0, 0, 0, 1, 4, 10, 20, 35, 56, 84, 120, 165] : List Nat).getD c 0
def q2N (b : Nat) : Nat := ([0, 0, 1, 3, 6, 10, 15, 21, 28, 36, 45, 55] : List Nat).getD b 0
def atN (d c b a : Nat) : Nat := q4N d + q3N c + q2N b + a
theorem at_A : (List.range 12).all (fun d => (List.range d).all (fun c => (List.range c).all (fun b => (List.range b).all (fun a => decide (atN d c b a < 495) && ((1 : Int32) <<< (nI a &&& 31) ||| (1 : Int32) <<< (nI b &&& 31) ||| (1 : Int32) <<< (nI c &&& 31) ||| (1 : Int32) <<< (nI d &&& 31) == nI (rowB (atN d c b a))) && (nI a ||| (nI b) <<< ((4 : Int32) &&& 31) ||| (nI c) <<< ((8 : Int32) &&& 31) ||| (nI d) <<< ((12 : Int32) &&& 31) == nI (packB (atN d c b a))))))) = true := by decide +kernel
theorem at_at {d c b a : Nat} (hd : d < 12) (hc : c < d) (hb : b < c) (ha : a < b) : atN d c b a < 495 ∧ (1 : Int32) <<< (nI a &&& 31) ||| (1 : Int32) <<< (nI b &&& 31) ||| (1 : Int32) <<< (nI c &&& 31) ||| (1 : Int32) <<< (nI d &&& 31) = nI (rowB (atN d c b a)) ∧ nI a ||| (nI b) <<< ((4 : Int32) &&& 31) ||| (nI c) <<< ((8 : Int32) &&& 31) ||| (nI d) <<< ((12 : Int32) &&& 31) = nI (packB (atN d c b a)) := by
  have h := List.all_eq_true.mp (List.all_eq_true.mp (List.all_eq_true.mp (List.all_eq_true.mp at_A d (List.mem_range.mpr hd)) c (List.mem_range.mpr hc)) b (List.mem_range.mpr hb)) a (List.mem_range.mpr ha)
  simp only [Bool.and_eq_true, decide_eq_true_eq, beq_iff_eq] at h
  exact ⟨h.1.1, h.1.2, h.2⟩
theorem at_b : ∀ b, b < 11 → q2N b + b = q2N (b + 1) := by decide
theorem at_c : ∀ c, c < 11 → q3N c + q2N c = q3N (c + 1) := by decide
theorem at_d : ∀ d, d < 12 → q4N d + q3N d = q4N (d + 1) := by decide
theorem at_bs {d c b : Nat} (h : b < 11) : atN d c b b = atN d c (b + 1) 0 := by
  have := at_b b h; unfold atN; omega
theorem at_cs {d c : Nat} (h : c < 11) : atN d c c 0 = atN d (c + 1) 1 0 := by
  have := at_c c h; have e : q2N 1 = 0 := rfl; unfold atN; omega
theorem at_ds {d : Nat} (h : d < 12) : atN d d 1 0 = atN (d + 1) 2 1 0 := by
  have := at_d d h; have e : q2N 1 = 0 := rfl; have e2 : q3N 2 = 0 := rfl; unfold atN; omega
