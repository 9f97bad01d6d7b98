/-! ===== a contract over some cells, over a larger world ===== -/
theorem xA_mono {ws wc : va_W} {is : List Nat} {sz : Nat} (hC : is.map (fun i => ws[i]?) = wc.map some) {q : Nat} (h : va_A wc sz q) : va_A ws sz q := by
  rcases h with ⟨t, e, h⟩ | h
  · obtain ⟨i, -, h5⟩ := xmap_at hC t _ h
    exact Or.inl ⟨i, e, h5⟩
  · exact Or.inr h
theorem Ct.sub {l : Launch} {g : XG} {k mc ms : Nat} {y : MethodName} {cc : ByteArray} {maxL : Nat} {ret : Option FieldType} {av : List Value} {ws wc : va_W} {post : Option Value → va_W → Prop} (is : List Nat) (hC : is.map (fun i => ws[i]?) = wc.map some) (hnd : va_nd is = true) (hadr : ∀ v w, post v w → w.map Prod.fst = wc.map Prod.fst)
    (h : Ct l g k mc ms y cc maxL ret av wc post) : Ct l g k mc ms y cc maxL ret av ws (fun v w => ∃ w', post v w' ∧ w = xSet ws is w') := by
  intro sz p e ha hc hk s m args below hf happ hP hK
  obtain ⟨q1, q2, qP, qK, qD, qS⟩ := hP
  have hP' : xPc g av wc sz args s := ⟨q1, q2, fun t q hq => by
      obtain ⟨i, -, h2⟩ := xmap_at hC t q hq
      exact qP i q h2, qK, qD.sub is hnd hC, qS.to (U := s) (State.WarmedH.refl s) (fun _ _ _ => rfl) (fun q hq => xA_mono hC hq)⟩
  obtain ⟨t, o, h1, h2, h3, ⟨⟨⟨v, w', e1, e2, e3, e3'⟩, hz, hkk⟩, L, f1, f2⟩⟩ := h sz p e ha hc hk s m args below hf happ hP' hK
  have had := hadr v w' e2
  have hlen : is.length = w'.length := by
    have h1 := congrArg List.length hC
    have h2 := congrArg List.length had
    simp only [List.length_map] at h1 h2
    omega
  have adr : ∀ (j : Nat) (q : Nat × va_E), (xSet ws is w')[j]? = some q → ∃ e, ws[j]? = some (q.1, e) := by
    intro j q hq
    rcases xSet_get is w' ws j q hlen hq with ⟨t1, g1, g2⟩ | ⟨g1, g2⟩
    · have g3 : (w'.map Prod.fst)[t1]? = some q.1 := by rw [List.getElem?_map, g2]; rfl
      rw [had, List.getElem?_map] at g3
      cases hw : wc[t1]? with
      | none => rw [hw] at g3; cases g3
      | some w =>
        rw [hw] at g3
        obtain ⟨i, g4, g5⟩ := xmap_at hC t1 w hw
        rw [g1] at g4
        cases g4
        have g6 : w.1 = q.1 := Option.some.inj g3
        exact ⟨w.2, by rw [g5, ← g6]⟩
    · exact ⟨q.2, g2⟩
  refine ⟨t, o, h1, h2, h3, ⟨⟨⟨v, xSet ws is w', e1, ⟨w', e2, rfl⟩, fun j q hq => ?_, ⟨fun i j p q hi hj ee => ?_, fun j q hq => ?_⟩⟩, hz, fun q g1 g2 => hkk q g1 (fun z => g2 (xA_mono hC z))⟩, L, f1, fun q hq => xA_mono hC (f2 q hq)⟩⟩
  · rcases xSet_get is w' ws j q hlen hq with ⟨t1, g1, g2⟩ | ⟨g1, g2⟩
    · exact e3 t1 q g2
    · have hlt := (qP j q g2).lt
      refine (qP j q g2).kept (hkk q.1 hlt fun hA => ?_)
      rcases hA with ⟨t1, e, g3⟩ | g3
      · obtain ⟨i, g4, g5⟩ := xmap_at hC t1 _ g3
        have := qD.1 j i q (q.1, e) g2 g5 rfl
        subst this
        exact g1 (List.mem_of_getElem? g4)
      · omega
  · obtain ⟨e4, g1⟩ := adr i p hi
    obtain ⟨e5, g2⟩ := adr j q hj
    exact qD.1 i j _ _ g1 g2 ee
  · obtain ⟨e4, g1⟩ := adr j q hq
    exact Or.inl ⟨j, e4, g1⟩
