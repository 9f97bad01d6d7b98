set_option maxRecDepth 100000 in
set_option maxHeartbeats 4000000 in
theorem lw_sw {κ : Kx} {g : XG} {Q : State → Prop} {sc L i : Nat} {xs : Nat → Int32} {a b : Nat → Nat} {wX wM : va_W} (hX : va_X sc L xs (ks κ) (ks κ).heap) (hsz : sc < (ks κ).heap.size) (hA : ¬ kA κ sc) (hL : L ≤ 384) (hi : i + 6 ≤ L) (hR : Rel g a b wX wM) (hgo : ∀ w1 w2, Rel g a b w1 w2 → Xs κ g 1312 600000 7302250 cL_law yL_law ret Q 72 23970 1278 [some (.ref sc), some (.ref (a 0)), some (.ref (b 0)), some (.int (nI i))] [] (w1 ++ w2)) {t : Nat} (ht : t < 64) : Xs κ g 1312 600000 7302250 cL_law yL_law ret Q 72 23970 33 [some (.ref sc), some (.ref (a 0)), some (.ref (b 0)), some (.int (nI i))] [.int (nI t)] (wX ++ wM) := by
  rcases (by omega : 40 < t ∨ t = 0 ∨ t = 1 ∨ t = 2 ∨ t = 3 ∨ t = 4 ∨ t = 5 ∨ t = 6 ∨ t = 7 ∨ t = 8 ∨ t = 9 ∨ t = 10 ∨ t = 11 ∨ t = 12 ∨ t = 13 ∨ t = 14 ∨ t = 15 ∨ t = 16 ∨ t = 17 ∨ t = 18 ∨ t = 19 ∨ t = 20 ∨ t = 21 ∨ t = 22 ∨ t = 23 ∨ t = 24 ∨ t = 25 ∨ t = 26 ∨ t = 27 ∨ t = 28 ∨ t = 29 ∨ t = 30 ∨ t = 31 ∨ t = 32 ∨ t = 33 ∨ t = 34 ∨ t = 35 ∨ t = 36 ∨ t = 37 ∨ t = 38 ∨ t = 39 ∨ t = 40) with h | rfl | rfl | rfl | rfl | rfl | rfl | rfl | rfl | rfl | rfl | rfl | rfl | rfl | rfl | rfl | rfl | rfl | rfl | rfl | rfl | rfl | rfl | rfl | rfl | rfl | rfl | rfl | rfl | rfl | rfl | rfl | rfl | rfl | rfl | rfl | rfl | rfl | rfl | rfl | rfl | rfl
  · refine x_tabOut 1278 dL_law_33 (Or.inr ?_) (by decide) ?_
    · rw [nI_toInt (by omega)]; omega
    · exact hgo wX wM hR
  · refine x_tabIn (off := 179) 212 dL_law_33 (by decide) (by decide) rfl (by decide) ?_
    exact lw_c0 hX hsz hA hL hi hR hgo
  · refine x_tabIn (off := 202) 235 dL_law_33 (by decide) (by decide) rfl (by decide) ?_
    exact lw_c1 hX hsz hA hL hi hR hgo
  · refine x_tabIn (off := 225) 258 dL_law_33 (by decide) (by decide) rfl (by decide) ?_
    exact lw_c2 hX hsz hA hL hi hR hgo
  · refine x_tabIn (off := 258) 291 dL_law_33 (by decide) (by decide) rfl (by decide) ?_
    exact lw_c3 hX hsz hA hL hi hR hgo
  · refine x_tabIn (off := 291) 324 dL_law_33 (by decide) (by decide) rfl (by decide) ?_
    exact lw_c4 hX hsz hA hL hi hR hgo
  · refine x_tabIn (off := 324) 357 dL_law_33 (by decide) (by decide) rfl (by decide) ?_
    exact lw_c5 hX hsz hA hL hi hR hgo
  · refine x_tabIn (off := 357) 390 dL_law_33 (by decide) (by decide) rfl (by decide) ?_
    exact lw_c6 hX hsz hA hL hi hR hgo
  · refine x_tabIn (off := 390) 423 dL_law_33 (by decide) (by decide) rfl (by decide) ?_
    exact lw_c7 hX hsz hA hL hi hR hgo
  · refine x_tabIn (off := 423) 456 dL_law_33 (by decide) (by decide) rfl (by decide) ?_
    exact lw_c8 hX hsz hA hL hi hR hgo
  · refine x_tabIn (off := 456) 489 dL_law_33 (by decide) (by decide) rfl (by decide) ?_
    exact lw_c9 hX hsz hA hL hi hR hgo
  · refine x_tabIn (off := 469) 502 dL_law_33 (by decide) (by decide) rfl (by decide) ?_
    exact lw_c10 hX hsz hA hL hi hR hgo
  · refine x_tabIn (off := 502) 535 dL_law_33 (by decide) (by decide) rfl (by decide) ?_
    exact lw_c11 hX hsz hA hL hi hR hgo
  · refine x_tabIn (off := 515) 548 dL_law_33 (by decide) (by decide) rfl (by decide) ?_
    exact lw_c12 hX hsz hA hL hi hR hgo
  · refine x_tabIn (off := 528) 561 dL_law_33 (by decide) (by decide) rfl (by decide) ?_
    exact lw_c13 hX hsz hA hL hi hR hgo
  · refine x_tabIn (off := 541) 574 dL_law_33 (by decide) (by decide) rfl (by decide) ?_
    exact lw_c14 hX hsz hA hL hi hR hgo
  · refine x_tabIn (off := 574) 607 dL_law_33 (by decide) (by decide) rfl (by decide) ?_
    exact lw_c15 hX hsz hA hL hi hR hgo
  · refine x_tabIn (off := 597) 630 dL_law_33 (by decide) (by decide) rfl (by decide) ?_
    exact lw_c16 hX hsz hA hL hi hR hgo
  · refine x_tabIn (off := 610) 643 dL_law_33 (by decide) (by decide) rfl (by decide) ?_
    exact lw_c17 hX hsz hA hL hi hR hgo
  · refine x_tabIn (off := 633) 666 dL_law_33 (by decide) (by decide) rfl (by decide) ?_
    exact lw_c18 hX hsz hA hL hi hR hgo
  · refine x_tabIn (off := 666) 699 dL_law_33 (by decide) (by decide) rfl (by decide) ?_
    exact lw_c19 hX hsz hA hL hi hR hgo
  · refine x_tabIn (off := 679) 712 dL_law_33 (by decide) (by decide) rfl (by decide) ?_
    exact lw_c20 hX hsz hA hL hi hR hgo
  · refine x_tabIn (off := 702) 735 dL_law_33 (by decide) (by decide) rfl (by decide) ?_
    exact lw_c21 hX hsz hA hL hi hR hgo
  · refine x_tabIn (off := 725) 758 dL_law_33 (by decide) (by decide) rfl (by decide) ?_
    exact lw_c22 hX hsz hA hL hi hR hgo
  · refine x_tabIn (off := 748) 781 dL_law_33 (by decide) (by decide) rfl (by decide) ?_
    exact lw_c23 hX hsz hA hL hi hR hgo
  · refine x_tabIn (off := 771) 804 dL_law_33 (by decide) (by decide) rfl (by decide) ?_
    exact lw_c24 hX hsz hA hL hi hR hgo
  · refine x_tabIn (off := 795) 828 dL_law_33 (by decide) (by decide) rfl (by decide) ?_
    exact lw_c25 hX hsz hA hL hi hR hgo
  · refine x_tabIn (off := 828) 861 dL_law_33 (by decide) (by decide) rfl (by decide) ?_
    exact lw_c26 hX hsz hA hL hi hR hgo
  · refine x_tabIn (off := 851) 884 dL_law_33 (by decide) (by decide) rfl (by decide) ?_
    exact lw_c27 hX hsz hA hL hi hR hgo
  · refine x_tabIn (off := 874) 907 dL_law_33 (by decide) (by decide) rfl (by decide) ?_
    exact lw_c28 hX hsz hA hL hi hR hgo
  · refine x_tabIn (off := 897) 930 dL_law_33 (by decide) (by decide) rfl (by decide) ?_
    exact lw_c29 hX hsz hA hL hi hR hgo
  · refine x_tabIn (off := 911) 944 dL_law_33 (by decide) (by decide) rfl (by decide) ?_
    exact lw_c30 hX hsz hA hL hi hR hgo
  · refine x_tabIn (off := 934) 967 dL_law_33 (by decide) (by decide) rfl (by decide) ?_
    exact lw_c31 hX hsz hA hL hi hR hgo
  · refine x_tabIn (off := 977) 1010 dL_law_33 (by decide) (by decide) rfl (by decide) ?_
    exact lw_c32 hX hsz hA hL hi hR hgo
  · refine x_tabIn (off := 1051) 1084 dL_law_33 (by decide) (by decide) rfl (by decide) ?_
    exact lw_c33 hX hsz hA hL hi hR hgo
  · refine x_tabIn (off := 1114) 1147 dL_law_33 (by decide) (by decide) rfl (by decide) ?_
    exact lw_c34 hX hsz hA hL hi hR hgo
  · refine x_tabIn (off := 1137) 1170 dL_law_33 (by decide) (by decide) rfl (by decide) ?_
    exact lw_c35 hX hsz hA hL hi hR hgo
  · refine x_tabIn (off := 1160) 1193 dL_law_33 (by decide) (by decide) rfl (by decide) ?_
    exact lw_c36 hX hsz hA hL hi hR hgo
  · refine x_tabIn (off := 1173) 1206 dL_law_33 (by decide) (by decide) rfl (by decide) ?_
    exact lw_c37 hX hsz hA hL hi hR hgo
  · refine x_tabIn (off := 1186) 1219 dL_law_33 (by decide) (by decide) rfl (by decide) ?_
    exact lw_c38 hX hsz hA hL hi hR hgo
  · refine x_tabIn (off := 1199) 1232 dL_law_33 (by decide) (by decide) rfl (by decide) ?_
    exact lw_c39 hX hsz hA hL hi hR hgo
  · refine x_tabIn (off := 1222) 1255 dL_law_33 (by decide) (by decide) rfl (by decide) ?_
    exact lw_c40 hX hsz hA hL hi hR hgo
set_option maxRecDepth 100000 in
set_option maxHeartbeats 4000000 in
theorem lw_loop {κ : Kx} {g : XG} {sc L : Nat} {xs : Nat → Int32} {a b : Nat → Nat} (hkA : ∀ q, kA κ q → (ks κ).heap.size ≤ q) (hX : va_X sc L xs (ks κ) (ks κ).heap) (hsz : sc < (ks κ).heap.size) (hA : ¬ kA κ sc) (hL : L ≤ 384) : ∀ (n i : Nat) (wX wM : va_W), i ≤ 400 → L < i + 6 + n → Rel g a b wX wM → Xs κ g 1312 600000 7302250 cL_law yL_law ret (lw_Z (kb κ) (ka κ) (ks κ)) 72 23970 18 [some (.ref sc), some (.ref (a 0)), some (.ref (b 0)), some (.int (nI i))] [] (wX ++ wM) := by
  intro n
  induction n with
  | zero =>
    intro i wX wM hi hn hR
    refine x_iload_n dL_law_18 rfl ?_
    refine x_aload_n dL_law_19 rfl ?_
    refine x_slen dL_law_20 hX hsz hA ?_
    refine x_bipush 6 dL_law_21 (by decide) ?_
    refine x_isub dL_law_23 ?_
    refine x_icmp_gt dL_law_24 (fun c => ?_) (fun c => ?_)
    · exact lw_end hkA _ _
    · exact absurd ((le6 hL hi).mpr (by omega)) c
  | succ n ih =>
    intro i wX wM hi hn hR
    refine x_iload_n dL_law_18 rfl ?_
    refine x_aload_n dL_law_19 rfl ?_
    refine x_slen dL_law_20 hX hsz hA ?_
    refine x_bipush 6 dL_law_21 (by decide) ?_
    refine x_isub dL_law_23 ?_
    refine x_icmp_gt dL_law_24 (fun c => ?_) (fun c => ?_)
    · exact lw_end hkA _ _
    · have hi6 : i + 6 ≤ L := by
        have := mt (le6 hL hi).mpr c
        omega
      refine x_aload_n dL_law_27 rfl ?_
      refine x_iload_n dL_law_28 rfl ?_
      refine x_sald dL_law_29 hX hsz hA i rfl (by omega) (by omega) ?_
      refine x_bipush 63 dL_law_30 (by decide) ?_
      refine x_iand dL_law_32 ?_
      obtain ⟨t, ht, e⟩ := pk_andE (xs i) (m := 63) 6 (by decide)
      refine x_rei (nI t) e ?_
      refine lw_sw hX hsz hA hL hi6 hR (fun w1 w2 hR2 => ?_) (by omega)
      refine x_iinc (lv' := [some (.ref sc), some (.ref (a 0)), some (.ref (b 0)), some (.int (nI (i + 6)))]) (nI (i + 6)) dL_law_1278 rfl (nI_addc i 6 rfl) rfl ?_
      refine x_goto dL_law_1281 ?_
      exact ih (i + 6) w1 w2 (by omega) (by omega) hR2
