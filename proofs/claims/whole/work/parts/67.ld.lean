section LC
variable {κ : Kx} {g : XG} {Q : State → Prop} {sc L i : Nat} {xs : Nat → Int32} {a b : Nat → Nat} {wX wM : va_W}
set_option maxRecDepth 100000 in
set_option maxHeartbeats 4000000 in
theorem lw_c21 (hX : va_X sc L xs (ks κ) (ks κ).heap) (hsz : sc < (ks κ).heap.size) (hA : ¬ kA κ sc) (hL : L ≤ 384) (hi : i + 6 ≤ L) (hR : Rel g a b wX wM) (hgo : ∀ w1 w2, Rel g a b w1 w2 → Xs κ g 1312 600000 7302250 cL_law yL_law ret Q 72 23970 1278 [some (.ref sc), some (.ref (a 0)), some (.ref (b 0)), some (.int (nI i))] [] (w1 ++ w2)) : Xs κ g 1312 600000 7302250 cL_law yL_law ret Q 72 23970 735 [some (.ref sc), some (.ref (a 0)), some (.ref (b 0)), some (.int (nI i))] [] (wX ++ wM) := by
  obtain ⟨fx, hx0⟩ := rel_x0 hR
  obtain ⟨fm, hm0⟩ := rel_n0 hR
  obtain ⟨v, kx, kn, PX, PM, hkx, hkn, hv, cX, cM, hj⟩ := pm_best κ.2.1 g a b hR (xs (i + 1))
  refine x_aload_n dL_law_735 rfl ?_
  refine x_aload_n dL_law_736 rfl ?_
  refine x_iload_n dL_law_737 rfl ?_
  refine x_iconst 1 dL_law_738 (by decide) ?_
  refine x_iadd dL_law_739 ?_
  refine x_rei (nI (i + 1)) (nI_addc i 1 rfl) ?_
  refine x_sald dL_law_740 hX hsz hA (i + 1) rfl (by omega) (by omega) ?_
  refine x_callJ (As := [.int (xs (i + 1))]) (st := []) (wa := wX) (wb := wM) dL_law_741 ml_L_100 mX8_best cX rfl hx0 rfl rfl (by decide) (by omega) (Nat.le_of_ble_eq_true rfl) (Nat.le_of_ble_eq_true rfl) (fun v1 w1 h1 => ?_)
  refine x_aload_n dL_law_744 rfl ?_
  refine x_aload_n dL_law_745 rfl ?_
  refine x_iload_n dL_law_746 rfl ?_
  refine x_iconst 1 dL_law_747 (by decide) ?_
  refine x_iadd dL_law_748 ?_
  refine x_rei (nI (i + 1)) (nI_addc i 1 rfl) ?_
  refine x_sald dL_law_749 hX hsz hA (i + 1) rfl (by omega) (by omega) ?_
  refine x_callJ (As := [.int (xs (i + 1))]) (st := v1.toList ++ []) (wa := wM) (wb := w1) dL_law_750 ml_L_103 mX9_best cM rfl hm0 rfl rfl (cat8 v1) (by omega) (Nat.le_of_ble_eq_true rfl) (Nat.le_of_ble_eq_true rfl) (fun v2 w2 h2 => ?_)
  obtain ⟨rfl, rfl, hR2⟩ := hj v1 w1 v2 w2 h1 h2
  obtain ⟨r, rfl⟩ : ∃ r, v = .int r := hv.elim (fun q => q.2) (fun q => absurd q.1 (by decide))
  refine x_icmp_eq dL_law_753 (fun _ => ?_) (fun c => absurd rfl c)
  exact hgo w1 w2 hR2

set_option maxRecDepth 100000 in
set_option maxHeartbeats 4000000 in
theorem lw_c22 (hX : va_X sc L xs (ks κ) (ks κ).heap) (hsz : sc < (ks κ).heap.size) (hA : ¬ kA κ sc) (hL : L ≤ 384) (hi : i + 6 ≤ L) (hR : Rel g a b wX wM) (hgo : ∀ w1 w2, Rel g a b w1 w2 → Xs κ g 1312 600000 7302250 cL_law yL_law ret Q 72 23970 1278 [some (.ref sc), some (.ref (a 0)), some (.ref (b 0)), some (.int (nI i))] [] (w1 ++ w2)) : Xs κ g 1312 600000 7302250 cL_law yL_law ret Q 72 23970 758 [some (.ref sc), some (.ref (a 0)), some (.ref (b 0)), some (.int (nI i))] [] (wX ++ wM) := by
  obtain ⟨fx, hx0⟩ := rel_x0 hR
  obtain ⟨fm, hm0⟩ := rel_n0 hR
  obtain ⟨v, kx, kn, PX, PM, hkx, hkn, hv, cX, cM, hj⟩ := pm_alone κ.2.1 g a b hR (xs (i + 1))
  refine x_aload_n dL_law_758 rfl ?_
  refine x_aload_n dL_law_759 rfl ?_
  refine x_iload_n dL_law_760 rfl ?_
  refine x_iconst 1 dL_law_761 (by decide) ?_
  refine x_iadd dL_law_762 ?_
  refine x_rei (nI (i + 1)) (nI_addc i 1 rfl) ?_
  refine x_sald dL_law_763 hX hsz hA (i + 1) rfl (by omega) (by omega) ?_
  refine x_callJ (As := [.int (xs (i + 1))]) (st := []) (wa := wX) (wb := wM) dL_law_764 ml_L_104 mX8_alone cX rfl hx0 rfl rfl (by decide) (by omega) (Nat.le_of_ble_eq_true rfl) (Nat.le_of_ble_eq_true rfl) (fun v1 w1 h1 => ?_)
  refine x_aload_n dL_law_767 rfl ?_
  refine x_aload_n dL_law_768 rfl ?_
  refine x_iload_n dL_law_769 rfl ?_
  refine x_iconst 1 dL_law_770 (by decide) ?_
  refine x_iadd dL_law_771 ?_
  refine x_rei (nI (i + 1)) (nI_addc i 1 rfl) ?_
  refine x_sald dL_law_772 hX hsz hA (i + 1) rfl (by omega) (by omega) ?_
  refine x_callJ (As := [.int (xs (i + 1))]) (st := v1.toList ++ []) (wa := wM) (wb := w1) dL_law_773 ml_L_107 mX9_alone cM rfl hm0 rfl rfl (cat8 v1) (by omega) (Nat.le_of_ble_eq_true rfl) (Nat.le_of_ble_eq_true rfl) (fun v2 w2 h2 => ?_)
  obtain ⟨rfl, rfl, hR2⟩ := hj v1 w1 v2 w2 h1 h2
  obtain ⟨r, rfl⟩ : ∃ r, v = .int r := hv.elim (fun q => q.2) (fun q => absurd q.1 (by decide))
  refine x_icmp_eq dL_law_776 (fun _ => ?_) (fun c => absurd rfl c)
  exact hgo w1 w2 hR2

set_option maxRecDepth 100000 in
set_option maxHeartbeats 4000000 in
theorem lw_c23 (hX : va_X sc L xs (ks κ) (ks κ).heap) (hsz : sc < (ks κ).heap.size) (hA : ¬ kA κ sc) (hL : L ≤ 384) (hi : i + 6 ≤ L) (hR : Rel g a b wX wM) (hgo : ∀ w1 w2, Rel g a b w1 w2 → Xs κ g 1312 600000 7302250 cL_law yL_law ret Q 72 23970 1278 [some (.ref sc), some (.ref (a 0)), some (.ref (b 0)), some (.int (nI i))] [] (w1 ++ w2)) : Xs κ g 1312 600000 7302250 cL_law yL_law ret Q 72 23970 781 [some (.ref sc), some (.ref (a 0)), some (.ref (b 0)), some (.int (nI i))] [] (wX ++ wM) := by
  obtain ⟨fx, hx0⟩ := rel_x0 hR
  obtain ⟨fm, hm0⟩ := rel_n0 hR
  obtain ⟨v, kx, kn, PX, PM, hkx, hkn, hv, cX, cM, hj⟩ := pm_line κ.2.1 g a b hR (xs (i + 1))
  refine x_aload_n dL_law_781 rfl ?_
  refine x_aload_n dL_law_782 rfl ?_
  refine x_iload_n dL_law_783 rfl ?_
  refine x_iconst 1 dL_law_784 (by decide) ?_
  refine x_iadd dL_law_785 ?_
  refine x_rei (nI (i + 1)) (nI_addc i 1 rfl) ?_
  refine x_sald dL_law_786 hX hsz hA (i + 1) rfl (by omega) (by omega) ?_
  refine x_callJ (As := [.int (xs (i + 1))]) (st := []) (wa := wX) (wb := wM) dL_law_787 ml_L_108 mX8_line cX rfl hx0 rfl rfl (by decide) (by omega) (Nat.le_of_ble_eq_true rfl) (Nat.le_of_ble_eq_true rfl) (fun v1 w1 h1 => ?_)
  refine x_aload_n dL_law_790 rfl ?_
  refine x_aload_n dL_law_791 rfl ?_
  refine x_iload_n dL_law_792 rfl ?_
  refine x_iconst 1 dL_law_793 (by decide) ?_
  refine x_iadd dL_law_794 ?_
  refine x_rei (nI (i + 1)) (nI_addc i 1 rfl) ?_
  refine x_sald dL_law_795 hX hsz hA (i + 1) rfl (by omega) (by omega) ?_
  refine x_callJ (As := [.int (xs (i + 1))]) (st := v1.toList ++ []) (wa := wM) (wb := w1) dL_law_796 ml_L_111 mX9_line cM rfl hm0 rfl rfl (cat8 v1) (by omega) (Nat.le_of_ble_eq_true rfl) (Nat.le_of_ble_eq_true rfl) (fun v2 w2 h2 => ?_)
  obtain ⟨rfl, rfl, hR2⟩ := hj v1 w1 v2 w2 h1 h2
  obtain ⟨r, rfl⟩ : ∃ r, v = .int r := hv.elim (fun q => q.2) (fun q => absurd q.1 (by decide))
  refine x_icmp_eq dL_law_799 (fun _ => ?_) (fun c => absurd rfl c)
  exact hgo w1 w2 hR2

set_option maxRecDepth 100000 in
set_option maxHeartbeats 4000000 in
theorem lw_c24 (hX : va_X sc L xs (ks κ) (ks κ).heap) (hsz : sc < (ks κ).heap.size) (hA : ¬ kA κ sc) (hL : L ≤ 384) (hi : i + 6 ≤ L) (hR : Rel g a b wX wM) (hgo : ∀ w1 w2, Rel g a b w1 w2 → Xs κ g 1312 600000 7302250 cL_law yL_law ret Q 72 23970 1278 [some (.ref sc), some (.ref (a 0)), some (.ref (b 0)), some (.int (nI i))] [] (w1 ++ w2)) : Xs κ g 1312 600000 7302250 cL_law yL_law ret Q 72 23970 804 [some (.ref sc), some (.ref (a 0)), some (.ref (b 0)), some (.int (nI i))] [] (wX ++ wM) := by
  obtain ⟨fx, hx0⟩ := rel_x0 hR
  obtain ⟨fm, hm0⟩ := rel_n0 hR
  obtain ⟨v, kx, kn, PX, PM, hkx, hkn, hv, cX, cM, hj⟩ := pm_house κ.2.1 g a b hR (xs (i + 1))
  refine x_aload_n dL_law_804 rfl ?_
  refine x_aload_n dL_law_805 rfl ?_
  refine x_iload_n dL_law_806 rfl ?_
  refine x_iconst 1 dL_law_807 (by decide) ?_
  refine x_iadd dL_law_808 ?_
  refine x_rei (nI (i + 1)) (nI_addc i 1 rfl) ?_
  refine x_sald dL_law_809 hX hsz hA (i + 1) rfl (by omega) (by omega) ?_
  refine x_callJ (As := [.int (xs (i + 1))]) (st := []) (wa := wX) (wb := wM) dL_law_810 ml_L_112 mX8_house cX rfl hx0 rfl rfl (by decide) (by omega) (Nat.le_of_ble_eq_true rfl) (Nat.le_of_ble_eq_true rfl) (fun v1 w1 h1 => ?_)
  refine x_aload_n dL_law_813 rfl ?_
  refine x_aload_n dL_law_814 rfl ?_
  refine x_iload_n dL_law_815 rfl ?_
  refine x_iconst 1 dL_law_816 (by decide) ?_
  refine x_iadd dL_law_817 ?_
  refine x_rei (nI (i + 1)) (nI_addc i 1 rfl) ?_
  refine x_sald dL_law_818 hX hsz hA (i + 1) rfl (by omega) (by omega) ?_
  refine x_callJ (As := [.int (xs (i + 1))]) (st := v1.toList ++ []) (wa := wM) (wb := w1) dL_law_819 ml_L_116 mX9_house cM rfl hm0 rfl rfl (cat8 v1) (by omega) (Nat.le_of_ble_eq_true rfl) (Nat.le_of_ble_eq_true rfl) (fun v2 w2 h2 => ?_)
  obtain ⟨rfl, rfl, hR2⟩ := hj v1 w1 v2 w2 h1 h2
  obtain ⟨r, rfl⟩ : ∃ r, v = .long r := hv.elim (fun q => absurd q.1 (by decide)) (fun q => q.2)
  refine x_lcmp dL_law_822 ?_
  refine x_rei 0 (lg_self r) ?_
  refine x_if_eq dL_law_823 (fun _ => ?_) (fun c => absurd rfl c)
  exact hgo w1 w2 hR2

set_option maxRecDepth 100000 in
set_option maxHeartbeats 4000000 in
theorem lw_c25 (hX : va_X sc L xs (ks κ) (ks κ).heap) (hsz : sc < (ks κ).heap.size) (hA : ¬ kA κ sc) (hL : L ≤ 384) (hi : i + 6 ≤ L) (hR : Rel g a b wX wM) (hgo : ∀ w1 w2, Rel g a b w1 w2 → Xs κ g 1312 600000 7302250 cL_law yL_law ret Q 72 23970 1278 [some (.ref sc), some (.ref (a 0)), some (.ref (b 0)), some (.int (nI i))] [] (w1 ++ w2)) : Xs κ g 1312 600000 7302250 cL_law yL_law ret Q 72 23970 828 [some (.ref sc), some (.ref (a 0)), some (.ref (b 0)), some (.int (nI i))] [] (wX ++ wM) := by
  obtain ⟨fx, hx0⟩ := rel_x0 hR
  obtain ⟨fm, hm0⟩ := rel_n0 hR
  obtain ⟨v, kx, kn, PX, PM, hkx, hkn, hv, cX, cM, hj⟩ := pm_seek κ.2.1 g a b hR (xs (i + 1)) (xs (i + 2))
  refine x_aload_n dL_law_828 rfl ?_
  refine x_aload_n dL_law_829 rfl ?_
  refine x_iload_n dL_law_830 rfl ?_
  refine x_iconst 1 dL_law_831 (by decide) ?_
  refine x_iadd dL_law_832 ?_
  refine x_rei (nI (i + 1)) (nI_addc i 1 rfl) ?_
  refine x_sald dL_law_833 hX hsz hA (i + 1) rfl (by omega) (by omega) ?_
  refine x_aload_n dL_law_834 rfl ?_
  refine x_iload_n dL_law_835 rfl ?_
  refine x_iconst 2 dL_law_836 (by decide) ?_
  refine x_iadd dL_law_837 ?_
  refine x_rei (nI (i + 2)) (nI_addc i 2 rfl) ?_
  refine x_sald dL_law_838 hX hsz hA (i + 2) rfl (by omega) (by omega) ?_
  refine x_callJ (As := [.int (xs (i + 1)), .int (xs (i + 2))]) (st := []) (wa := wX) (wb := wM) dL_law_839 ml_L_117 mX8_seek cX rfl hx0 rfl rfl (by decide) (by omega) (Nat.le_of_ble_eq_true rfl) (Nat.le_of_ble_eq_true rfl) (fun v1 w1 h1 => ?_)
  refine x_aload_n dL_law_842 rfl ?_
  refine x_aload_n dL_law_843 rfl ?_
  refine x_iload_n dL_law_844 rfl ?_
  refine x_iconst 1 dL_law_845 (by decide) ?_
  refine x_iadd dL_law_846 ?_
  refine x_rei (nI (i + 1)) (nI_addc i 1 rfl) ?_
  refine x_sald dL_law_847 hX hsz hA (i + 1) rfl (by omega) (by omega) ?_
  refine x_aload_n dL_law_848 rfl ?_
  refine x_iload_n dL_law_849 rfl ?_
  refine x_iconst 2 dL_law_850 (by decide) ?_
  refine x_iadd dL_law_851 ?_
  refine x_rei (nI (i + 2)) (nI_addc i 2 rfl) ?_
  refine x_sald dL_law_852 hX hsz hA (i + 2) rfl (by omega) (by omega) ?_
  refine x_callJ (As := [.int (xs (i + 1)), .int (xs (i + 2))]) (st := v1.toList ++ []) (wa := wM) (wb := w1) dL_law_853 ml_L_120 mX9_seek cM rfl hm0 rfl rfl (cat8 v1) (by omega) (Nat.le_of_ble_eq_true rfl) (Nat.le_of_ble_eq_true rfl) (fun v2 w2 h2 => ?_)
  obtain ⟨rfl, rfl, hR2⟩ := hj v1 w1 v2 w2 h1 h2
  obtain ⟨r, rfl⟩ : ∃ r, v = .int r := hv.elim (fun q => q.2) (fun q => absurd q.1 (by decide))
  refine x_icmp_eq dL_law_856 (fun _ => ?_) (fun c => absurd rfl c)
  exact hgo w1 w2 hR2

set_option maxRecDepth 100000 in
set_option maxHeartbeats 4000000 in
theorem lw_c26 (hX : va_X sc L xs (ks κ) (ks κ).heap) (hsz : sc < (ks κ).heap.size) (hA : ¬ kA κ sc) (hL : L ≤ 384) (hi : i + 6 ≤ L) (hR : Rel g a b wX wM) (hgo : ∀ w1 w2, Rel g a b w1 w2 → Xs κ g 1312 600000 7302250 cL_law yL_law ret Q 72 23970 1278 [some (.ref sc), some (.ref (a 0)), some (.ref (b 0)), some (.int (nI i))] [] (w1 ++ w2)) : Xs κ g 1312 600000 7302250 cL_law yL_law ret Q 72 23970 861 [some (.ref sc), some (.ref (a 0)), some (.ref (b 0)), some (.int (nI i))] [] (wX ++ wM) := by
  obtain ⟨fx, hx0⟩ := rel_x0 hR
  obtain ⟨fm, hm0⟩ := rel_n0 hR
  obtain ⟨v, kx, kn, PX, PM, hkx, hkn, hv, cX, cM, hj⟩ := pm_shares κ.2.1 g a b hR (xs (i + 1))
  refine x_aload_n dL_law_861 rfl ?_
  refine x_aload_n dL_law_862 rfl ?_
  refine x_iload_n dL_law_863 rfl ?_
  refine x_iconst 1 dL_law_864 (by decide) ?_
  refine x_iadd dL_law_865 ?_
  refine x_rei (nI (i + 1)) (nI_addc i 1 rfl) ?_
  refine x_sald dL_law_866 hX hsz hA (i + 1) rfl (by omega) (by omega) ?_
  refine x_callJ (As := [.int (xs (i + 1))]) (st := []) (wa := wX) (wb := wM) dL_law_867 ml_L_121 mX8_shares cX rfl hx0 rfl rfl (by decide) (by omega) (Nat.le_of_ble_eq_true rfl) (Nat.le_of_ble_eq_true rfl) (fun v1 w1 h1 => ?_)
  refine x_aload_n dL_law_870 rfl ?_
  refine x_aload_n dL_law_871 rfl ?_
  refine x_iload_n dL_law_872 rfl ?_
  refine x_iconst 1 dL_law_873 (by decide) ?_
  refine x_iadd dL_law_874 ?_
  refine x_rei (nI (i + 1)) (nI_addc i 1 rfl) ?_
  refine x_sald dL_law_875 hX hsz hA (i + 1) rfl (by omega) (by omega) ?_
  refine x_callJ (As := [.int (xs (i + 1))]) (st := v1.toList ++ []) (wa := wM) (wb := w1) dL_law_876 ml_L_124 mX9_shares cM rfl hm0 rfl rfl (cat8 v1) (by omega) (Nat.le_of_ble_eq_true rfl) (Nat.le_of_ble_eq_true rfl) (fun v2 w2 h2 => ?_)
  obtain ⟨rfl, rfl, hR2⟩ := hj v1 w1 v2 w2 h1 h2
  obtain ⟨r, rfl⟩ : ∃ r, v = .int r := hv.elim (fun q => q.2) (fun q => absurd q.1 (by decide))
  refine x_icmp_eq dL_law_879 (fun _ => ?_) (fun c => absurd rfl c)
  exact hgo w1 w2 hR2

set_option maxRecDepth 100000 in
set_option maxHeartbeats 4000000 in
theorem lw_c27 (hX : va_X sc L xs (ks κ) (ks κ).heap) (hsz : sc < (ks κ).heap.size) (hA : ¬ kA κ sc) (hL : L ≤ 384) (hi : i + 6 ≤ L) (hR : Rel g a b wX wM) (hgo : ∀ w1 w2, Rel g a b w1 w2 → Xs κ g 1312 600000 7302250 cL_law yL_law ret Q 72 23970 1278 [some (.ref sc), some (.ref (a 0)), some (.ref (b 0)), some (.int (nI i))] [] (w1 ++ w2)) : Xs κ g 1312 600000 7302250 cL_law yL_law ret Q 72 23970 884 [some (.ref sc), some (.ref (a 0)), some (.ref (b 0)), some (.int (nI i))] [] (wX ++ wM) := by
  obtain ⟨fx, hx0⟩ := rel_x0 hR
  obtain ⟨fm, hm0⟩ := rel_n0 hR
  obtain ⟨v, kx, kn, PX, PM, hkx, hkn, hv, cX, cM, hj⟩ := pm_due κ.2.1 g a b hR (xs (i + 1))
  refine x_aload_n dL_law_884 rfl ?_
  refine x_aload_n dL_law_885 rfl ?_
  refine x_iload_n dL_law_886 rfl ?_
  refine x_iconst 1 dL_law_887 (by decide) ?_
  refine x_iadd dL_law_888 ?_
  refine x_rei (nI (i + 1)) (nI_addc i 1 rfl) ?_
  refine x_sald dL_law_889 hX hsz hA (i + 1) rfl (by omega) (by omega) ?_
  refine x_callJ (As := [.int (xs (i + 1))]) (st := []) (wa := wX) (wb := wM) dL_law_890 ml_L_125 mX8_due cX rfl hx0 rfl rfl (by decide) (by omega) (Nat.le_of_ble_eq_true rfl) (Nat.le_of_ble_eq_true rfl) (fun v1 w1 h1 => ?_)
  refine x_aload_n dL_law_893 rfl ?_
  refine x_aload_n dL_law_894 rfl ?_
  refine x_iload_n dL_law_895 rfl ?_
  refine x_iconst 1 dL_law_896 (by decide) ?_
  refine x_iadd dL_law_897 ?_
  refine x_rei (nI (i + 1)) (nI_addc i 1 rfl) ?_
  refine x_sald dL_law_898 hX hsz hA (i + 1) rfl (by omega) (by omega) ?_
  refine x_callJ (As := [.int (xs (i + 1))]) (st := v1.toList ++ []) (wa := wM) (wb := w1) dL_law_899 ml_L_128 mX9_due cM rfl hm0 rfl rfl (cat8 v1) (by omega) (Nat.le_of_ble_eq_true rfl) (Nat.le_of_ble_eq_true rfl) (fun v2 w2 h2 => ?_)
  obtain ⟨rfl, rfl, hR2⟩ := hj v1 w1 v2 w2 h1 h2
  obtain ⟨r, rfl⟩ : ∃ r, v = .int r := hv.elim (fun q => q.2) (fun q => absurd q.1 (by decide))
  refine x_icmp_eq dL_law_902 (fun _ => ?_) (fun c => absurd rfl c)
  exact hgo w1 w2 hR2

set_option maxRecDepth 100000 in
set_option maxHeartbeats 4000000 in
theorem lw_c28 (hX : va_X sc L xs (ks κ) (ks κ).heap) (hsz : sc < (ks κ).heap.size) (hA : ¬ kA κ sc) (hL : L ≤ 384) (hi : i + 6 ≤ L) (hR : Rel g a b wX wM) (hgo : ∀ w1 w2, Rel g a b w1 w2 → Xs κ g 1312 600000 7302250 cL_law yL_law ret Q 72 23970 1278 [some (.ref sc), some (.ref (a 0)), some (.ref (b 0)), some (.int (nI i))] [] (w1 ++ w2)) : Xs κ g 1312 600000 7302250 cL_law yL_law ret Q 72 23970 907 [some (.ref sc), some (.ref (a 0)), some (.ref (b 0)), some (.int (nI i))] [] (wX ++ wM) := by
  obtain ⟨fx, hx0⟩ := rel_x0 hR
  obtain ⟨fm, hm0⟩ := rel_n0 hR
  obtain ⟨v, kx, kn, PX, PM, hkx, hkn, hv, cX, cM, hj⟩ := pm_came κ.2.1 g a b hR (xs (i + 1))
  refine x_aload_n dL_law_907 rfl ?_
  refine x_aload_n dL_law_908 rfl ?_
  refine x_iload_n dL_law_909 rfl ?_
  refine x_iconst 1 dL_law_910 (by decide) ?_
  refine x_iadd dL_law_911 ?_
  refine x_rei (nI (i + 1)) (nI_addc i 1 rfl) ?_
  refine x_sald dL_law_912 hX hsz hA (i + 1) rfl (by omega) (by omega) ?_
  refine x_callJ (As := [.int (xs (i + 1))]) (st := []) (wa := wX) (wb := wM) dL_law_913 ml_L_129 mX8_came cX rfl hx0 rfl rfl (by decide) (by omega) (Nat.le_of_ble_eq_true rfl) (Nat.le_of_ble_eq_true rfl) (fun v1 w1 h1 => ?_)
  refine x_aload_n dL_law_916 rfl ?_
  refine x_aload_n dL_law_917 rfl ?_
  refine x_iload_n dL_law_918 rfl ?_
  refine x_iconst 1 dL_law_919 (by decide) ?_
  refine x_iadd dL_law_920 ?_
  refine x_rei (nI (i + 1)) (nI_addc i 1 rfl) ?_
  refine x_sald dL_law_921 hX hsz hA (i + 1) rfl (by omega) (by omega) ?_
  refine x_callJ (As := [.int (xs (i + 1))]) (st := v1.toList ++ []) (wa := wM) (wb := w1) dL_law_922 ml_L_132 mX9_came cM rfl hm0 rfl rfl (cat8 v1) (by omega) (Nat.le_of_ble_eq_true rfl) (Nat.le_of_ble_eq_true rfl) (fun v2 w2 h2 => ?_)
  obtain ⟨rfl, rfl, hR2⟩ := hj v1 w1 v2 w2 h1 h2
  obtain ⟨r, rfl⟩ : ∃ r, v = .int r := hv.elim (fun q => q.2) (fun q => absurd q.1 (by decide))
  refine x_icmp_eq dL_law_925 (fun _ => ?_) (fun c => absurd rfl c)
  exact hgo w1 w2 hR2

set_option maxRecDepth 100000 in
set_option maxHeartbeats 4000000 in
theorem lw_c29 (hX : va_X sc L xs (ks κ) (ks κ).heap) (hsz : sc < (ks κ).heap.size) (hA : ¬ kA κ sc) (hL : L ≤ 384) (hi : i + 6 ≤ L) (hR : Rel g a b wX wM) (hgo : ∀ w1 w2, Rel g a b w1 w2 → Xs κ g 1312 600000 7302250 cL_law yL_law ret Q 72 23970 1278 [some (.ref sc), some (.ref (a 0)), some (.ref (b 0)), some (.int (nI i))] [] (w1 ++ w2)) : Xs κ g 1312 600000 7302250 cL_law yL_law ret Q 72 23970 930 [some (.ref sc), some (.ref (a 0)), some (.ref (b 0)), some (.int (nI i))] [] (wX ++ wM) := by
  obtain ⟨fx, hx0⟩ := rel_x0 hR
  obtain ⟨fm, hm0⟩ := rel_n0 hR
  obtain ⟨v, kx, kn, PX, PM, hkx, hkn, hv, cX, cM, hj⟩ := pm_drum κ.2.1 g a b hR 
  refine x_aload_n dL_law_930 rfl ?_
  refine x_callJ (As := []) (st := []) (wa := wX) (wb := wM) dL_law_931 ml_L_133 mX8_drum cX rfl hx0 rfl rfl (by decide) (by omega) (Nat.le_of_ble_eq_true rfl) (Nat.le_of_ble_eq_true rfl) (fun v1 w1 h1 => ?_)
  refine x_aload_n dL_law_934 rfl ?_
  refine x_callJ (As := []) (st := v1.toList ++ []) (wa := wM) (wb := w1) dL_law_935 ml_L_137 mX9_drum cM rfl hm0 rfl rfl (cat8 v1) (by omega) (Nat.le_of_ble_eq_true rfl) (Nat.le_of_ble_eq_true rfl) (fun v2 w2 h2 => ?_)
  obtain ⟨rfl, rfl, hR2⟩ := hj v1 w1 v2 w2 h1 h2
  obtain ⟨r, rfl⟩ : ∃ r, v = .long r := hv.elim (fun q => absurd q.1 (by decide)) (fun q => q.2)
  refine x_lcmp dL_law_938 ?_
  refine x_rei 0 (lg_self r) ?_
  refine x_if_eq dL_law_939 (fun _ => ?_) (fun c => absurd rfl c)
  exact hgo w1 w2 hR2

set_option maxRecDepth 100000 in
set_option maxHeartbeats 4000000 in
theorem lw_c30 (hX : va_X sc L xs (ks κ) (ks κ).heap) (hsz : sc < (ks κ).heap.size) (hA : ¬ kA κ sc) (hL : L ≤ 384) (hi : i + 6 ≤ L) (hR : Rel g a b wX wM) (hgo : ∀ w1 w2, Rel g a b w1 w2 → Xs κ g 1312 600000 7302250 cL_law yL_law ret Q 72 23970 1278 [some (.ref sc), some (.ref (a 0)), some (.ref (b 0)), some (.int (nI i))] [] (w1 ++ w2)) : Xs κ g 1312 600000 7302250 cL_law yL_law ret Q 72 23970 944 [some (.ref sc), some (.ref (a 0)), some (.ref (b 0)), some (.int (nI i))] [] (wX ++ wM) := by
  obtain ⟨fx, hx0⟩ := rel_x0 hR
  obtain ⟨fm, hm0⟩ := rel_n0 hR
  obtain ⟨v, kx, kn, PX, PM, hkx, hkn, hv, cX, cM, hj⟩ := pm_felt κ.2.1 g a b hR (xs (i + 1))
  refine x_aload_n dL_law_944 rfl ?_
  refine x_aload_n dL_law_945 rfl ?_
  refine x_iload_n dL_law_946 rfl ?_
  refine x_iconst 1 dL_law_947 (by decide) ?_
  refine x_iadd dL_law_948 ?_
  refine x_rei (nI (i + 1)) (nI_addc i 1 rfl) ?_
  refine x_sald dL_law_949 hX hsz hA (i + 1) rfl (by omega) (by omega) ?_
  refine x_callJ (As := [.int (xs (i + 1))]) (st := []) (wa := wX) (wb := wM) dL_law_950 ml_L_138 mX8_felt cX rfl hx0 rfl rfl (by decide) (by omega) (Nat.le_of_ble_eq_true rfl) (Nat.le_of_ble_eq_true rfl) (fun v1 w1 h1 => ?_)
  refine x_aload_n dL_law_953 rfl ?_
  refine x_aload_n dL_law_954 rfl ?_
  refine x_iload_n dL_law_955 rfl ?_
  refine x_iconst 1 dL_law_956 (by decide) ?_
  refine x_iadd dL_law_957 ?_
  refine x_rei (nI (i + 1)) (nI_addc i 1 rfl) ?_
  refine x_sald dL_law_958 hX hsz hA (i + 1) rfl (by omega) (by omega) ?_
  refine x_callJ (As := [.int (xs (i + 1))]) (st := v1.toList ++ []) (wa := wM) (wb := w1) dL_law_959 ml_L_141 mX9_felt cM rfl hm0 rfl rfl (cat8 v1) (by omega) (Nat.le_of_ble_eq_true rfl) (Nat.le_of_ble_eq_true rfl) (fun v2 w2 h2 => ?_)
  obtain ⟨rfl, rfl, hR2⟩ := hj v1 w1 v2 w2 h1 h2
  obtain ⟨r, rfl⟩ : ∃ r, v = .int r := hv.elim (fun q => q.2) (fun q => absurd q.1 (by decide))
  refine x_icmp_eq dL_law_962 (fun _ => ?_) (fun c => absurd rfl c)
  exact hgo w1 w2 hR2

set_option maxRecDepth 100000 in
set_option maxHeartbeats 4000000 in
theorem lw_c31 (hX : va_X sc L xs (ks κ) (ks κ).heap) (hsz : sc < (ks κ).heap.size) (hA : ¬ kA κ sc) (hL : L ≤ 384) (hi : i + 6 ≤ L) (hR : Rel g a b wX wM) (hgo : ∀ w1 w2, Rel g a b w1 w2 → Xs κ g 1312 600000 7302250 cL_law yL_law ret Q 72 23970 1278 [some (.ref sc), some (.ref (a 0)), some (.ref (b 0)), some (.int (nI i))] [] (w1 ++ w2)) : Xs κ g 1312 600000 7302250 cL_law yL_law ret Q 72 23970 967 [some (.ref sc), some (.ref (a 0)), some (.ref (b 0)), some (.int (nI i))] [] (wX ++ wM) := by
  obtain ⟨fx, hx0⟩ := rel_x0 hR
  obtain ⟨fm, hm0⟩ := rel_n0 hR
  obtain ⟨v, kx, kn, PX, PM, hkx, hkn, hv, cX, cM, hj⟩ := pm_sheet κ.2.1 g a b hR (xs (i + 1)) (xs (i + 2)) (xs (i + 3))
  refine x_aload_n dL_law_967 rfl ?_
  refine x_aload_n dL_law_968 rfl ?_
  refine x_iload_n dL_law_969 rfl ?_
  refine x_iconst 1 dL_law_970 (by decide) ?_
  refine x_iadd dL_law_971 ?_
  refine x_rei (nI (i + 1)) (nI_addc i 1 rfl) ?_
  refine x_sald dL_law_972 hX hsz hA (i + 1) rfl (by omega) (by omega) ?_
  refine x_aload_n dL_law_973 rfl ?_
  refine x_iload_n dL_law_974 rfl ?_
  refine x_iconst 2 dL_law_975 (by decide) ?_
  refine x_iadd dL_law_976 ?_
  refine x_rei (nI (i + 2)) (nI_addc i 2 rfl) ?_
  refine x_sald dL_law_977 hX hsz hA (i + 2) rfl (by omega) (by omega) ?_
  refine x_aload_n dL_law_978 rfl ?_
  refine x_iload_n dL_law_979 rfl ?_
  refine x_iconst 3 dL_law_980 (by decide) ?_
  refine x_iadd dL_law_981 ?_
  refine x_rei (nI (i + 3)) (nI_addc i 3 rfl) ?_
  refine x_sald dL_law_982 hX hsz hA (i + 3) rfl (by omega) (by omega) ?_
  refine x_callJ (As := [.int (xs (i + 1)), .int (xs (i + 2)), .int (xs (i + 3))]) (st := []) (wa := wX) (wb := wM) dL_law_983 ml_L_142 mX8_sheet cX rfl hx0 rfl rfl (by decide) (by omega) (Nat.le_of_ble_eq_true rfl) (Nat.le_of_ble_eq_true rfl) (fun v1 w1 h1 => ?_)
  refine x_aload_n dL_law_986 rfl ?_
  refine x_aload_n dL_law_987 rfl ?_
  refine x_iload_n dL_law_988 rfl ?_
  refine x_iconst 1 dL_law_989 (by decide) ?_
  refine x_iadd dL_law_990 ?_
  refine x_rei (nI (i + 1)) (nI_addc i 1 rfl) ?_
  refine x_sald dL_law_991 hX hsz hA (i + 1) rfl (by omega) (by omega) ?_
  refine x_aload_n dL_law_992 rfl ?_
  refine x_iload_n dL_law_993 rfl ?_
  refine x_iconst 2 dL_law_994 (by decide) ?_
  refine x_iadd dL_law_995 ?_
  refine x_rei (nI (i + 2)) (nI_addc i 2 rfl) ?_
  refine x_sald dL_law_996 hX hsz hA (i + 2) rfl (by omega) (by omega) ?_
  refine x_aload_n dL_law_997 rfl ?_
  refine x_iload_n dL_law_998 rfl ?_
  refine x_iconst 3 dL_law_999 (by decide) ?_
  refine x_iadd dL_law_1000 ?_
  refine x_rei (nI (i + 3)) (nI_addc i 3 rfl) ?_
  refine x_sald dL_law_1001 hX hsz hA (i + 3) rfl (by omega) (by omega) ?_
  refine x_callJ (As := [.int (xs (i + 1)), .int (xs (i + 2)), .int (xs (i + 3))]) (st := v1.toList ++ []) (wa := wM) (wb := w1) dL_law_1002 ml_L_146 mX9_sheet cM rfl hm0 rfl rfl (cat8 v1) (by omega) (Nat.le_of_ble_eq_true rfl) (Nat.le_of_ble_eq_true rfl) (fun v2 w2 h2 => ?_)
  obtain ⟨rfl, rfl, hR2⟩ := hj v1 w1 v2 w2 h1 h2
  obtain ⟨r, rfl⟩ : ∃ r, v = .int r := hv.elim (fun q => q.2) (fun q => absurd q.1 (by decide))
  refine x_icmp_eq dL_law_1005 (fun _ => ?_) (fun c => absurd rfl c)
  exact hgo w1 w2 hR2

set_option maxRecDepth 100000 in
set_option maxHeartbeats 4000000 in
theorem lw_c32 (hX : va_X sc L xs (ks κ) (ks κ).heap) (hsz : sc < (ks κ).heap.size) (hA : ¬ kA κ sc) (hL : L ≤ 384) (hi : i + 6 ≤ L) (hR : Rel g a b wX wM) (hgo : ∀ w1 w2, Rel g a b w1 w2 → Xs κ g 1312 600000 7302250 cL_law yL_law ret Q 72 23970 1278 [some (.ref sc), some (.ref (a 0)), some (.ref (b 0)), some (.int (nI i))] [] (w1 ++ w2)) : Xs κ g 1312 600000 7302250 cL_law yL_law ret Q 72 23970 1010 [some (.ref sc), some (.ref (a 0)), some (.ref (b 0)), some (.int (nI i))] [] (wX ++ wM) := by
  obtain ⟨fx, hx0⟩ := rel_x0 hR
  obtain ⟨fm, hm0⟩ := rel_n0 hR
  obtain ⟨v, kx, kn, PX, PM, hkx, hkn, hv, cX, cM, hj⟩ := pm_write κ.2.1 g a b hR (xs (i + 1)) (xs (i + 2)) (((xs (i + 3)).toInt64 <<< ((32 : Int32).toInt64 &&& 63)) ||| (((xs (i + 4)).toInt64) &&& (4294967295)))
  refine x_aload_n dL_law_1010 rfl ?_
  refine x_aload_n dL_law_1011 rfl ?_
  refine x_iload_n dL_law_1012 rfl ?_
  refine x_iconst 1 dL_law_1013 (by decide) ?_
  refine x_iadd dL_law_1014 ?_
  refine x_rei (nI (i + 1)) (nI_addc i 1 rfl) ?_
  refine x_sald dL_law_1015 hX hsz hA (i + 1) rfl (by omega) (by omega) ?_
  refine x_aload_n dL_law_1016 rfl ?_
  refine x_iload_n dL_law_1017 rfl ?_
  refine x_iconst 2 dL_law_1018 (by decide) ?_
  refine x_iadd dL_law_1019 ?_
  refine x_rei (nI (i + 2)) (nI_addc i 2 rfl) ?_
  refine x_sald dL_law_1020 hX hsz hA (i + 2) rfl (by omega) (by omega) ?_
  refine x_aload_n dL_law_1021 rfl ?_
  refine x_iload_n dL_law_1022 rfl ?_
  refine x_iconst 3 dL_law_1023 (by decide) ?_
  refine x_iadd dL_law_1024 ?_
  refine x_rei (nI (i + 3)) (nI_addc i 3 rfl) ?_
  refine x_sald dL_law_1025 hX hsz hA (i + 3) rfl (by omega) (by omega) ?_
  refine x_i2l dL_law_1026 ?_
  refine x_bipush 32 dL_law_1027 (by decide) ?_
  refine x_lshl dL_law_1029 ?_
  refine x_aload_n dL_law_1030 rfl ?_
  refine x_iload_n dL_law_1031 rfl ?_
  refine x_iconst 4 dL_law_1032 (by decide) ?_
  refine x_iadd dL_law_1033 ?_
  refine x_rei (nI (i + 4)) (nI_addc i 4 rfl) ?_
  refine x_sald dL_law_1034 hX hsz hA (i + 4) rfl (by omega) (by omega) ?_
  refine x_i2l dL_law_1035 ?_
  refine x_ldc2 dL_law_1036 kl_L_147 ?_
  refine x_land dL_law_1039 ?_
  refine x_lor dL_law_1040 ?_
  refine x_callJ (As := [.int (xs (i + 1)), .int (xs (i + 2)), .long (((xs (i + 3)).toInt64 <<< ((32 : Int32).toInt64 &&& 63)) ||| (((xs (i + 4)).toInt64) &&& (4294967295)))]) (st := []) (wa := wX) (wb := wM) dL_law_1041 ml_L_149 mX8_write cX rfl hx0 rfl rfl (by decide) (by omega) (Nat.le_of_ble_eq_true rfl) (Nat.le_of_ble_eq_true rfl) (fun v1 w1 h1 => ?_)
  refine x_aload_n dL_law_1044 rfl ?_
  refine x_aload_n dL_law_1045 rfl ?_
  refine x_iload_n dL_law_1046 rfl ?_
  refine x_iconst 1 dL_law_1047 (by decide) ?_
  refine x_iadd dL_law_1048 ?_
  refine x_rei (nI (i + 1)) (nI_addc i 1 rfl) ?_
  refine x_sald dL_law_1049 hX hsz hA (i + 1) rfl (by omega) (by omega) ?_
  refine x_aload_n dL_law_1050 rfl ?_
  refine x_iload_n dL_law_1051 rfl ?_
  refine x_iconst 2 dL_law_1052 (by decide) ?_
  refine x_iadd dL_law_1053 ?_
  refine x_rei (nI (i + 2)) (nI_addc i 2 rfl) ?_
  refine x_sald dL_law_1054 hX hsz hA (i + 2) rfl (by omega) (by omega) ?_
  refine x_aload_n dL_law_1055 rfl ?_
  refine x_iload_n dL_law_1056 rfl ?_
  refine x_iconst 3 dL_law_1057 (by decide) ?_
  refine x_iadd dL_law_1058 ?_
  refine x_rei (nI (i + 3)) (nI_addc i 3 rfl) ?_
  refine x_sald dL_law_1059 hX hsz hA (i + 3) rfl (by omega) (by omega) ?_
  refine x_i2l dL_law_1060 ?_
  refine x_bipush 32 dL_law_1061 (by decide) ?_
  refine x_lshl dL_law_1063 ?_
  refine x_aload_n dL_law_1064 rfl ?_
  refine x_iload_n dL_law_1065 rfl ?_
  refine x_iconst 4 dL_law_1066 (by decide) ?_
  refine x_iadd dL_law_1067 ?_
  refine x_rei (nI (i + 4)) (nI_addc i 4 rfl) ?_
  refine x_sald dL_law_1068 hX hsz hA (i + 4) rfl (by omega) (by omega) ?_
  refine x_i2l dL_law_1069 ?_
  refine x_ldc2 dL_law_1070 kl_L_147 ?_
  refine x_land dL_law_1073 ?_
  refine x_lor dL_law_1074 ?_
  refine x_callJ (As := [.int (xs (i + 1)), .int (xs (i + 2)), .long (((xs (i + 3)).toInt64 <<< ((32 : Int32).toInt64 &&& 63)) ||| (((xs (i + 4)).toInt64) &&& (4294967295)))]) (st := v1.toList ++ []) (wa := wM) (wb := w1) dL_law_1075 ml_L_153 mX9_write cM rfl hm0 rfl rfl (cat8 v1) (by omega) (Nat.le_of_ble_eq_true rfl) (Nat.le_of_ble_eq_true rfl) (fun v2 w2 h2 => ?_)
  obtain ⟨rfl, rfl, hR2⟩ := hj v1 w1 v2 w2 h1 h2
  obtain ⟨r, rfl⟩ : ∃ r, v = .long r := hv.elim (fun q => absurd q.1 (by decide)) (fun q => q.2)
  refine x_lcmp dL_law_1078 ?_
  refine x_rei 0 (lg_self r) ?_
  refine x_if_eq dL_law_1079 (fun _ => ?_) (fun c => absurd rfl c)
  exact hgo w1 w2 hR2

set_option maxRecDepth 100000 in
set_option maxHeartbeats 4000000 in
theorem lw_c33 (hX : va_X sc L xs (ks κ) (ks κ).heap) (hsz : sc < (ks κ).heap.size) (hA : ¬ kA κ sc) (hL : L ≤ 384) (hi : i + 6 ≤ L) (hR : Rel g a b wX wM) (hgo : ∀ w1 w2, Rel g a b w1 w2 → Xs κ g 1312 600000 7302250 cL_law yL_law ret Q 72 23970 1278 [some (.ref sc), some (.ref (a 0)), some (.ref (b 0)), some (.int (nI i))] [] (w1 ++ w2)) : Xs κ g 1312 600000 7302250 cL_law yL_law ret Q 72 23970 1084 [some (.ref sc), some (.ref (a 0)), some (.ref (b 0)), some (.int (nI i))] [] (wX ++ wM) := by
  obtain ⟨fx, hx0⟩ := rel_x0 hR
  obtain ⟨fm, hm0⟩ := rel_n0 hR
  obtain ⟨v, kx, kn, PX, PM, hkx, hkn, hv, cX, cM, hj⟩ := pm_copy κ.2.1 g a b hR (xs (i + 1)) (xs (i + 2)) (xs (i + 3)) (xs (i + 4)) (xs (i + 5))
  refine x_aload_n dL_law_1084 rfl ?_
  refine x_aload_n dL_law_1085 rfl ?_
  refine x_iload_n dL_law_1086 rfl ?_
  refine x_iconst 1 dL_law_1087 (by decide) ?_
  refine x_iadd dL_law_1088 ?_
  refine x_rei (nI (i + 1)) (nI_addc i 1 rfl) ?_
  refine x_sald dL_law_1089 hX hsz hA (i + 1) rfl (by omega) (by omega) ?_
  refine x_aload_n dL_law_1090 rfl ?_
  refine x_iload_n dL_law_1091 rfl ?_
  refine x_iconst 2 dL_law_1092 (by decide) ?_
  refine x_iadd dL_law_1093 ?_
  refine x_rei (nI (i + 2)) (nI_addc i 2 rfl) ?_
  refine x_sald dL_law_1094 hX hsz hA (i + 2) rfl (by omega) (by omega) ?_
  refine x_aload_n dL_law_1095 rfl ?_
  refine x_iload_n dL_law_1096 rfl ?_
  refine x_iconst 3 dL_law_1097 (by decide) ?_
  refine x_iadd dL_law_1098 ?_
  refine x_rei (nI (i + 3)) (nI_addc i 3 rfl) ?_
  refine x_sald dL_law_1099 hX hsz hA (i + 3) rfl (by omega) (by omega) ?_
  refine x_aload_n dL_law_1100 rfl ?_
  refine x_iload_n dL_law_1101 rfl ?_
  refine x_iconst 4 dL_law_1102 (by decide) ?_
  refine x_iadd dL_law_1103 ?_
  refine x_rei (nI (i + 4)) (nI_addc i 4 rfl) ?_
  refine x_sald dL_law_1104 hX hsz hA (i + 4) rfl (by omega) (by omega) ?_
  refine x_aload_n dL_law_1105 rfl ?_
  refine x_iload_n dL_law_1106 rfl ?_
  refine x_iconst 5 dL_law_1107 (by decide) ?_
  refine x_iadd dL_law_1108 ?_
  refine x_rei (nI (i + 5)) (nI_addc i 5 rfl) ?_
  refine x_sald dL_law_1109 hX hsz hA (i + 5) rfl (by omega) (by omega) ?_
  refine x_callJ (As := [.int (xs (i + 1)), .int (xs (i + 2)), .int (xs (i + 3)), .int (xs (i + 4)), .int (xs (i + 5))]) (st := []) (wa := wX) (wb := wM) dL_law_1110 ml_L_154 mX8_copy cX rfl hx0 rfl rfl (by decide) (by omega) (Nat.le_of_ble_eq_true rfl) (Nat.le_of_ble_eq_true rfl) (fun v1 w1 h1 => ?_)
  refine x_aload_n dL_law_1113 rfl ?_
  refine x_aload_n dL_law_1114 rfl ?_
  refine x_iload_n dL_law_1115 rfl ?_
  refine x_iconst 1 dL_law_1116 (by decide) ?_
  refine x_iadd dL_law_1117 ?_
  refine x_rei (nI (i + 1)) (nI_addc i 1 rfl) ?_
  refine x_sald dL_law_1118 hX hsz hA (i + 1) rfl (by omega) (by omega) ?_
  refine x_aload_n dL_law_1119 rfl ?_
  refine x_iload_n dL_law_1120 rfl ?_
  refine x_iconst 2 dL_law_1121 (by decide) ?_
  refine x_iadd dL_law_1122 ?_
  refine x_rei (nI (i + 2)) (nI_addc i 2 rfl) ?_
  refine x_sald dL_law_1123 hX hsz hA (i + 2) rfl (by omega) (by omega) ?_
  refine x_aload_n dL_law_1124 rfl ?_
  refine x_iload_n dL_law_1125 rfl ?_
  refine x_iconst 3 dL_law_1126 (by decide) ?_
  refine x_iadd dL_law_1127 ?_
  refine x_rei (nI (i + 3)) (nI_addc i 3 rfl) ?_
  refine x_sald dL_law_1128 hX hsz hA (i + 3) rfl (by omega) (by omega) ?_
  refine x_aload_n dL_law_1129 rfl ?_
  refine x_iload_n dL_law_1130 rfl ?_
  refine x_iconst 4 dL_law_1131 (by decide) ?_
  refine x_iadd dL_law_1132 ?_
  refine x_rei (nI (i + 4)) (nI_addc i 4 rfl) ?_
  refine x_sald dL_law_1133 hX hsz hA (i + 4) rfl (by omega) (by omega) ?_
  refine x_aload_n dL_law_1134 rfl ?_
  refine x_iload_n dL_law_1135 rfl ?_
  refine x_iconst 5 dL_law_1136 (by decide) ?_
  refine x_iadd dL_law_1137 ?_
  refine x_rei (nI (i + 5)) (nI_addc i 5 rfl) ?_
  refine x_sald dL_law_1138 hX hsz hA (i + 5) rfl (by omega) (by omega) ?_
  refine x_callJ (As := [.int (xs (i + 1)), .int (xs (i + 2)), .int (xs (i + 3)), .int (xs (i + 4)), .int (xs (i + 5))]) (st := v1.toList ++ []) (wa := wM) (wb := w1) dL_law_1139 ml_L_158 mX9_copy cM rfl hm0 rfl rfl (cat8 v1) (by omega) (Nat.le_of_ble_eq_true rfl) (Nat.le_of_ble_eq_true rfl) (fun v2 w2 h2 => ?_)
  obtain ⟨rfl, rfl, hR2⟩ := hj v1 w1 v2 w2 h1 h2
  obtain ⟨r, rfl⟩ : ∃ r, v = .int r := hv.elim (fun q => q.2) (fun q => absurd q.1 (by decide))
  refine x_icmp_eq dL_law_1142 (fun _ => ?_) (fun c => absurd rfl c)
  exact hgo w1 w2 hR2

set_option maxRecDepth 100000 in
set_option maxHeartbeats 4000000 in
theorem lw_c34 (hX : va_X sc L xs (ks κ) (ks κ).heap) (hsz : sc < (ks κ).heap.size) (hA : ¬ kA κ sc) (hL : L ≤ 384) (hi : i + 6 ≤ L) (hR : Rel g a b wX wM) (hgo : ∀ w1 w2, Rel g a b w1 w2 → Xs κ g 1312 600000 7302250 cL_law yL_law ret Q 72 23970 1278 [some (.ref sc), some (.ref (a 0)), some (.ref (b 0)), some (.int (nI i))] [] (w1 ++ w2)) : Xs κ g 1312 600000 7302250 cL_law yL_law ret Q 72 23970 1147 [some (.ref sc), some (.ref (a 0)), some (.ref (b 0)), some (.int (nI i))] [] (wX ++ wM) := by
  obtain ⟨fx, hx0⟩ := rel_x0 hR
  obtain ⟨fm, hm0⟩ := rel_n0 hR
  obtain ⟨v, kx, kn, PX, PM, hkx, hkn, hv, cX, cM, hj⟩ := pm_weeks κ.2.1 g a b hR (xs (i + 1))
  refine x_aload_n dL_law_1147 rfl ?_
  refine x_aload_n dL_law_1148 rfl ?_
  refine x_iload_n dL_law_1149 rfl ?_
  refine x_iconst 1 dL_law_1150 (by decide) ?_
  refine x_iadd dL_law_1151 ?_
  refine x_rei (nI (i + 1)) (nI_addc i 1 rfl) ?_
  refine x_sald dL_law_1152 hX hsz hA (i + 1) rfl (by omega) (by omega) ?_
  refine x_callJ (As := [.int (xs (i + 1))]) (st := []) (wa := wX) (wb := wM) dL_law_1153 ml_L_159 mX8_weeks cX rfl hx0 rfl rfl (by decide) (by omega) (Nat.le_of_ble_eq_true rfl) (Nat.le_of_ble_eq_true rfl) (fun v1 w1 h1 => ?_)
  refine x_aload_n dL_law_1156 rfl ?_
  refine x_aload_n dL_law_1157 rfl ?_
  refine x_iload_n dL_law_1158 rfl ?_
  refine x_iconst 1 dL_law_1159 (by decide) ?_
  refine x_iadd dL_law_1160 ?_
  refine x_rei (nI (i + 1)) (nI_addc i 1 rfl) ?_
  refine x_sald dL_law_1161 hX hsz hA (i + 1) rfl (by omega) (by omega) ?_
  refine x_callJ (As := [.int (xs (i + 1))]) (st := v1.toList ++ []) (wa := wM) (wb := w1) dL_law_1162 ml_L_162 mX9_weeks cM rfl hm0 rfl rfl (cat8 v1) (by omega) (Nat.le_of_ble_eq_true rfl) (Nat.le_of_ble_eq_true rfl) (fun v2 w2 h2 => ?_)
  obtain ⟨rfl, rfl, hR2⟩ := hj v1 w1 v2 w2 h1 h2
  obtain ⟨r, rfl⟩ : ∃ r, v = .int r := hv.elim (fun q => q.2) (fun q => absurd q.1 (by decide))
  refine x_icmp_eq dL_law_1165 (fun _ => ?_) (fun c => absurd rfl c)
  exact hgo w1 w2 hR2

set_option maxRecDepth 100000 in
set_option maxHeartbeats 4000000 in
theorem lw_c35 (hX : va_X sc L xs (ks κ) (ks κ).heap) (hsz : sc < (ks κ).heap.size) (hA : ¬ kA κ sc) (hL : L ≤ 384) (hi : i + 6 ≤ L) (hR : Rel g a b wX wM) (hgo : ∀ w1 w2, Rel g a b w1 w2 → Xs κ g 1312 600000 7302250 cL_law yL_law ret Q 72 23970 1278 [some (.ref sc), some (.ref (a 0)), some (.ref (b 0)), some (.int (nI i))] [] (w1 ++ w2)) : Xs κ g 1312 600000 7302250 cL_law yL_law ret Q 72 23970 1170 [some (.ref sc), some (.ref (a 0)), some (.ref (b 0)), some (.int (nI i))] [] (wX ++ wM) := by
  obtain ⟨fx, hx0⟩ := rel_x0 hR
  obtain ⟨fm, hm0⟩ := rel_n0 hR
  obtain ⟨v, kx, kn, PX, PM, hkx, hkn, hv, cX, cM, hj⟩ := pm_read κ.2.1 g a b hR (xs (i + 1))
  refine x_aload_n dL_law_1170 rfl ?_
  refine x_aload_n dL_law_1171 rfl ?_
  refine x_iload_n dL_law_1172 rfl ?_
  refine x_iconst 1 dL_law_1173 (by decide) ?_
  refine x_iadd dL_law_1174 ?_
  refine x_rei (nI (i + 1)) (nI_addc i 1 rfl) ?_
  refine x_sald dL_law_1175 hX hsz hA (i + 1) rfl (by omega) (by omega) ?_
  refine x_callJ (As := [.int (xs (i + 1))]) (st := []) (wa := wX) (wb := wM) dL_law_1176 ml_L_163 mX8_read cX rfl hx0 rfl rfl (by decide) (by omega) (Nat.le_of_ble_eq_true rfl) (Nat.le_of_ble_eq_true rfl) (fun v1 w1 h1 => ?_)
  refine x_aload_n dL_law_1179 rfl ?_
  refine x_aload_n dL_law_1180 rfl ?_
  refine x_iload_n dL_law_1181 rfl ?_
  refine x_iconst 1 dL_law_1182 (by decide) ?_
  refine x_iadd dL_law_1183 ?_
  refine x_rei (nI (i + 1)) (nI_addc i 1 rfl) ?_
  refine x_sald dL_law_1184 hX hsz hA (i + 1) rfl (by omega) (by omega) ?_
  refine x_callJ (As := [.int (xs (i + 1))]) (st := v1.toList ++ []) (wa := wM) (wb := w1) dL_law_1185 ml_L_166 mX9_read cM rfl hm0 rfl rfl (cat8 v1) (by omega) (Nat.le_of_ble_eq_true rfl) (Nat.le_of_ble_eq_true rfl) (fun v2 w2 h2 => ?_)
  obtain ⟨rfl, rfl, hR2⟩ := hj v1 w1 v2 w2 h1 h2
  obtain ⟨r, rfl⟩ : ∃ r, v = .int r := hv.elim (fun q => q.2) (fun q => absurd q.1 (by decide))
  refine x_icmp_eq dL_law_1188 (fun _ => ?_) (fun c => absurd rfl c)
  exact hgo w1 w2 hR2

set_option maxRecDepth 100000 in
set_option maxHeartbeats 4000000 in
theorem lw_c36 (hX : va_X sc L xs (ks κ) (ks κ).heap) (hsz : sc < (ks κ).heap.size) (hA : ¬ kA κ sc) (hL : L ≤ 384) (hi : i + 6 ≤ L) (hR : Rel g a b wX wM) (hgo : ∀ w1 w2, Rel g a b w1 w2 → Xs κ g 1312 600000 7302250 cL_law yL_law ret Q 72 23970 1278 [some (.ref sc), some (.ref (a 0)), some (.ref (b 0)), some (.int (nI i))] [] (w1 ++ w2)) : Xs κ g 1312 600000 7302250 cL_law yL_law ret Q 72 23970 1193 [some (.ref sc), some (.ref (a 0)), some (.ref (b 0)), some (.int (nI i))] [] (wX ++ wM) := by
  obtain ⟨fx, hx0⟩ := rel_x0 hR
  obtain ⟨fm, hm0⟩ := rel_n0 hR
  obtain ⟨v, kx, kn, PX, PM, hkx, hkn, hv, cX, cM, hj⟩ := pm_image κ.2.1 g a b hR 
  refine x_aload_n dL_law_1193 rfl ?_
  refine x_callJ (As := []) (st := []) (wa := wX) (wb := wM) dL_law_1194 ml_L_167 mX8_image cX rfl hx0 rfl rfl (by decide) (by omega) (Nat.le_of_ble_eq_true rfl) (Nat.le_of_ble_eq_true rfl) (fun v1 w1 h1 => ?_)
  refine x_aload_n dL_law_1197 rfl ?_
  refine x_callJ (As := []) (st := v1.toList ++ []) (wa := wM) (wb := w1) dL_law_1198 ml_L_170 mX9_image cM rfl hm0 rfl rfl (cat8 v1) (by omega) (Nat.le_of_ble_eq_true rfl) (Nat.le_of_ble_eq_true rfl) (fun v2 w2 h2 => ?_)
  obtain ⟨rfl, rfl, hR2⟩ := hj v1 w1 v2 w2 h1 h2
  obtain ⟨r, rfl⟩ : ∃ r, v = .int r := hv.elim (fun q => q.2) (fun q => absurd q.1 (by decide))
  refine x_icmp_eq dL_law_1201 (fun _ => ?_) (fun c => absurd rfl c)
  exact hgo w1 w2 hR2

set_option maxRecDepth 100000 in
set_option maxHeartbeats 4000000 in
theorem lw_c37 (hX : va_X sc L xs (ks κ) (ks κ).heap) (hsz : sc < (ks κ).heap.size) (hA : ¬ kA κ sc) (hL : L ≤ 384) (hi : i + 6 ≤ L) (hR : Rel g a b wX wM) (hgo : ∀ w1 w2, Rel g a b w1 w2 → Xs κ g 1312 600000 7302250 cL_law yL_law ret Q 72 23970 1278 [some (.ref sc), some (.ref (a 0)), some (.ref (b 0)), some (.int (nI i))] [] (w1 ++ w2)) : Xs κ g 1312 600000 7302250 cL_law yL_law ret Q 72 23970 1206 [some (.ref sc), some (.ref (a 0)), some (.ref (b 0)), some (.int (nI i))] [] (wX ++ wM) := by
  obtain ⟨fx, hx0⟩ := rel_x0 hR
  obtain ⟨fm, hm0⟩ := rel_n0 hR
  obtain ⟨v, kx, kn, PX, PM, hkx, hkn, hv, cX, cM, hj⟩ := pm_undo κ.2.1 g a b hR 
  refine x_aload_n dL_law_1206 rfl ?_
  refine x_callJ (As := []) (st := []) (wa := wX) (wb := wM) dL_law_1207 ml_L_171 mX8_undo cX rfl hx0 rfl rfl (by decide) (by omega) (Nat.le_of_ble_eq_true rfl) (Nat.le_of_ble_eq_true rfl) (fun v1 w1 h1 => ?_)
  refine x_aload_n dL_law_1210 rfl ?_
  refine x_callJ (As := []) (st := v1.toList ++ []) (wa := wM) (wb := w1) dL_law_1211 ml_L_174 mX9_undo cM rfl hm0 rfl rfl (cat8 v1) (by omega) (Nat.le_of_ble_eq_true rfl) (Nat.le_of_ble_eq_true rfl) (fun v2 w2 h2 => ?_)
  obtain ⟨rfl, rfl, hR2⟩ := hj v1 w1 v2 w2 h1 h2
  obtain ⟨r, rfl⟩ : ∃ r, v = .int r := hv.elim (fun q => q.2) (fun q => absurd q.1 (by decide))
  refine x_icmp_eq dL_law_1214 (fun _ => ?_) (fun c => absurd rfl c)
  exact hgo w1 w2 hR2

set_option maxRecDepth 100000 in
set_option maxHeartbeats 4000000 in
theorem lw_c38 (hX : va_X sc L xs (ks κ) (ks κ).heap) (hsz : sc < (ks κ).heap.size) (hA : ¬ kA κ sc) (hL : L ≤ 384) (hi : i + 6 ≤ L) (hR : Rel g a b wX wM) (hgo : ∀ w1 w2, Rel g a b w1 w2 → Xs κ g 1312 600000 7302250 cL_law yL_law ret Q 72 23970 1278 [some (.ref sc), some (.ref (a 0)), some (.ref (b 0)), some (.int (nI i))] [] (w1 ++ w2)) : Xs κ g 1312 600000 7302250 cL_law yL_law ret Q 72 23970 1219 [some (.ref sc), some (.ref (a 0)), some (.ref (b 0)), some (.int (nI i))] [] (wX ++ wM) := by
  obtain ⟨fx, hx0⟩ := rel_x0 hR
  obtain ⟨fm, hm0⟩ := rel_n0 hR
  obtain ⟨v, kx, kn, PX, PM, hkx, hkn, hv, cX, cM, hj⟩ := pm_tear κ.2.1 g a b hR 
  refine x_aload_n dL_law_1219 rfl ?_
  refine x_callJ (As := []) (st := []) (wa := wX) (wb := wM) dL_law_1220 ml_L_175 mX8_tear cX rfl hx0 rfl rfl (by decide) (by omega) (Nat.le_of_ble_eq_true rfl) (Nat.le_of_ble_eq_true rfl) (fun v1 w1 h1 => ?_)
  refine x_aload_n dL_law_1223 rfl ?_
  refine x_callJ (As := []) (st := v1.toList ++ []) (wa := wM) (wb := w1) dL_law_1224 ml_L_178 mX9_tear cM rfl hm0 rfl rfl (cat8 v1) (by omega) (Nat.le_of_ble_eq_true rfl) (Nat.le_of_ble_eq_true rfl) (fun v2 w2 h2 => ?_)
  obtain ⟨rfl, rfl, hR2⟩ := hj v1 w1 v2 w2 h1 h2
  obtain ⟨r, rfl⟩ : ∃ r, v = .int r := hv.elim (fun q => q.2) (fun q => absurd q.1 (by decide))
  refine x_icmp_eq dL_law_1227 (fun _ => ?_) (fun c => absurd rfl c)
  exact hgo w1 w2 hR2

set_option maxRecDepth 100000 in
set_option maxHeartbeats 4000000 in
theorem lw_c39 (hX : va_X sc L xs (ks κ) (ks κ).heap) (hsz : sc < (ks κ).heap.size) (hA : ¬ kA κ sc) (hL : L ≤ 384) (hi : i + 6 ≤ L) (hR : Rel g a b wX wM) (hgo : ∀ w1 w2, Rel g a b w1 w2 → Xs κ g 1312 600000 7302250 cL_law yL_law ret Q 72 23970 1278 [some (.ref sc), some (.ref (a 0)), some (.ref (b 0)), some (.int (nI i))] [] (w1 ++ w2)) : Xs κ g 1312 600000 7302250 cL_law yL_law ret Q 72 23970 1232 [some (.ref sc), some (.ref (a 0)), some (.ref (b 0)), some (.int (nI i))] [] (wX ++ wM) := by
  obtain ⟨fx, hx0⟩ := rel_x0 hR
  obtain ⟨fm, hm0⟩ := rel_n0 hR
  obtain ⟨v, kx, kn, PX, PM, hkx, hkn, hv, cX, cM, hj⟩ := pm_count κ.2.1 g a b hR (xs (i + 1))
  refine x_aload_n dL_law_1232 rfl ?_
  refine x_aload_n dL_law_1233 rfl ?_
  refine x_iload_n dL_law_1234 rfl ?_
  refine x_iconst 1 dL_law_1235 (by decide) ?_
  refine x_iadd dL_law_1236 ?_
  refine x_rei (nI (i + 1)) (nI_addc i 1 rfl) ?_
  refine x_sald dL_law_1237 hX hsz hA (i + 1) rfl (by omega) (by omega) ?_
  refine x_callJ (As := [.int (xs (i + 1))]) (st := []) (wa := wX) (wb := wM) dL_law_1238 ml_L_179 mX8_count cX rfl hx0 rfl rfl (by decide) (by omega) (Nat.le_of_ble_eq_true rfl) (Nat.le_of_ble_eq_true rfl) (fun v1 w1 h1 => ?_)
  refine x_aload_n dL_law_1241 rfl ?_
  refine x_aload_n dL_law_1242 rfl ?_
  refine x_iload_n dL_law_1243 rfl ?_
  refine x_iconst 1 dL_law_1244 (by decide) ?_
  refine x_iadd dL_law_1245 ?_
  refine x_rei (nI (i + 1)) (nI_addc i 1 rfl) ?_
  refine x_sald dL_law_1246 hX hsz hA (i + 1) rfl (by omega) (by omega) ?_
  refine x_callJ (As := [.int (xs (i + 1))]) (st := v1.toList ++ []) (wa := wM) (wb := w1) dL_law_1247 ml_L_182 mX9_count cM rfl hm0 rfl rfl (cat8 v1) (by omega) (Nat.le_of_ble_eq_true rfl) (Nat.le_of_ble_eq_true rfl) (fun v2 w2 h2 => ?_)
  obtain ⟨rfl, rfl, hR2⟩ := hj v1 w1 v2 w2 h1 h2
  obtain ⟨r, rfl⟩ : ∃ r, v = .int r := hv.elim (fun q => q.2) (fun q => absurd q.1 (by decide))
  refine x_icmp_eq dL_law_1250 (fun _ => ?_) (fun c => absurd rfl c)
  exact hgo w1 w2 hR2

set_option maxRecDepth 100000 in
set_option maxHeartbeats 4000000 in
theorem lw_c40 (hX : va_X sc L xs (ks κ) (ks κ).heap) (hsz : sc < (ks κ).heap.size) (hA : ¬ kA κ sc) (hL : L ≤ 384) (hi : i + 6 ≤ L) (hR : Rel g a b wX wM) (hgo : ∀ w1 w2, Rel g a b w1 w2 → Xs κ g 1312 600000 7302250 cL_law yL_law ret Q 72 23970 1278 [some (.ref sc), some (.ref (a 0)), some (.ref (b 0)), some (.int (nI i))] [] (w1 ++ w2)) : Xs κ g 1312 600000 7302250 cL_law yL_law ret Q 72 23970 1255 [some (.ref sc), some (.ref (a 0)), some (.ref (b 0)), some (.int (nI i))] [] (wX ++ wM) := by
  obtain ⟨fx, hx0⟩ := rel_x0 hR
  obtain ⟨fm, hm0⟩ := rel_n0 hR
  obtain ⟨v, kx, kn, PX, PM, hkx, hkn, hv, cX, cM, hj⟩ := pm_status κ.2.1 g a b hR (xs (i + 1))
  refine x_aload_n dL_law_1255 rfl ?_
  refine x_aload_n dL_law_1256 rfl ?_
  refine x_iload_n dL_law_1257 rfl ?_
  refine x_iconst 1 dL_law_1258 (by decide) ?_
  refine x_iadd dL_law_1259 ?_
  refine x_rei (nI (i + 1)) (nI_addc i 1 rfl) ?_
  refine x_sald dL_law_1260 hX hsz hA (i + 1) rfl (by omega) (by omega) ?_
  refine x_callJ (As := [.int (xs (i + 1))]) (st := []) (wa := wX) (wb := wM) dL_law_1261 ml_L_183 mX8_status cX rfl hx0 rfl rfl (by decide) (by omega) (Nat.le_of_ble_eq_true rfl) (Nat.le_of_ble_eq_true rfl) (fun v1 w1 h1 => ?_)
  refine x_aload_n dL_law_1264 rfl ?_
  refine x_aload_n dL_law_1265 rfl ?_
  refine x_iload_n dL_law_1266 rfl ?_
  refine x_iconst 1 dL_law_1267 (by decide) ?_
  refine x_iadd dL_law_1268 ?_
  refine x_rei (nI (i + 1)) (nI_addc i 1 rfl) ?_
  refine x_sald dL_law_1269 hX hsz hA (i + 1) rfl (by omega) (by omega) ?_
  refine x_callJ (As := [.int (xs (i + 1))]) (st := v1.toList ++ []) (wa := wM) (wb := w1) dL_law_1270 ml_L_186 mX9_status cM rfl hm0 rfl rfl (cat8 v1) (by omega) (Nat.le_of_ble_eq_true rfl) (Nat.le_of_ble_eq_true rfl) (fun v2 w2 h2 => ?_)
  obtain ⟨rfl, rfl, hR2⟩ := hj v1 w1 v2 w2 h1 h2
  obtain ⟨r, rfl⟩ : ∃ r, v = .int r := hv.elim (fun q => q.2) (fun q => absurd q.1 (by decide))
  refine x_icmp_eq dL_law_1273 (fun _ => ?_) (fun c => absurd rfl c)
  exact hgo w1 w2 hR2
end LC
