/-! the law's cases -/
set_option maxHeartbeats 4000000 in
set_option maxRecDepth 100000 in
theorem cs_26 {g : zG} {ad : Int → Nat} {p : Program} {l : Launch} {e : Env} {R : Room} {s : State} {m : MethodId} {below : List Frame} {meth : Method} {c : Code} {Q : State → Prop} {b L : Nat} {xs : Nat → Int32} {H : Heap} {locs : List Loc} {cells slots : Nat} {ls : Array Slot} {M F : zMem} {t d i : Int} (C0 : zC g (fun q => s.heap.size ≤ q) p s m #[.ref b] c cL_law 9 "DrumWarrenLaw") (hX : va_X b L xs s s.heap) (hbl : b < s.heap.size) (hL : L ≤ 2048) (hst : l.stackTraces = false) (hR : 100 ≤ R.frames ∧ 10000 ≤ R.locals) (hf : cells + 3 ≤ R.cells ∧ slots + 18 ≤ R.slots) (Wd : zW g (fun q => s.heap.size ≤ q) s.heap 410 ad M F H locs) (hl : lv_has ls 9 [(5, .int (zI i)), (0, .ref b), (1, .ref (ad 0)), (2, .ref (ad 398)), (3, .ref (ad 408)), (4, .ref (ad 409))]) (h : zCR t d M F) (ht : t ≤ 50000000) (hd : d ≤ 9000) (i0 : 0 ≤ i) (i4 : i + 4 ≤ (L : Int)) (kk : ∀ (M' F' : zMem) (H1 : Heap) (locs1 : List Loc) (ls1 : Array Slot) (c1 s1 : Nat), zCR (t + 7000) (d + 9) M' F' → zW g (fun q => s.heap.size ≤ q) s.heap 410 ad M' F' H1 locs1 → lv_has ls1 9 [(5, .int (zI i)), (0, .ref b), (1, .ref (ad 0)), (2, .ref (ad 398)), (3, .ref (ad 408)), (4, .ref (ad 409))] → c1 ≤ cells + 3 → s1 ≤ slots + 18 → W p l e R s m #[.ref b] below meth c H1 locs1 c1 s1 Q (F0 m 2902 ls1 [])) : W p l e R s m #[.ref b] below meth c H locs cells slots Q (F0 m 1743 ls []) := by
  refine z_aload_n C0 hl 2 rfl dL_law_1743 ?_
  refine z_aload_n C0 hl 1 rfl dL_law_1744 ?_
  refine z_iload C0 hl 0 rfl dL_law_1745 ?_
  refine z_iconst C0 dL_law_1747 ?_
  refine z_iadd C0 dL_law_1748 ?_
  refine z_sld C0 Wd hX hbl (Nat.not_le.mpr hbl) (by omega) (by omega) hL dL_law_1749 ?_
  refine z_aload_n C0 hl 4 rfl dL_law_1750 ?_
  obtain ⟨post, hh1, hh2⟩ := lw_state l g ad h ht hd Wd.2 (sx xs (i + 1)) (sx_R _ _)
  refine z_invSH (As := [.ref (ad 0), .int (zI (sx xs (i + 1))), .ref (ad 408)]) (rest := []) C0 Wd hst hh1 hs_state zk_972 rfl hl.1 rfl (Nat.le_of_ble_eq_true rfl) ⟨by omega, by omega⟩ ⟨by omega, by omega⟩ dL_law_1751 (fun k M1 F1 H locs hk hp Wd => ?_)
  refine z_istore C0 hl [(6, .int (zI k)), (5, .int (zI i)), (0, .ref b), (1, .ref (ad 0)), (2, .ref (ad 398)), (3, .ref (ad 408)), (4, .ref (ad 409))] (by decide) rfl dL_law_1754 (fun ls hl => ?_)
  refine z_aload_n C0 hl 4 rfl dL_law_1756 ?_
  refine z_aload_n C0 hl 2 rfl dL_law_1757 ?_
  refine z_iload C0 hl 1 rfl dL_law_1758 ?_
  refine z_iconst C0 dL_law_1760 ?_
  refine z_iadd C0 dL_law_1761 ?_
  refine z_sld C0 Wd hX hbl (Nat.not_le.mpr hbl) (by omega) (by omega) hL dL_law_1762 ?_
  obtain ⟨pm, hm1, hm2⟩ := hh2 k M1 F1 hp Wd.2
  refine z_invAi (As := [.int (zI (sx xs (i + 1)))]) (rest := []) C0 Wd hm1 hm2 kv_X12_state zN398 (zE_9 zK398) rfl zk_1889 rfl hl.1 rfl (Nat.le_of_ble_eq_true rfl) ⟨by omega, by omega⟩ ⟨by omega, by omega⟩ dL_law_1763 (fun bb M2 F2 H locs hbz e8 e9 hcr Wd => ?_)
  refine z_istore C0 hl [(7, .int (zI bb)), (6, .int (zI k)), (5, .int (zI i)), (0, .ref b), (1, .ref (ad 0)), (2, .ref (ad 398)), (3, .ref (ad 408)), (4, .ref (ad 409))] (by decide) rfl dL_law_1766 (fun ls hl => ?_)
  refine z_aload_n C0 hl 5 rfl dL_law_1768 ?_
  refine z_invVi (As := []) (rest := []) C0 Wd (ct_X12_thrown l g ad M2 F2) kv_X12_thrown zN398 (zE_9 zK398) rfl zk_1670 rfl hl.1 rfl (Nat.le_of_ble_eq_true rfl) ⟨by omega, by omega⟩ ⟨by omega, by omega⟩ dL_law_1769 (fun r3 M3 F3 H locs hr3 hp3 Wd => ?_)
  obtain ⟨rfl, rfl, rfl⟩ := hp3
  refine z_iload C0 hl 1 rfl dL_law_1772 ?_
  refine z_icmp_eq C0 (tgt := 1779) hr3 hk dL_law_1774 (by decide) (fun _ => ?_) (fun c9 => absurd e8 c9)
  refine z_iload C0 hl 1 rfl dL_law_1779 ?_
  refine z_if_ne C0 (tgt := 1796) hk dL_law_1781 (by decide) (fun k0 => ?_) (fun k0 => ?_)
  · skip
    refine z_goto C0 (tgt := 2902) dL_law_1796 (by decide) ?_
    exact kk M2 F2 H locs ls _ _ (zCR_up hcr (by omega) (by omega)) Wd (lv_sub hl [2, 3, 4, 5, 6, 7] rfl) (by omega) (by omega)
  · skip
    have e9 := e9 k0
    refine z_aload_n C0 hl 6 rfl dL_law_1784 ?_
    refine z_iconst C0 dL_law_1785 ?_
    refine z_lald C0 Wd zN408 zK408 zL408 (by decide) (by decide) (by decide) dL_law_1786 ?_
    refine z_iload C0 hl 0 rfl dL_law_1787 ?_
    refine z_i2l C0 hbz dL_law_1789 ?_
    refine z_lcmpE C0 e9 dL_law_1790 ?_
    refine z_if_eq C0 (tgt := 1796) (zR_mk (by decide) (by decide)) dL_law_1791 (by decide) (fun _ => ?_) (fun h9 => absurd rfl h9)
    refine z_goto C0 (tgt := 2902) dL_law_1796 (by decide) ?_
    exact kk M2 F2 H locs ls _ _ (zCR_up hcr (by omega) (by omega)) Wd (lv_sub hl [2, 3, 4, 5, 6, 7] rfl) (by omega) (by omega)
set_option maxHeartbeats 4000000 in
set_option maxRecDepth 100000 in
theorem cs_27 {g : zG} {ad : Int → Nat} {p : Program} {l : Launch} {e : Env} {R : Room} {s : State} {m : MethodId} {below : List Frame} {meth : Method} {c : Code} {Q : State → Prop} {b L : Nat} {xs : Nat → Int32} {H : Heap} {locs : List Loc} {cells slots : Nat} {ls : Array Slot} {M F : zMem} {t d i : Int} (C0 : zC g (fun q => s.heap.size ≤ q) p s m #[.ref b] c cL_law 9 "DrumWarrenLaw") (hX : va_X b L xs s s.heap) (hbl : b < s.heap.size) (hL : L ≤ 2048) (hst : l.stackTraces = false) (hR : 100 ≤ R.frames ∧ 10000 ≤ R.locals) (hf : cells + 3 ≤ R.cells ∧ slots + 18 ≤ R.slots) (Wd : zW g (fun q => s.heap.size ≤ q) s.heap 410 ad M F H locs) (hl : lv_has ls 9 [(5, .int (zI i)), (0, .ref b), (1, .ref (ad 0)), (2, .ref (ad 398)), (3, .ref (ad 408)), (4, .ref (ad 409))]) (h : zCR t d M F) (ht : t ≤ 50000000) (hd : d ≤ 9000) (i0 : 0 ≤ i) (i4 : i + 4 ≤ (L : Int)) (kk : ∀ (M' F' : zMem) (H1 : Heap) (locs1 : List Loc) (ls1 : Array Slot) (c1 s1 : Nat), zCR (t + 7000) (d + 9) M' F' → zW g (fun q => s.heap.size ≤ q) s.heap 410 ad M' F' H1 locs1 → lv_has ls1 9 [(5, .int (zI i)), (0, .ref b), (1, .ref (ad 0)), (2, .ref (ad 398)), (3, .ref (ad 408)), (4, .ref (ad 409))] → c1 ≤ cells + 3 → s1 ≤ slots + 18 → W p l e R s m #[.ref b] below meth c H1 locs1 c1 s1 Q (F0 m 2902 ls1 [])) : W p l e R s m #[.ref b] below meth c H locs cells slots Q (F0 m 1799 ls []) := by
  refine z_aload_n C0 hl 2 rfl dL_law_1799 ?_
  refine z_aload_n C0 hl 1 rfl dL_law_1800 ?_
  refine z_iload C0 hl 0 rfl dL_law_1801 ?_
  refine z_iconst C0 dL_law_1803 ?_
  refine z_iadd C0 dL_law_1804 ?_
  refine z_sld C0 Wd hX hbl (Nat.not_le.mpr hbl) (by omega) (by omega) hL dL_law_1805 ?_
  refine z_aload_n C0 hl 4 rfl dL_law_1806 ?_
  obtain ⟨post, hh1, hh2⟩ := lw_timesLost l g ad h ht hd Wd.2 (sx xs (i + 1)) (sx_R _ _)
  refine z_invSH (As := [.ref (ad 0), .int (zI (sx xs (i + 1))), .ref (ad 408)]) (rest := []) C0 Wd hst hh1 hs_timesLost zk_979 rfl hl.1 rfl (Nat.le_of_ble_eq_true rfl) ⟨by omega, by omega⟩ ⟨by omega, by omega⟩ dL_law_1807 (fun k M1 F1 H locs hk hp Wd => ?_)
  refine z_istore C0 hl [(6, .int (zI k)), (5, .int (zI i)), (0, .ref b), (1, .ref (ad 0)), (2, .ref (ad 398)), (3, .ref (ad 408)), (4, .ref (ad 409))] (by decide) rfl dL_law_1810 (fun ls hl => ?_)
  refine z_aload_n C0 hl 4 rfl dL_law_1812 ?_
  refine z_aload_n C0 hl 2 rfl dL_law_1813 ?_
  refine z_iload C0 hl 1 rfl dL_law_1814 ?_
  refine z_iconst C0 dL_law_1816 ?_
  refine z_iadd C0 dL_law_1817 ?_
  refine z_sld C0 Wd hX hbl (Nat.not_le.mpr hbl) (by omega) (by omega) hL dL_law_1818 ?_
  obtain ⟨pm, hm1, hm2⟩ := hh2 k M1 F1 hp Wd.2
  refine z_invAi (As := [.int (zI (sx xs (i + 1)))]) (rest := []) C0 Wd hm1 hm2 kv_X12_timesLost zN398 (zE_9 zK398) rfl zk_1893 rfl hl.1 rfl (Nat.le_of_ble_eq_true rfl) ⟨by omega, by omega⟩ ⟨by omega, by omega⟩ dL_law_1819 (fun bb M2 F2 H locs hbz e8 e9 hcr Wd => ?_)
  refine z_istore C0 hl [(7, .int (zI bb)), (6, .int (zI k)), (5, .int (zI i)), (0, .ref b), (1, .ref (ad 0)), (2, .ref (ad 398)), (3, .ref (ad 408)), (4, .ref (ad 409))] (by decide) rfl dL_law_1822 (fun ls hl => ?_)
  refine z_aload_n C0 hl 5 rfl dL_law_1824 ?_
  refine z_invVi (As := []) (rest := []) C0 Wd (ct_X12_thrown l g ad M2 F2) kv_X12_thrown zN398 (zE_9 zK398) rfl zk_1670 rfl hl.1 rfl (Nat.le_of_ble_eq_true rfl) ⟨by omega, by omega⟩ ⟨by omega, by omega⟩ dL_law_1825 (fun r3 M3 F3 H locs hr3 hp3 Wd => ?_)
  obtain ⟨rfl, rfl, rfl⟩ := hp3
  refine z_iload C0 hl 1 rfl dL_law_1828 ?_
  refine z_icmp_eq C0 (tgt := 1835) hr3 hk dL_law_1830 (by decide) (fun _ => ?_) (fun c9 => absurd e8 c9)
  refine z_iload C0 hl 1 rfl dL_law_1835 ?_
  refine z_if_ne C0 (tgt := 1852) hk dL_law_1837 (by decide) (fun k0 => ?_) (fun k0 => ?_)
  · skip
    refine z_goto C0 (tgt := 2902) dL_law_1852 (by decide) ?_
    exact kk M2 F2 H locs ls _ _ (zCR_up hcr (by omega) (by omega)) Wd (lv_sub hl [2, 3, 4, 5, 6, 7] rfl) (by omega) (by omega)
  · skip
    have e9 := e9 k0
    refine z_aload_n C0 hl 6 rfl dL_law_1840 ?_
    refine z_iconst C0 dL_law_1841 ?_
    refine z_lald C0 Wd zN408 zK408 zL408 (by decide) (by decide) (by decide) dL_law_1842 ?_
    refine z_iload C0 hl 0 rfl dL_law_1843 ?_
    refine z_i2l C0 hbz dL_law_1845 ?_
    refine z_lcmpE C0 e9 dL_law_1846 ?_
    refine z_if_eq C0 (tgt := 1852) (zR_mk (by decide) (by decide)) dL_law_1847 (by decide) (fun _ => ?_) (fun h9 => absurd rfl h9)
    refine z_goto C0 (tgt := 2902) dL_law_1852 (by decide) ?_
    exact kk M2 F2 H locs ls _ _ (zCR_up hcr (by omega) (by omega)) Wd (lv_sub hl [2, 3, 4, 5, 6, 7] rfl) (by omega) (by omega)
set_option maxHeartbeats 4000000 in
set_option maxRecDepth 100000 in
theorem cs_28 {g : zG} {ad : Int → Nat} {p : Program} {l : Launch} {e : Env} {R : Room} {s : State} {m : MethodId} {below : List Frame} {meth : Method} {c : Code} {Q : State → Prop} {b L : Nat} {xs : Nat → Int32} {H : Heap} {locs : List Loc} {cells slots : Nat} {ls : Array Slot} {M F : zMem} {t d i : Int} (C0 : zC g (fun q => s.heap.size ≤ q) p s m #[.ref b] c cL_law 9 "DrumWarrenLaw") (hX : va_X b L xs s s.heap) (hbl : b < s.heap.size) (hL : L ≤ 2048) (hst : l.stackTraces = false) (hR : 100 ≤ R.frames ∧ 10000 ≤ R.locals) (hf : cells + 3 ≤ R.cells ∧ slots + 18 ≤ R.slots) (Wd : zW g (fun q => s.heap.size ≤ q) s.heap 410 ad M F H locs) (hl : lv_has ls 9 [(5, .int (zI i)), (0, .ref b), (1, .ref (ad 0)), (2, .ref (ad 398)), (3, .ref (ad 408)), (4, .ref (ad 409))]) (h : zCR t d M F) (ht : t ≤ 50000000) (hd : d ≤ 9000) (i0 : 0 ≤ i) (i4 : i + 4 ≤ (L : Int)) (kk : ∀ (M' F' : zMem) (H1 : Heap) (locs1 : List Loc) (ls1 : Array Slot) (c1 s1 : Nat), zCR (t + 7000) (d + 9) M' F' → zW g (fun q => s.heap.size ≤ q) s.heap 410 ad M' F' H1 locs1 → lv_has ls1 9 [(5, .int (zI i)), (0, .ref b), (1, .ref (ad 0)), (2, .ref (ad 398)), (3, .ref (ad 408)), (4, .ref (ad 409))] → c1 ≤ cells + 3 → s1 ≤ slots + 18 → W p l e R s m #[.ref b] below meth c H1 locs1 c1 s1 Q (F0 m 2902 ls1 [])) : W p l e R s m #[.ref b] below meth c H locs cells slots Q (F0 m 1855 ls []) := by
  refine z_aload_n C0 hl 2 rfl dL_law_1855 ?_
  refine z_aload_n C0 hl 1 rfl dL_law_1856 ?_
  refine z_iload C0 hl 0 rfl dL_law_1857 ?_
  refine z_iconst C0 dL_law_1859 ?_
  refine z_iadd C0 dL_law_1860 ?_
  refine z_sld C0 Wd hX hbl (Nat.not_le.mpr hbl) (by omega) (by omega) hL dL_law_1861 ?_
  refine z_aload_n C0 hl 4 rfl dL_law_1862 ?_
  obtain ⟨post, hh1, hh2⟩ := lw_beatsDrummed l g ad h ht hd Wd.2 (sx xs (i + 1)) (sx_R _ _)
  refine z_invSH (As := [.ref (ad 0), .int (zI (sx xs (i + 1))), .ref (ad 408)]) (rest := []) C0 Wd hst hh1 hs_beatsDrummed zk_986 rfl hl.1 rfl (Nat.le_of_ble_eq_true rfl) ⟨by omega, by omega⟩ ⟨by omega, by omega⟩ dL_law_1863 (fun k M1 F1 H locs hk hp Wd => ?_)
  refine z_istore C0 hl [(6, .int (zI k)), (5, .int (zI i)), (0, .ref b), (1, .ref (ad 0)), (2, .ref (ad 398)), (3, .ref (ad 408)), (4, .ref (ad 409))] (by decide) rfl dL_law_1866 (fun ls hl => ?_)
  refine z_aload_n C0 hl 4 rfl dL_law_1868 ?_
  refine z_aload_n C0 hl 2 rfl dL_law_1869 ?_
  refine z_iload C0 hl 1 rfl dL_law_1870 ?_
  refine z_iconst C0 dL_law_1872 ?_
  refine z_iadd C0 dL_law_1873 ?_
  refine z_sld C0 Wd hX hbl (Nat.not_le.mpr hbl) (by omega) (by omega) hL dL_law_1874 ?_
  obtain ⟨pm, hm1, hm2⟩ := hh2 k M1 F1 hp Wd.2
  refine z_invAi (As := [.int (zI (sx xs (i + 1)))]) (rest := []) C0 Wd hm1 hm2 kv_X12_beatsDrummed zN398 (zE_9 zK398) rfl zk_1897 rfl hl.1 rfl (Nat.le_of_ble_eq_true rfl) ⟨by omega, by omega⟩ ⟨by omega, by omega⟩ dL_law_1875 (fun bb M2 F2 H locs hbz e8 e9 hcr Wd => ?_)
  refine z_istore C0 hl [(7, .int (zI bb)), (6, .int (zI k)), (5, .int (zI i)), (0, .ref b), (1, .ref (ad 0)), (2, .ref (ad 398)), (3, .ref (ad 408)), (4, .ref (ad 409))] (by decide) rfl dL_law_1878 (fun ls hl => ?_)
  refine z_aload_n C0 hl 5 rfl dL_law_1880 ?_
  refine z_invVi (As := []) (rest := []) C0 Wd (ct_X12_thrown l g ad M2 F2) kv_X12_thrown zN398 (zE_9 zK398) rfl zk_1670 rfl hl.1 rfl (Nat.le_of_ble_eq_true rfl) ⟨by omega, by omega⟩ ⟨by omega, by omega⟩ dL_law_1881 (fun r3 M3 F3 H locs hr3 hp3 Wd => ?_)
  obtain ⟨rfl, rfl, rfl⟩ := hp3
  refine z_iload C0 hl 1 rfl dL_law_1884 ?_
  refine z_icmp_eq C0 (tgt := 1891) hr3 hk dL_law_1886 (by decide) (fun _ => ?_) (fun c9 => absurd e8 c9)
  refine z_iload C0 hl 1 rfl dL_law_1891 ?_
  refine z_if_ne C0 (tgt := 1908) hk dL_law_1893 (by decide) (fun k0 => ?_) (fun k0 => ?_)
  · skip
    refine z_goto C0 (tgt := 2902) dL_law_1908 (by decide) ?_
    exact kk M2 F2 H locs ls _ _ (zCR_up hcr (by omega) (by omega)) Wd (lv_sub hl [2, 3, 4, 5, 6, 7] rfl) (by omega) (by omega)
  · skip
    have e9 := e9 k0
    refine z_aload_n C0 hl 6 rfl dL_law_1896 ?_
    refine z_iconst C0 dL_law_1897 ?_
    refine z_lald C0 Wd zN408 zK408 zL408 (by decide) (by decide) (by decide) dL_law_1898 ?_
    refine z_iload C0 hl 0 rfl dL_law_1899 ?_
    refine z_i2l C0 hbz dL_law_1901 ?_
    refine z_lcmpE C0 e9 dL_law_1902 ?_
    refine z_if_eq C0 (tgt := 1908) (zR_mk (by decide) (by decide)) dL_law_1903 (by decide) (fun _ => ?_) (fun h9 => absurd rfl h9)
    refine z_goto C0 (tgt := 2902) dL_law_1908 (by decide) ?_
    exact kk M2 F2 H locs ls _ _ (zCR_up hcr (by omega) (by omega)) Wd (lv_sub hl [2, 3, 4, 5, 6, 7] rfl) (by omega) (by omega)
set_option maxHeartbeats 4000000 in
set_option maxRecDepth 100000 in
theorem cs_29 {g : zG} {ad : Int → Nat} {p : Program} {l : Launch} {e : Env} {R : Room} {s : State} {m : MethodId} {below : List Frame} {meth : Method} {c : Code} {Q : State → Prop} {b L : Nat} {xs : Nat → Int32} {H : Heap} {locs : List Loc} {cells slots : Nat} {ls : Array Slot} {M F : zMem} {t d i : Int} (C0 : zC g (fun q => s.heap.size ≤ q) p s m #[.ref b] c cL_law 9 "DrumWarrenLaw") (hX : va_X b L xs s s.heap) (hbl : b < s.heap.size) (hL : L ≤ 2048) (hst : l.stackTraces = false) (hR : 100 ≤ R.frames ∧ 10000 ≤ R.locals) (hf : cells + 3 ≤ R.cells ∧ slots + 18 ≤ R.slots) (Wd : zW g (fun q => s.heap.size ≤ q) s.heap 410 ad M F H locs) (hl : lv_has ls 9 [(5, .int (zI i)), (0, .ref b), (1, .ref (ad 0)), (2, .ref (ad 398)), (3, .ref (ad 408)), (4, .ref (ad 409))]) (h : zCR t d M F) (ht : t ≤ 50000000) (hd : d ≤ 9000) (i0 : 0 ≤ i) (i4 : i + 4 ≤ (L : Int)) (kk : ∀ (M' F' : zMem) (H1 : Heap) (locs1 : List Loc) (ls1 : Array Slot) (c1 s1 : Nat), zCR (t + 7000) (d + 9) M' F' → zW g (fun q => s.heap.size ≤ q) s.heap 410 ad M' F' H1 locs1 → lv_has ls1 9 [(5, .int (zI i)), (0, .ref b), (1, .ref (ad 0)), (2, .ref (ad 398)), (3, .ref (ad 408)), (4, .ref (ad 409))] → c1 ≤ cells + 3 → s1 ≤ slots + 18 → W p l e R s m #[.ref b] below meth c H1 locs1 c1 s1 Q (F0 m 2902 ls1 [])) : W p l e R s m #[.ref b] below meth c H locs cells slots Q (F0 m 1911 ls []) := by
  refine z_aload_n C0 hl 2 rfl dL_law_1911 ?_
  refine z_aload_n C0 hl 1 rfl dL_law_1912 ?_
  refine z_iload C0 hl 0 rfl dL_law_1913 ?_
  refine z_iconst C0 dL_law_1915 ?_
  refine z_iadd C0 dL_law_1916 ?_
  refine z_sld C0 Wd hX hbl (Nat.not_le.mpr hbl) (by omega) (by omega) hL dL_law_1917 ?_
  refine z_aload_n C0 hl 1 rfl dL_law_1918 ?_
  refine z_iload C0 hl 0 rfl dL_law_1919 ?_
  refine z_iconst C0 dL_law_1921 ?_
  refine z_iadd C0 dL_law_1922 ?_
  refine z_sld C0 Wd hX hbl (Nat.not_le.mpr hbl) (by omega) (by omega) hL dL_law_1923 ?_
  refine z_aload_n C0 hl 4 rfl dL_law_1924 ?_
  obtain ⟨post, hh1, hh2⟩ := lw_isThump l g ad h ht hd Wd.2 (sx xs (i + 1)) (sx_R _ _) (sx xs (i + 2)) (sx_R _ _)
  refine z_invSH (As := [.ref (ad 0), .int (zI (sx xs (i + 1))), .int (zI (sx xs (i + 2))), .ref (ad 408)]) (rest := []) C0 Wd hst hh1 hs_isThump zk_993 rfl hl.1 rfl (Nat.le_of_ble_eq_true rfl) ⟨by omega, by omega⟩ ⟨by omega, by omega⟩ dL_law_1925 (fun k M1 F1 H locs hk hp Wd => ?_)
  refine z_istore C0 hl [(6, .int (zI k)), (5, .int (zI i)), (0, .ref b), (1, .ref (ad 0)), (2, .ref (ad 398)), (3, .ref (ad 408)), (4, .ref (ad 409))] (by decide) rfl dL_law_1928 (fun ls hl => ?_)
  refine z_aload_n C0 hl 4 rfl dL_law_1930 ?_
  refine z_aload_n C0 hl 2 rfl dL_law_1931 ?_
  refine z_iload C0 hl 1 rfl dL_law_1932 ?_
  refine z_iconst C0 dL_law_1934 ?_
  refine z_iadd C0 dL_law_1935 ?_
  refine z_sld C0 Wd hX hbl (Nat.not_le.mpr hbl) (by omega) (by omega) hL dL_law_1936 ?_
  refine z_aload_n C0 hl 2 rfl dL_law_1937 ?_
  refine z_iload C0 hl 1 rfl dL_law_1938 ?_
  refine z_iconst C0 dL_law_1940 ?_
  refine z_iadd C0 dL_law_1941 ?_
  refine z_sld C0 Wd hX hbl (Nat.not_le.mpr hbl) (by omega) (by omega) hL dL_law_1942 ?_
  obtain ⟨pm, hm1, hm2⟩ := hh2 k M1 F1 hp Wd.2
  refine z_invAb (As := [.int (zI (sx xs (i + 1))), .int (zI (sx xs (i + 2)))]) (rest := []) C0 Wd hm1 hm2 kv_X12_isThump zN398 (zE_9 zK398) rfl zk_1901 rfl hl.1 rfl (Nat.le_of_ble_eq_true rfl) ⟨by omega, by omega⟩ ⟨by omega, by omega⟩ dL_law_1943 (fun bb M2 F2 H locs h01 e8 e9 hcr Wd => ?_)
  refine z_istore C0 hl [(7, .int (zI bb)), (6, .int (zI k)), (5, .int (zI i)), (0, .ref b), (1, .ref (ad 0)), (2, .ref (ad 398)), (3, .ref (ad 408)), (4, .ref (ad 409))] (by decide) rfl dL_law_1946 (fun ls hl => ?_)
  refine z_aload_n C0 hl 5 rfl dL_law_1948 ?_
  refine z_invVi (As := []) (rest := []) C0 Wd (ct_X12_thrown l g ad M2 F2) kv_X12_thrown zN398 (zE_9 zK398) rfl zk_1670 rfl hl.1 rfl (Nat.le_of_ble_eq_true rfl) ⟨by omega, by omega⟩ ⟨by omega, by omega⟩ dL_law_1949 (fun r3 M3 F3 H locs hr3 hp3 Wd => ?_)
  obtain ⟨rfl, rfl, rfl⟩ := hp3
  refine z_iload C0 hl 1 rfl dL_law_1952 ?_
  refine z_icmp_eq C0 (tgt := 1959) hr3 hk dL_law_1954 (by decide) (fun _ => ?_) (fun c9 => absurd e8 c9)
  refine z_iload C0 hl 1 rfl dL_law_1959 ?_
  refine z_if_ne C0 (tgt := 1983) hk dL_law_1961 (by decide) (fun k0 => ?_) (fun k0 => ?_)
  · skip
    refine z_goto C0 (tgt := 2902) dL_law_1983 (by decide) ?_
    exact kk M2 F2 H locs ls _ _ (zCR_up hcr (by omega) (by omega)) Wd (lv_sub hl [2, 3, 4, 5, 6, 7] rfl) (by omega) (by omega)
  · skip
    have e9 := e9 k0
    refine z_aload_n C0 hl 6 rfl dL_law_1964 ?_
    refine z_iconst C0 dL_law_1965 ?_
    refine z_lald C0 Wd zN408 zK408 zL408 (by decide) (by decide) (by decide) dL_law_1966 ?_
    refine z_iload C0 hl 0 rfl dL_law_1967 ?_
    rcases h01 with rfl | rfl
    · skip
      refine z_if_eq C0 (tgt := 1976) (zR_mk (by decide) (by decide)) dL_law_1969 (by decide) (fun _ => ?_) (fun h9 => absurd rfl h9)
      refine z_lconst C0 0 dL_law_1976 rfl ?_
      refine z_lcmpE C0 e9 dL_law_1977 ?_
      refine z_if_eq C0 (tgt := 1983) (zR_mk (by decide) (by decide)) dL_law_1978 (by decide) (fun _ => ?_) (fun h9 => absurd rfl h9)
      refine z_goto C0 (tgt := 2902) dL_law_1983 (by decide) ?_
      exact kk M2 F2 H locs ls _ _ (zCR_up hcr (by omega) (by omega)) Wd (lv_sub hl [2, 3, 4, 5, 6, 7] rfl) (by omega) (by omega)
    · skip
      refine z_if_eq C0 (tgt := 1976) (zR_mk (by decide) (by decide)) dL_law_1969 (by decide) (fun h9 => absurd h9 (by decide)) (fun _ => ?_)
      refine z_lconst C0 1 dL_law_1972 rfl ?_
      refine z_goto C0 (tgt := 1977) dL_law_1973 (by decide) ?_
      refine z_lcmpE C0 e9 dL_law_1977 ?_
      refine z_if_eq C0 (tgt := 1983) (zR_mk (by decide) (by decide)) dL_law_1978 (by decide) (fun _ => ?_) (fun h9 => absurd rfl h9)
      refine z_goto C0 (tgt := 2902) dL_law_1983 (by decide) ?_
      exact kk M2 F2 H locs ls _ _ (zCR_up hcr (by omega) (by omega)) Wd (lv_sub hl [2, 3, 4, 5, 6, 7] rfl) (by omega) (by omega)
set_option maxHeartbeats 4000000 in
set_option maxRecDepth 100000 in
theorem cs_30 {g : zG} {ad : Int → Nat} {p : Program} {l : Launch} {e : Env} {R : Room} {s : State} {m : MethodId} {below : List Frame} {meth : Method} {c : Code} {Q : State → Prop} {b L : Nat} {xs : Nat → Int32} {H : Heap} {locs : List Loc} {cells slots : Nat} {ls : Array Slot} {M F : zMem} {t d i : Int} (C0 : zC g (fun q => s.heap.size ≤ q) p s m #[.ref b] c cL_law 9 "DrumWarrenLaw") (hX : va_X b L xs s s.heap) (hbl : b < s.heap.size) (hL : L ≤ 2048) (hst : l.stackTraces = false) (hR : 100 ≤ R.frames ∧ 10000 ≤ R.locals) (hf : cells + 3 ≤ R.cells ∧ slots + 18 ≤ R.slots) (Wd : zW g (fun q => s.heap.size ≤ q) s.heap 410 ad M F H locs) (hl : lv_has ls 9 [(5, .int (zI i)), (0, .ref b), (1, .ref (ad 0)), (2, .ref (ad 398)), (3, .ref (ad 408)), (4, .ref (ad 409))]) (h : zCR t d M F) (ht : t ≤ 50000000) (hd : d ≤ 9000) (i0 : 0 ≤ i) (i4 : i + 4 ≤ (L : Int)) (kk : ∀ (M' F' : zMem) (H1 : Heap) (locs1 : List Loc) (ls1 : Array Slot) (c1 s1 : Nat), zCR (t + 7000) (d + 9) M' F' → zW g (fun q => s.heap.size ≤ q) s.heap 410 ad M' F' H1 locs1 → lv_has ls1 9 [(5, .int (zI i)), (0, .ref b), (1, .ref (ad 0)), (2, .ref (ad 398)), (3, .ref (ad 408)), (4, .ref (ad 409))] → c1 ≤ cells + 3 → s1 ≤ slots + 18 → W p l e R s m #[.ref b] below meth c H1 locs1 c1 s1 Q (F0 m 2902 ls1 [])) : W p l e R s m #[.ref b] below meth c H locs cells slots Q (F0 m 1986 ls []) := by
  refine z_aload_n C0 hl 2 rfl dL_law_1986 ?_
  refine z_aload_n C0 hl 1 rfl dL_law_1987 ?_
  refine z_iload C0 hl 0 rfl dL_law_1988 ?_
  refine z_iconst C0 dL_law_1990 ?_
  refine z_iadd C0 dL_law_1991 ?_
  refine z_sld C0 Wd hX hbl (Nat.not_le.mpr hbl) (by omega) (by omega) hL dL_law_1992 ?_
  refine z_aload_n C0 hl 4 rfl dL_law_1993 ?_
  obtain ⟨post, hh1, hh2⟩ := lw_decode l g ad h ht hd Wd.2 (sx xs (i + 1)) (sx_R _ _)
  refine z_invSH (As := [.ref (ad 0), .int (zI (sx xs (i + 1))), .ref (ad 408)]) (rest := []) C0 Wd hst hh1 hs_decode zk_1009 rfl hl.1 rfl (Nat.le_of_ble_eq_true rfl) ⟨by omega, by omega⟩ ⟨by omega, by omega⟩ dL_law_1994 (fun k M1 F1 H locs hk hp Wd => ?_)
  refine z_istore C0 hl [(6, .int (zI k)), (5, .int (zI i)), (0, .ref b), (1, .ref (ad 0)), (2, .ref (ad 398)), (3, .ref (ad 408)), (4, .ref (ad 409))] (by decide) rfl dL_law_1997 (fun ls hl => ?_)
  refine z_aload_n C0 hl 4 rfl dL_law_1999 ?_
  refine z_aload_n C0 hl 2 rfl dL_law_2000 ?_
  refine z_iload C0 hl 1 rfl dL_law_2001 ?_
  refine z_iconst C0 dL_law_2003 ?_
  refine z_iadd C0 dL_law_2004 ?_
  refine z_sld C0 Wd hX hbl (Nat.not_le.mpr hbl) (by omega) (by omega) hL dL_law_2005 ?_
  obtain ⟨pm, hm1, hm2⟩ := hh2 k M1 F1 hp Wd.2
  refine z_invAi (As := [.int (zI (sx xs (i + 1)))]) (rest := []) C0 Wd hm1 hm2 kv_X12_decode zN398 (zE_9 zK398) rfl zk_1908 rfl hl.1 rfl (Nat.le_of_ble_eq_true rfl) ⟨by omega, by omega⟩ ⟨by omega, by omega⟩ dL_law_2006 (fun bb M2 F2 H locs hbz e8 e9 hcr Wd => ?_)
  refine z_istore C0 hl [(7, .int (zI bb)), (6, .int (zI k)), (5, .int (zI i)), (0, .ref b), (1, .ref (ad 0)), (2, .ref (ad 398)), (3, .ref (ad 408)), (4, .ref (ad 409))] (by decide) rfl dL_law_2009 (fun ls hl => ?_)
  refine z_aload_n C0 hl 5 rfl dL_law_2011 ?_
  refine z_invVi (As := []) (rest := []) C0 Wd (ct_X12_thrown l g ad M2 F2) kv_X12_thrown zN398 (zE_9 zK398) rfl zk_1670 rfl hl.1 rfl (Nat.le_of_ble_eq_true rfl) ⟨by omega, by omega⟩ ⟨by omega, by omega⟩ dL_law_2012 (fun r3 M3 F3 H locs hr3 hp3 Wd => ?_)
  obtain ⟨rfl, rfl, rfl⟩ := hp3
  refine z_iload C0 hl 1 rfl dL_law_2015 ?_
  refine z_icmp_eq C0 (tgt := 2022) hr3 hk dL_law_2017 (by decide) (fun _ => ?_) (fun c9 => absurd e8 c9)
  refine z_iload C0 hl 1 rfl dL_law_2022 ?_
  refine z_if_ne C0 (tgt := 2039) hk dL_law_2024 (by decide) (fun k0 => ?_) (fun k0 => ?_)
  · skip
    refine z_goto C0 (tgt := 2902) dL_law_2039 (by decide) ?_
    exact kk M2 F2 H locs ls _ _ (zCR_up hcr (by omega) (by omega)) Wd (lv_sub hl [2, 3, 4, 5, 6, 7] rfl) (by omega) (by omega)
  · skip
    have e9 := e9 k0
    refine z_aload_n C0 hl 6 rfl dL_law_2027 ?_
    refine z_iconst C0 dL_law_2028 ?_
    refine z_lald C0 Wd zN408 zK408 zL408 (by decide) (by decide) (by decide) dL_law_2029 ?_
    refine z_iload C0 hl 0 rfl dL_law_2030 ?_
    refine z_i2l C0 hbz dL_law_2032 ?_
    refine z_lcmpE C0 e9 dL_law_2033 ?_
    refine z_if_eq C0 (tgt := 2039) (zR_mk (by decide) (by decide)) dL_law_2034 (by decide) (fun _ => ?_) (fun h9 => absurd rfl h9)
    refine z_goto C0 (tgt := 2902) dL_law_2039 (by decide) ?_
    exact kk M2 F2 H locs ls _ _ (zCR_up hcr (by omega) (by omega)) Wd (lv_sub hl [2, 3, 4, 5, 6, 7] rfl) (by omega) (by omega)
set_option maxHeartbeats 4000000 in
set_option maxRecDepth 100000 in
theorem cs_31 {g : zG} {ad : Int → Nat} {p : Program} {l : Launch} {e : Env} {R : Room} {s : State} {m : MethodId} {below : List Frame} {meth : Method} {c : Code} {Q : State → Prop} {b L : Nat} {xs : Nat → Int32} {H : Heap} {locs : List Loc} {cells slots : Nat} {ls : Array Slot} {M F : zMem} {t d i : Int} (C0 : zC g (fun q => s.heap.size ≤ q) p s m #[.ref b] c cL_law 9 "DrumWarrenLaw") (hX : va_X b L xs s s.heap) (hbl : b < s.heap.size) (hL : L ≤ 2048) (hst : l.stackTraces = false) (hR : 100 ≤ R.frames ∧ 10000 ≤ R.locals) (hf : cells + 3 ≤ R.cells ∧ slots + 18 ≤ R.slots) (Wd : zW g (fun q => s.heap.size ≤ q) s.heap 410 ad M F H locs) (hl : lv_has ls 9 [(5, .int (zI i)), (0, .ref b), (1, .ref (ad 0)), (2, .ref (ad 398)), (3, .ref (ad 408)), (4, .ref (ad 409))]) (h : zCR t d M F) (ht : t ≤ 50000000) (hd : d ≤ 9000) (i0 : 0 ≤ i) (i4 : i + 4 ≤ (L : Int)) (kk : ∀ (M' F' : zMem) (H1 : Heap) (locs1 : List Loc) (ls1 : Array Slot) (c1 s1 : Nat), zCR (t + 7000) (d + 9) M' F' → zW g (fun q => s.heap.size ≤ q) s.heap 410 ad M' F' H1 locs1 → lv_has ls1 9 [(5, .int (zI i)), (0, .ref b), (1, .ref (ad 0)), (2, .ref (ad 398)), (3, .ref (ad 408)), (4, .ref (ad 409))] → c1 ≤ cells + 3 → s1 ≤ slots + 18 → W p l e R s m #[.ref b] below meth c H1 locs1 c1 s1 Q (F0 m 2902 ls1 [])) : W p l e R s m #[.ref b] below meth c H locs cells slots Q (F0 m 2042 ls []) := by
  refine z_aload_n C0 hl 2 rfl dL_law_2042 ?_
  refine z_aload_n C0 hl 1 rfl dL_law_2043 ?_
  refine z_iload C0 hl 0 rfl dL_law_2044 ?_
  refine z_iconst C0 dL_law_2046 ?_
  refine z_iadd C0 dL_law_2047 ?_
  refine z_sld C0 Wd hX hbl (Nat.not_le.mpr hbl) (by omega) (by omega) hL dL_law_2048 ?_
  refine z_aload_n C0 hl 4 rfl dL_law_2049 ?_
  obtain ⟨post, hh1, hh2⟩ := lw_ticksUntilDelivery l g ad h ht hd Wd.2 (sx xs (i + 1)) (sx_R _ _)
  refine z_invSH (As := [.ref (ad 0), .int (zI (sx xs (i + 1))), .ref (ad 408)]) (rest := []) C0 Wd hst hh1 hs_ticksUntilDelivery zk_1018 rfl hl.1 rfl (Nat.le_of_ble_eq_true rfl) ⟨by omega, by omega⟩ ⟨by omega, by omega⟩ dL_law_2050 (fun k M1 F1 H locs hk hp Wd => ?_)
  refine z_istore C0 hl [(6, .int (zI k)), (5, .int (zI i)), (0, .ref b), (1, .ref (ad 0)), (2, .ref (ad 398)), (3, .ref (ad 408)), (4, .ref (ad 409))] (by decide) rfl dL_law_2053 (fun ls hl => ?_)
  refine z_aload_n C0 hl 4 rfl dL_law_2055 ?_
  refine z_aload_n C0 hl 2 rfl dL_law_2056 ?_
  refine z_iload C0 hl 1 rfl dL_law_2057 ?_
  refine z_iconst C0 dL_law_2059 ?_
  refine z_iadd C0 dL_law_2060 ?_
  refine z_sld C0 Wd hX hbl (Nat.not_le.mpr hbl) (by omega) (by omega) hL dL_law_2061 ?_
  obtain ⟨pm, hm1, hm2⟩ := hh2 k M1 F1 hp Wd.2
  refine z_invAi (As := [.int (zI (sx xs (i + 1)))]) (rest := []) C0 Wd hm1 hm2 kv_X12_ticksUntilDelivery zN398 (zE_9 zK398) rfl zk_1948 rfl hl.1 rfl (Nat.le_of_ble_eq_true rfl) ⟨by omega, by omega⟩ ⟨by omega, by omega⟩ dL_law_2062 (fun bb M2 F2 H locs hbz e8 e9 hcr Wd => ?_)
  refine z_istore C0 hl [(7, .int (zI bb)), (6, .int (zI k)), (5, .int (zI i)), (0, .ref b), (1, .ref (ad 0)), (2, .ref (ad 398)), (3, .ref (ad 408)), (4, .ref (ad 409))] (by decide) rfl dL_law_2065 (fun ls hl => ?_)
  refine z_aload_n C0 hl 5 rfl dL_law_2067 ?_
  refine z_invVi (As := []) (rest := []) C0 Wd (ct_X12_thrown l g ad M2 F2) kv_X12_thrown zN398 (zE_9 zK398) rfl zk_1670 rfl hl.1 rfl (Nat.le_of_ble_eq_true rfl) ⟨by omega, by omega⟩ ⟨by omega, by omega⟩ dL_law_2068 (fun r3 M3 F3 H locs hr3 hp3 Wd => ?_)
  obtain ⟨rfl, rfl, rfl⟩ := hp3
  refine z_iload C0 hl 1 rfl dL_law_2071 ?_
  refine z_icmp_eq C0 (tgt := 2078) hr3 hk dL_law_2073 (by decide) (fun _ => ?_) (fun c9 => absurd e8 c9)
  refine z_iload C0 hl 1 rfl dL_law_2078 ?_
  refine z_if_ne C0 (tgt := 2095) hk dL_law_2080 (by decide) (fun k0 => ?_) (fun k0 => ?_)
  · skip
    refine z_goto C0 (tgt := 2902) dL_law_2095 (by decide) ?_
    exact kk M2 F2 H locs ls _ _ (zCR_up hcr (by omega) (by omega)) Wd (lv_sub hl [2, 3, 4, 5, 6, 7] rfl) (by omega) (by omega)
  · skip
    have e9 := e9 k0
    refine z_aload_n C0 hl 6 rfl dL_law_2083 ?_
    refine z_iconst C0 dL_law_2084 ?_
    refine z_lald C0 Wd zN408 zK408 zL408 (by decide) (by decide) (by decide) dL_law_2085 ?_
    refine z_iload C0 hl 0 rfl dL_law_2086 ?_
    refine z_i2l C0 hbz dL_law_2088 ?_
    refine z_lcmpE C0 e9 dL_law_2089 ?_
    refine z_if_eq C0 (tgt := 2095) (zR_mk (by decide) (by decide)) dL_law_2090 (by decide) (fun _ => ?_) (fun h9 => absurd rfl h9)
    refine z_goto C0 (tgt := 2902) dL_law_2095 (by decide) ?_
    exact kk M2 F2 H locs ls _ _ (zCR_up hcr (by omega) (by omega)) Wd (lv_sub hl [2, 3, 4, 5, 6, 7] rfl) (by omega) (by omega)
set_option maxHeartbeats 4000000 in
set_option maxRecDepth 100000 in
theorem cs_32 {g : zG} {ad : Int → Nat} {p : Program} {l : Launch} {e : Env} {R : Room} {s : State} {m : MethodId} {below : List Frame} {meth : Method} {c : Code} {Q : State → Prop} {b L : Nat} {xs : Nat → Int32} {H : Heap} {locs : List Loc} {cells slots : Nat} {ls : Array Slot} {M F : zMem} {t d i : Int} (C0 : zC g (fun q => s.heap.size ≤ q) p s m #[.ref b] c cL_law 9 "DrumWarrenLaw") (hX : va_X b L xs s s.heap) (hbl : b < s.heap.size) (hL : L ≤ 2048) (hst : l.stackTraces = false) (hR : 100 ≤ R.frames ∧ 10000 ≤ R.locals) (hf : cells + 3 ≤ R.cells ∧ slots + 18 ≤ R.slots) (Wd : zW g (fun q => s.heap.size ≤ q) s.heap 410 ad M F H locs) (hl : lv_has ls 9 [(5, .int (zI i)), (0, .ref b), (1, .ref (ad 0)), (2, .ref (ad 398)), (3, .ref (ad 408)), (4, .ref (ad 409))]) (h : zCR t d M F) (ht : t ≤ 50000000) (hd : d ≤ 9000) (i0 : 0 ≤ i) (i4 : i + 4 ≤ (L : Int)) (kk : ∀ (M' F' : zMem) (H1 : Heap) (locs1 : List Loc) (ls1 : Array Slot) (c1 s1 : Nat), zCR (t + 7000) (d + 9) M' F' → zW g (fun q => s.heap.size ≤ q) s.heap 410 ad M' F' H1 locs1 → lv_has ls1 9 [(5, .int (zI i)), (0, .ref b), (1, .ref (ad 0)), (2, .ref (ad 398)), (3, .ref (ad 408)), (4, .ref (ad 409))] → c1 ≤ cells + 3 → s1 ≤ slots + 18 → W p l e R s m #[.ref b] below meth c H1 locs1 c1 s1 Q (F0 m 2902 ls1 [])) : W p l e R s m #[.ref b] below meth c H locs cells slots Q (F0 m 2098 ls []) := by
  refine z_aload_n C0 hl 2 rfl dL_law_2098 ?_
  refine z_aload_n C0 hl 1 rfl dL_law_2099 ?_
  refine z_iload C0 hl 0 rfl dL_law_2100 ?_
  refine z_iconst C0 dL_law_2102 ?_
  refine z_iadd C0 dL_law_2103 ?_
  refine z_sld C0 Wd hX hbl (Nat.not_le.mpr hbl) (by omega) (by omega) hL dL_law_2104 ?_
  refine z_aload_n C0 hl 4 rfl dL_law_2105 ?_
  obtain ⟨post, hh1, hh2⟩ := lw_passTicks l g ad h ht hd Wd.2 (sx xs (i + 1)) (sx_R _ _)
  refine z_invSH (As := [.ref (ad 0), .int (zI (sx xs (i + 1))), .ref (ad 408)]) (rest := []) C0 Wd hst hh1 hs_passTicks zk_1118 rfl hl.1 rfl (Nat.le_of_ble_eq_true rfl) ⟨by omega, by omega⟩ ⟨by omega, by omega⟩ dL_law_2106 (fun k M1 F1 H locs hk hp Wd => ?_)
  refine z_istore C0 hl [(6, .int (zI k)), (5, .int (zI i)), (0, .ref b), (1, .ref (ad 0)), (2, .ref (ad 398)), (3, .ref (ad 408)), (4, .ref (ad 409))] (by decide) rfl dL_law_2109 (fun ls hl => ?_)
  refine z_aload_n C0 hl 4 rfl dL_law_2111 ?_
  refine z_aload_n C0 hl 2 rfl dL_law_2112 ?_
  refine z_iload C0 hl 1 rfl dL_law_2113 ?_
  refine z_iconst C0 dL_law_2115 ?_
  refine z_iadd C0 dL_law_2116 ?_
  refine z_sld C0 Wd hX hbl (Nat.not_le.mpr hbl) (by omega) (by omega) hL dL_law_2117 ?_
  obtain ⟨pm, hm1, hm2⟩ := hh2 k M1 F1 hp Wd.2
  refine z_invAi (As := [.int (zI (sx xs (i + 1)))]) (rest := []) C0 Wd hm1 hm2 kv_X12_passTicks zN398 (zE_9 zK398) rfl zk_1912 rfl hl.1 rfl (Nat.le_of_ble_eq_true rfl) ⟨by omega, by omega⟩ ⟨by omega, by omega⟩ dL_law_2118 (fun bb M2 F2 H locs hbz e8 e9 hcr Wd => ?_)
  refine z_istore C0 hl [(7, .int (zI bb)), (6, .int (zI k)), (5, .int (zI i)), (0, .ref b), (1, .ref (ad 0)), (2, .ref (ad 398)), (3, .ref (ad 408)), (4, .ref (ad 409))] (by decide) rfl dL_law_2121 (fun ls hl => ?_)
  refine z_aload_n C0 hl 5 rfl dL_law_2123 ?_
  refine z_invVi (As := []) (rest := []) C0 Wd (ct_X12_thrown l g ad M2 F2) kv_X12_thrown zN398 (zE_9 zK398) rfl zk_1670 rfl hl.1 rfl (Nat.le_of_ble_eq_true rfl) ⟨by omega, by omega⟩ ⟨by omega, by omega⟩ dL_law_2124 (fun r3 M3 F3 H locs hr3 hp3 Wd => ?_)
  obtain ⟨rfl, rfl, rfl⟩ := hp3
  refine z_iload C0 hl 1 rfl dL_law_2127 ?_
  refine z_icmp_eq C0 (tgt := 2134) hr3 hk dL_law_2129 (by decide) (fun _ => ?_) (fun c9 => absurd e8 c9)
  refine z_iload C0 hl 1 rfl dL_law_2134 ?_
  refine z_if_ne C0 (tgt := 2151) hk dL_law_2136 (by decide) (fun k0 => ?_) (fun k0 => ?_)
  · skip
    refine z_goto C0 (tgt := 2902) dL_law_2151 (by decide) ?_
    exact kk M2 F2 H locs ls _ _ (zCR_up hcr (by omega) (by omega)) Wd (lv_sub hl [2, 3, 4, 5, 6, 7] rfl) (by omega) (by omega)
  · skip
    have e9 := e9 k0
    refine z_aload_n C0 hl 6 rfl dL_law_2139 ?_
    refine z_iconst C0 dL_law_2140 ?_
    refine z_lald C0 Wd zN408 zK408 zL408 (by decide) (by decide) (by decide) dL_law_2141 ?_
    refine z_iload C0 hl 0 rfl dL_law_2142 ?_
    refine z_i2l C0 hbz dL_law_2144 ?_
    refine z_lcmpE C0 e9 dL_law_2145 ?_
    refine z_if_eq C0 (tgt := 2151) (zR_mk (by decide) (by decide)) dL_law_2146 (by decide) (fun _ => ?_) (fun h9 => absurd rfl h9)
    refine z_goto C0 (tgt := 2902) dL_law_2151 (by decide) ?_
    exact kk M2 F2 H locs ls _ _ (zCR_up hcr (by omega) (by omega)) Wd (lv_sub hl [2, 3, 4, 5, 6, 7] rfl) (by omega) (by omega)
set_option maxHeartbeats 4000000 in
set_option maxRecDepth 100000 in
theorem cs_33 {g : zG} {ad : Int → Nat} {p : Program} {l : Launch} {e : Env} {R : Room} {s : State} {m : MethodId} {below : List Frame} {meth : Method} {c : Code} {Q : State → Prop} {b L : Nat} {xs : Nat → Int32} {H : Heap} {locs : List Loc} {cells slots : Nat} {ls : Array Slot} {M F : zMem} {t d i : Int} (C0 : zC g (fun q => s.heap.size ≤ q) p s m #[.ref b] c cL_law 9 "DrumWarrenLaw") (hX : va_X b L xs s s.heap) (hbl : b < s.heap.size) (hL : L ≤ 2048) (hst : l.stackTraces = false) (hR : 100 ≤ R.frames ∧ 10000 ≤ R.locals) (hf : cells + 3 ≤ R.cells ∧ slots + 18 ≤ R.slots) (Wd : zW g (fun q => s.heap.size ≤ q) s.heap 410 ad M F H locs) (hl : lv_has ls 9 [(5, .int (zI i)), (0, .ref b), (1, .ref (ad 0)), (2, .ref (ad 398)), (3, .ref (ad 408)), (4, .ref (ad 409))]) (h : zCR t d M F) (ht : t ≤ 50000000) (hd : d ≤ 9000) (i0 : 0 ≤ i) (i4 : i + 4 ≤ (L : Int)) (kk : ∀ (M' F' : zMem) (H1 : Heap) (locs1 : List Loc) (ls1 : Array Slot) (c1 s1 : Nat), zCR (t + 7000) (d + 9) M' F' → zW g (fun q => s.heap.size ≤ q) s.heap 410 ad M' F' H1 locs1 → lv_has ls1 9 [(5, .int (zI i)), (0, .ref b), (1, .ref (ad 0)), (2, .ref (ad 398)), (3, .ref (ad 408)), (4, .ref (ad 409))] → c1 ≤ cells + 3 → s1 ≤ slots + 18 → W p l e R s m #[.ref b] below meth c H1 locs1 c1 s1 Q (F0 m 2902 ls1 [])) : W p l e R s m #[.ref b] below meth c H locs cells slots Q (F0 m 2154 ls []) := by
  refine z_aload_n C0 hl 2 rfl dL_law_2154 ?_
  obtain ⟨post, hh1, hh2⟩ := lp_ticks l g ad h ht hd Wd.2
  refine z_invVi (As := []) (rest := []) C0 Wd hh1 kv_X11_ticks zN0 (zE_8 zK0) rfl zk_425 rfl hl.1 rfl (Nat.le_of_ble_eq_true rfl) ⟨by omega, by omega⟩ ⟨by omega, by omega⟩ dL_law_2155 (fun k M1 F1 H locs hk hp Wd => ?_)
  refine z_aload_n C0 hl 3 rfl dL_law_2158 ?_
  obtain ⟨pm, hm1, hm2⟩ := hh2 k M1 F1 hp Wd.2
  refine z_invVi (As := []) (rest := [.int (zI k)]) C0 Wd hm1 kv_X12_ticks zN398 (zE_9 zK398) rfl zk_1952 rfl hl.1 rfl (Nat.le_of_ble_eq_true rfl) ⟨by omega, by omega⟩ ⟨by omega, by omega⟩ dL_law_2159 (fun bb M2 F2 H locs hbz hp2 Wd => ?_)
  obtain ⟨e9, hcr⟩ := hm2 bb M2 F2 hp2
  refine z_icmp_eq C0 (tgt := 2902) hk hbz dL_law_2162 (by decide) (fun _ => ?_) (fun c9 => absurd e9.symm c9)
  exact kk M2 F2 H locs ls _ _ (zCR_up hcr (by omega) (by omega)) Wd (lv_sub hl [0, 1, 2, 3, 4, 5] rfl) (by omega) (by omega)
set_option maxHeartbeats 4000000 in
set_option maxRecDepth 100000 in
theorem cs_34 {g : zG} {ad : Int → Nat} {p : Program} {l : Launch} {e : Env} {R : Room} {s : State} {m : MethodId} {below : List Frame} {meth : Method} {c : Code} {Q : State → Prop} {b L : Nat} {xs : Nat → Int32} {H : Heap} {locs : List Loc} {cells slots : Nat} {ls : Array Slot} {M F : zMem} {t d i : Int} (C0 : zC g (fun q => s.heap.size ≤ q) p s m #[.ref b] c cL_law 9 "DrumWarrenLaw") (hX : va_X b L xs s s.heap) (hbl : b < s.heap.size) (hL : L ≤ 2048) (hst : l.stackTraces = false) (hR : 100 ≤ R.frames ∧ 10000 ≤ R.locals) (hf : cells + 3 ≤ R.cells ∧ slots + 18 ≤ R.slots) (Wd : zW g (fun q => s.heap.size ≤ q) s.heap 410 ad M F H locs) (hl : lv_has ls 9 [(5, .int (zI i)), (0, .ref b), (1, .ref (ad 0)), (2, .ref (ad 398)), (3, .ref (ad 408)), (4, .ref (ad 409))]) (h : zCR t d M F) (ht : t ≤ 50000000) (hd : d ≤ 9000) (i0 : 0 ≤ i) (i4 : i + 4 ≤ (L : Int)) (kk : ∀ (M' F' : zMem) (H1 : Heap) (locs1 : List Loc) (ls1 : Array Slot) (c1 s1 : Nat), zCR (t + 7000) (d + 9) M' F' → zW g (fun q => s.heap.size ≤ q) s.heap 410 ad M' F' H1 locs1 → lv_has ls1 9 [(5, .int (zI i)), (0, .ref b), (1, .ref (ad 0)), (2, .ref (ad 398)), (3, .ref (ad 408)), (4, .ref (ad 409))] → c1 ≤ cells + 3 → s1 ≤ slots + 18 → W p l e R s m #[.ref b] below meth c H1 locs1 c1 s1 Q (F0 m 2902 ls1 [])) : W p l e R s m #[.ref b] below meth c H locs cells slots Q (F0 m 2167 ls []) := by
  refine z_aload_n C0 hl 2 rfl dL_law_2167 ?_
  refine z_aload_n C0 hl 1 rfl dL_law_2168 ?_
  refine z_iload C0 hl 0 rfl dL_law_2169 ?_
  refine z_iconst C0 dL_law_2171 ?_
  refine z_iadd C0 dL_law_2172 ?_
  refine z_sld C0 Wd hX hbl (Nat.not_le.mpr hbl) (by omega) (by omega) hL dL_law_2173 ?_
  refine z_aload_n C0 hl 1 rfl dL_law_2174 ?_
  refine z_iload C0 hl 0 rfl dL_law_2175 ?_
  refine z_iconst C0 dL_law_2177 ?_
  refine z_iadd C0 dL_law_2178 ?_
  refine z_sld C0 Wd hX hbl (Nat.not_le.mpr hbl) (by omega) (by omega) hL dL_law_2179 ?_
  refine z_aload_n C0 hl 4 rfl dL_law_2180 ?_
  obtain ⟨post, hh1, hh2⟩ := lw_thumpsHeard l g ad h ht hd Wd.2 (sx xs (i + 1)) (sx_R _ _) (sx xs (i + 2)) (sx_R _ _)
  refine z_invSH (As := [.ref (ad 0), .int (zI (sx xs (i + 1))), .int (zI (sx xs (i + 2))), .ref (ad 408)]) (rest := []) C0 Wd hst hh1 hs_thumpsHeard zk_1130 rfl hl.1 rfl (Nat.le_of_ble_eq_true rfl) ⟨by omega, by omega⟩ ⟨by omega, by omega⟩ dL_law_2181 (fun k M1 F1 H locs hk hp Wd => ?_)
  refine z_istore C0 hl [(6, .int (zI k)), (5, .int (zI i)), (0, .ref b), (1, .ref (ad 0)), (2, .ref (ad 398)), (3, .ref (ad 408)), (4, .ref (ad 409))] (by decide) rfl dL_law_2184 (fun ls hl => ?_)
  refine z_aload_n C0 hl 4 rfl dL_law_2186 ?_
  refine z_aload_n C0 hl 2 rfl dL_law_2187 ?_
  refine z_iload C0 hl 1 rfl dL_law_2188 ?_
  refine z_iconst C0 dL_law_2190 ?_
  refine z_iadd C0 dL_law_2191 ?_
  refine z_sld C0 Wd hX hbl (Nat.not_le.mpr hbl) (by omega) (by omega) hL dL_law_2192 ?_
  refine z_aload_n C0 hl 2 rfl dL_law_2193 ?_
  refine z_iload C0 hl 1 rfl dL_law_2194 ?_
  refine z_iconst C0 dL_law_2196 ?_
  refine z_iadd C0 dL_law_2197 ?_
  refine z_sld C0 Wd hX hbl (Nat.not_le.mpr hbl) (by omega) (by omega) hL dL_law_2198 ?_
  obtain ⟨pm, hm1, hm2⟩ := hh2 k M1 F1 hp Wd.2
  refine z_invAi (As := [.int (zI (sx xs (i + 1))), .int (zI (sx xs (i + 2)))]) (rest := []) C0 Wd hm1 hm2 kv_X12_thumpsHeard zN398 (zE_9 zK398) rfl zk_1956 rfl hl.1 rfl (Nat.le_of_ble_eq_true rfl) ⟨by omega, by omega⟩ ⟨by omega, by omega⟩ dL_law_2199 (fun bb M2 F2 H locs hbz e8 e9 hcr Wd => ?_)
  refine z_istore C0 hl [(7, .int (zI bb)), (6, .int (zI k)), (5, .int (zI i)), (0, .ref b), (1, .ref (ad 0)), (2, .ref (ad 398)), (3, .ref (ad 408)), (4, .ref (ad 409))] (by decide) rfl dL_law_2202 (fun ls hl => ?_)
  refine z_aload_n C0 hl 5 rfl dL_law_2204 ?_
  refine z_invVi (As := []) (rest := []) C0 Wd (ct_X12_thrown l g ad M2 F2) kv_X12_thrown zN398 (zE_9 zK398) rfl zk_1670 rfl hl.1 rfl (Nat.le_of_ble_eq_true rfl) ⟨by omega, by omega⟩ ⟨by omega, by omega⟩ dL_law_2205 (fun r3 M3 F3 H locs hr3 hp3 Wd => ?_)
  obtain ⟨rfl, rfl, rfl⟩ := hp3
  refine z_iload C0 hl 1 rfl dL_law_2208 ?_
  refine z_icmp_eq C0 (tgt := 2215) hr3 hk dL_law_2210 (by decide) (fun _ => ?_) (fun c9 => absurd e8 c9)
  refine z_iload C0 hl 1 rfl dL_law_2215 ?_
  refine z_if_ne C0 (tgt := 2232) hk dL_law_2217 (by decide) (fun k0 => ?_) (fun k0 => ?_)
  · skip
    refine z_goto C0 (tgt := 2902) dL_law_2232 (by decide) ?_
    exact kk M2 F2 H locs ls _ _ (zCR_up hcr (by omega) (by omega)) Wd (lv_sub hl [2, 3, 4, 5, 6, 7] rfl) (by omega) (by omega)
  · skip
    have e9 := e9 k0
    refine z_aload_n C0 hl 6 rfl dL_law_2220 ?_
    refine z_iconst C0 dL_law_2221 ?_
    refine z_lald C0 Wd zN408 zK408 zL408 (by decide) (by decide) (by decide) dL_law_2222 ?_
    refine z_iload C0 hl 0 rfl dL_law_2223 ?_
    refine z_i2l C0 hbz dL_law_2225 ?_
    refine z_lcmpE C0 e9 dL_law_2226 ?_
    refine z_if_eq C0 (tgt := 2232) (zR_mk (by decide) (by decide)) dL_law_2227 (by decide) (fun _ => ?_) (fun h9 => absurd rfl h9)
    refine z_goto C0 (tgt := 2902) dL_law_2232 (by decide) ?_
    exact kk M2 F2 H locs ls _ _ (zCR_up hcr (by omega) (by omega)) Wd (lv_sub hl [2, 3, 4, 5, 6, 7] rfl) (by omega) (by omega)
set_option maxHeartbeats 4000000 in
set_option maxRecDepth 100000 in
theorem cs_35 {g : zG} {ad : Int → Nat} {p : Program} {l : Launch} {e : Env} {R : Room} {s : State} {m : MethodId} {below : List Frame} {meth : Method} {c : Code} {Q : State → Prop} {b L : Nat} {xs : Nat → Int32} {H : Heap} {locs : List Loc} {cells slots : Nat} {ls : Array Slot} {M F : zMem} {t d i : Int} (C0 : zC g (fun q => s.heap.size ≤ q) p s m #[.ref b] c cL_law 9 "DrumWarrenLaw") (hX : va_X b L xs s s.heap) (hbl : b < s.heap.size) (hL : L ≤ 2048) (hst : l.stackTraces = false) (hR : 100 ≤ R.frames ∧ 10000 ≤ R.locals) (hf : cells + 3 ≤ R.cells ∧ slots + 18 ≤ R.slots) (Wd : zW g (fun q => s.heap.size ≤ q) s.heap 410 ad M F H locs) (hl : lv_has ls 9 [(5, .int (zI i)), (0, .ref b), (1, .ref (ad 0)), (2, .ref (ad 398)), (3, .ref (ad 408)), (4, .ref (ad 409))]) (h : zCR t d M F) (ht : t ≤ 50000000) (hd : d ≤ 9000) (i0 : 0 ≤ i) (i4 : i + 4 ≤ (L : Int)) (kk : ∀ (M' F' : zMem) (H1 : Heap) (locs1 : List Loc) (ls1 : Array Slot) (c1 s1 : Nat), zCR (t + 7000) (d + 9) M' F' → zW g (fun q => s.heap.size ≤ q) s.heap 410 ad M' F' H1 locs1 → lv_has ls1 9 [(5, .int (zI i)), (0, .ref b), (1, .ref (ad 0)), (2, .ref (ad 398)), (3, .ref (ad 408)), (4, .ref (ad 409))] → c1 ≤ cells + 3 → s1 ≤ slots + 18 → W p l e R s m #[.ref b] below meth c H1 locs1 c1 s1 Q (F0 m 2902 ls1 [])) : W p l e R s m #[.ref b] below meth c H locs cells slots Q (F0 m 2235 ls []) := by
  refine z_aload_n C0 hl 2 rfl dL_law_2235 ?_
  obtain ⟨post, hh1, hh2⟩ := lp_thumpsDrummed l g ad h ht hd Wd.2
  refine z_invVi (As := []) (rest := []) C0 Wd hh1 kv_X11_thumpsDrummed zN0 (zE_8 zK0) rfl zk_429 rfl hl.1 rfl (Nat.le_of_ble_eq_true rfl) ⟨by omega, by omega⟩ ⟨by omega, by omega⟩ dL_law_2236 (fun k M1 F1 H locs hk hp Wd => ?_)
  refine z_aload_n C0 hl 3 rfl dL_law_2239 ?_
  obtain ⟨pm, hm1, hm2⟩ := hh2 k M1 F1 hp Wd.2
  refine z_invVi (As := []) (rest := [.int (zI k)]) C0 Wd hm1 kv_X12_thumpsDrummed zN398 (zE_9 zK398) rfl zk_1960 rfl hl.1 rfl (Nat.le_of_ble_eq_true rfl) ⟨by omega, by omega⟩ ⟨by omega, by omega⟩ dL_law_2240 (fun bb M2 F2 H locs hbz hp2 Wd => ?_)
  obtain ⟨e9, hcr⟩ := hm2 bb M2 F2 hp2
  refine z_icmp_eq C0 (tgt := 2902) hk hbz dL_law_2243 (by decide) (fun _ => ?_) (fun c9 => absurd e9.symm c9)
  exact kk M2 F2 H locs ls _ _ (zCR_up hcr (by omega) (by omega)) Wd (lv_sub hl [0, 1, 2, 3, 4, 5] rfl) (by omega) (by omega)
set_option maxHeartbeats 4000000 in
set_option maxRecDepth 100000 in
theorem cs_36 {g : zG} {ad : Int → Nat} {p : Program} {l : Launch} {e : Env} {R : Room} {s : State} {m : MethodId} {below : List Frame} {meth : Method} {c : Code} {Q : State → Prop} {b L : Nat} {xs : Nat → Int32} {H : Heap} {locs : List Loc} {cells slots : Nat} {ls : Array Slot} {M F : zMem} {t d i : Int} (C0 : zC g (fun q => s.heap.size ≤ q) p s m #[.ref b] c cL_law 9 "DrumWarrenLaw") (hX : va_X b L xs s s.heap) (hbl : b < s.heap.size) (hL : L ≤ 2048) (hst : l.stackTraces = false) (hR : 100 ≤ R.frames ∧ 10000 ≤ R.locals) (hf : cells + 3 ≤ R.cells ∧ slots + 18 ≤ R.slots) (Wd : zW g (fun q => s.heap.size ≤ q) s.heap 410 ad M F H locs) (hl : lv_has ls 9 [(5, .int (zI i)), (0, .ref b), (1, .ref (ad 0)), (2, .ref (ad 398)), (3, .ref (ad 408)), (4, .ref (ad 409))]) (h : zCR t d M F) (ht : t ≤ 50000000) (hd : d ≤ 9000) (i0 : 0 ≤ i) (i4 : i + 4 ≤ (L : Int)) (kk : ∀ (M' F' : zMem) (H1 : Heap) (locs1 : List Loc) (ls1 : Array Slot) (c1 s1 : Nat), zCR (t + 7000) (d + 9) M' F' → zW g (fun q => s.heap.size ≤ q) s.heap 410 ad M' F' H1 locs1 → lv_has ls1 9 [(5, .int (zI i)), (0, .ref b), (1, .ref (ad 0)), (2, .ref (ad 398)), (3, .ref (ad 408)), (4, .ref (ad 409))] → c1 ≤ cells + 3 → s1 ≤ slots + 18 → W p l e R s m #[.ref b] below meth c H1 locs1 c1 s1 Q (F0 m 2902 ls1 [])) : W p l e R s m #[.ref b] below meth c H locs cells slots Q (F0 m 2248 ls []) := by
  refine z_aload_n C0 hl 2 rfl dL_law_2248 ?_
  obtain ⟨post, hh1, hh2⟩ := lp_deliveries l g ad h ht hd Wd.2
  refine z_invVi (As := []) (rest := []) C0 Wd hh1 kv_X11_deliveries zN0 (zE_8 zK0) rfl zk_433 rfl hl.1 rfl (Nat.le_of_ble_eq_true rfl) ⟨by omega, by omega⟩ ⟨by omega, by omega⟩ dL_law_2249 (fun k M1 F1 H locs hk hp Wd => ?_)
  refine z_aload_n C0 hl 3 rfl dL_law_2252 ?_
  obtain ⟨pm, hm1, hm2⟩ := hh2 k M1 F1 hp Wd.2
  refine z_invVi (As := []) (rest := [.int (zI k)]) C0 Wd hm1 kv_X12_deliveries zN398 (zE_9 zK398) rfl zk_1964 rfl hl.1 rfl (Nat.le_of_ble_eq_true rfl) ⟨by omega, by omega⟩ ⟨by omega, by omega⟩ dL_law_2253 (fun bb M2 F2 H locs hbz hp2 Wd => ?_)
  obtain ⟨e9, hcr⟩ := hm2 bb M2 F2 hp2
  refine z_icmp_eq C0 (tgt := 2902) hk hbz dL_law_2256 (by decide) (fun _ => ?_) (fun c9 => absurd e9.symm c9)
  exact kk M2 F2 H locs ls _ _ (zCR_up hcr (by omega) (by omega)) Wd (lv_sub hl [0, 1, 2, 3, 4, 5] rfl) (by omega) (by omega)
set_option maxHeartbeats 4000000 in
set_option maxRecDepth 100000 in
theorem cs_37 {g : zG} {ad : Int → Nat} {p : Program} {l : Launch} {e : Env} {R : Room} {s : State} {m : MethodId} {below : List Frame} {meth : Method} {c : Code} {Q : State → Prop} {b L : Nat} {xs : Nat → Int32} {H : Heap} {locs : List Loc} {cells slots : Nat} {ls : Array Slot} {M F : zMem} {t d i : Int} (C0 : zC g (fun q => s.heap.size ≤ q) p s m #[.ref b] c cL_law 9 "DrumWarrenLaw") (hX : va_X b L xs s s.heap) (hbl : b < s.heap.size) (hL : L ≤ 2048) (hst : l.stackTraces = false) (hR : 100 ≤ R.frames ∧ 10000 ≤ R.locals) (hf : cells + 3 ≤ R.cells ∧ slots + 18 ≤ R.slots) (Wd : zW g (fun q => s.heap.size ≤ q) s.heap 410 ad M F H locs) (hl : lv_has ls 9 [(5, .int (zI i)), (0, .ref b), (1, .ref (ad 0)), (2, .ref (ad 398)), (3, .ref (ad 408)), (4, .ref (ad 409))]) (h : zCR t d M F) (ht : t ≤ 50000000) (hd : d ≤ 9000) (i0 : 0 ≤ i) (i4 : i + 4 ≤ (L : Int)) (kk : ∀ (M' F' : zMem) (H1 : Heap) (locs1 : List Loc) (ls1 : Array Slot) (c1 s1 : Nat), zCR (t + 7000) (d + 9) M' F' → zW g (fun q => s.heap.size ≤ q) s.heap 410 ad M' F' H1 locs1 → lv_has ls1 9 [(5, .int (zI i)), (0, .ref b), (1, .ref (ad 0)), (2, .ref (ad 398)), (3, .ref (ad 408)), (4, .ref (ad 409))] → c1 ≤ cells + 3 → s1 ≤ slots + 18 → W p l e R s m #[.ref b] below meth c H1 locs1 c1 s1 Q (F0 m 2902 ls1 [])) : W p l e R s m #[.ref b] below meth c H locs cells slots Q (F0 m 2261 ls []) := by
  refine z_aload_n C0 hl 2 rfl dL_law_2261 ?_
  obtain ⟨post, hh1, hh2⟩ := lp_losses l g ad h ht hd Wd.2
  refine z_invVi (As := []) (rest := []) C0 Wd hh1 kv_X11_losses zN0 (zE_8 zK0) rfl zk_437 rfl hl.1 rfl (Nat.le_of_ble_eq_true rfl) ⟨by omega, by omega⟩ ⟨by omega, by omega⟩ dL_law_2262 (fun k M1 F1 H locs hk hp Wd => ?_)
  refine z_aload_n C0 hl 3 rfl dL_law_2265 ?_
  obtain ⟨pm, hm1, hm2⟩ := hh2 k M1 F1 hp Wd.2
  refine z_invVi (As := []) (rest := [.int (zI k)]) C0 Wd hm1 kv_X12_losses zN398 (zE_9 zK398) rfl zk_1968 rfl hl.1 rfl (Nat.le_of_ble_eq_true rfl) ⟨by omega, by omega⟩ ⟨by omega, by omega⟩ dL_law_2266 (fun bb M2 F2 H locs hbz hp2 Wd => ?_)
  obtain ⟨e9, hcr⟩ := hm2 bb M2 F2 hp2
  refine z_icmp_eq C0 (tgt := 2902) hk hbz dL_law_2269 (by decide) (fun _ => ?_) (fun c9 => absurd e9.symm c9)
  exact kk M2 F2 H locs ls _ _ (zCR_up hcr (by omega) (by omega)) Wd (lv_sub hl [0, 1, 2, 3, 4, 5] rfl) (by omega) (by omega)
set_option maxHeartbeats 4000000 in
set_option maxRecDepth 100000 in
theorem cs_38 {g : zG} {ad : Int → Nat} {p : Program} {l : Launch} {e : Env} {R : Room} {s : State} {m : MethodId} {below : List Frame} {meth : Method} {c : Code} {Q : State → Prop} {b L : Nat} {xs : Nat → Int32} {H : Heap} {locs : List Loc} {cells slots : Nat} {ls : Array Slot} {M F : zMem} {t d i : Int} (C0 : zC g (fun q => s.heap.size ≤ q) p s m #[.ref b] c cL_law 9 "DrumWarrenLaw") (hX : va_X b L xs s s.heap) (hbl : b < s.heap.size) (hL : L ≤ 2048) (hst : l.stackTraces = false) (hR : 100 ≤ R.frames ∧ 10000 ≤ R.locals) (hf : cells + 3 ≤ R.cells ∧ slots + 18 ≤ R.slots) (Wd : zW g (fun q => s.heap.size ≤ q) s.heap 410 ad M F H locs) (hl : lv_has ls 9 [(5, .int (zI i)), (0, .ref b), (1, .ref (ad 0)), (2, .ref (ad 398)), (3, .ref (ad 408)), (4, .ref (ad 409))]) (h : zCR t d M F) (ht : t ≤ 50000000) (hd : d ≤ 9000) (i0 : 0 ≤ i) (i4 : i + 4 ≤ (L : Int)) (kk : ∀ (M' F' : zMem) (H1 : Heap) (locs1 : List Loc) (ls1 : Array Slot) (c1 s1 : Nat), zCR (t + 7000) (d + 9) M' F' → zW g (fun q => s.heap.size ≤ q) s.heap 410 ad M' F' H1 locs1 → lv_has ls1 9 [(5, .int (zI i)), (0, .ref b), (1, .ref (ad 0)), (2, .ref (ad 398)), (3, .ref (ad 408)), (4, .ref (ad 409))] → c1 ≤ cells + 3 → s1 ≤ slots + 18 → W p l e R s m #[.ref b] below meth c H1 locs1 c1 s1 Q (F0 m 2902 ls1 [])) : W p l e R s m #[.ref b] below meth c H locs cells slots Q (F0 m 2274 ls []) := by
  refine z_aload_n C0 hl 2 rfl dL_law_2274 ?_
  refine z_aload_n C0 hl 1 rfl dL_law_2275 ?_
  refine z_iload C0 hl 0 rfl dL_law_2276 ?_
  refine z_iconst C0 dL_law_2278 ?_
  refine z_iadd C0 dL_law_2279 ?_
  refine z_sld C0 Wd hX hbl (Nat.not_le.mpr hbl) (by omega) (by omega) hL dL_law_2280 ?_
  refine z_aload C0 hl 5 rfl dL_law_2281 ?_
  obtain ⟨post, hh1, hh2⟩ := lw_meanLoudness l g ad h ht hd Wd.2 (sx xs (i + 1)) (sx_R _ _)
  refine z_invSH (As := [.ref (ad 0), .int (zI (sx xs (i + 1))), .ref (ad 409)]) (rest := []) C0 Wd hst hh1 hs_meanLoudness zk_1139 rfl hl.1 rfl (Nat.le_of_ble_eq_true rfl) ⟨by omega, by omega⟩ ⟨by omega, by omega⟩ dL_law_2283 (fun k M1 F1 H locs hk hp Wd => ?_)
  refine z_istore C0 hl [(6, .int (zI k)), (5, .int (zI i)), (0, .ref b), (1, .ref (ad 0)), (2, .ref (ad 398)), (3, .ref (ad 408)), (4, .ref (ad 409))] (by decide) rfl dL_law_2286 (fun ls hl => ?_)
  refine z_aload_n C0 hl 4 rfl dL_law_2288 ?_
  refine z_aload_n C0 hl 2 rfl dL_law_2289 ?_
  refine z_iload C0 hl 1 rfl dL_law_2290 ?_
  refine z_iconst C0 dL_law_2292 ?_
  refine z_iadd C0 dL_law_2293 ?_
  refine z_sld C0 Wd hX hbl (Nat.not_le.mpr hbl) (by omega) (by omega) hL dL_law_2294 ?_
  obtain ⟨pm, hm1, hm2⟩ := hh2 k M1 F1 hp Wd.2
  refine z_invAf (As := [.int (zI (sx xs (i + 1)))]) (rest := []) C0 Wd hm1 hm2 kv_X12_meanLoudness zN398 (zE_9 zK398) rfl zk_1972 rfl hl.1 rfl (Nat.le_of_ble_eq_true rfl) ⟨by omega, by omega⟩ ⟨by omega, by omega⟩ dL_law_2295 (fun bb M2 F2 H locs e8 e9 hcr Wd => ?_)
  refine z_fstore C0 hl [(7, .float bb), (6, .int (zI k)), (5, .int (zI i)), (0, .ref b), (1, .ref (ad 0)), (2, .ref (ad 398)), (3, .ref (ad 408)), (4, .ref (ad 409))] (by decide) rfl dL_law_2298 (fun ls hl => ?_)
  refine z_aload_n C0 hl 5 rfl dL_law_2300 ?_
  refine z_invVi (As := []) (rest := []) C0 Wd (ct_X12_thrown l g ad M2 F2) kv_X12_thrown zN398 (zE_9 zK398) rfl zk_1670 rfl hl.1 rfl (Nat.le_of_ble_eq_true rfl) ⟨by omega, by omega⟩ ⟨by omega, by omega⟩ dL_law_2301 (fun r3 M3 F3 H locs hr3 hp3 Wd => ?_)
  obtain ⟨rfl, rfl, rfl⟩ := hp3
  refine z_iload C0 hl 1 rfl dL_law_2304 ?_
  refine z_icmp_eq C0 (tgt := 2311) hr3 hk dL_law_2306 (by decide) (fun _ => ?_) (fun c9 => absurd e8 c9)
  refine z_iload C0 hl 1 rfl dL_law_2311 ?_
  refine z_if_ne C0 (tgt := 2349) hk dL_law_2313 (by decide) (fun k0 => ?_) (fun k0 => ?_)
  · skip
    refine z_goto C0 (tgt := 2902) dL_law_2349 (by decide) ?_
    exact kk M2 F2 H locs ls _ _ (zCR_up hcr (by omega) (by omega)) Wd (lv_sub hl [2, 3, 4, 5, 6, 7] rfl) (by omega) (by omega)
  · skip
    obtain ⟨hz, e9⟩ := e9 k0
    refine z_aload C0 hl 7 rfl dL_law_2316 ?_
    refine z_iconst C0 dL_law_2318 ?_
    refine z_dald C0 Wd zN409 zK409 zL409 (by decide) (by decide) (by decide) e9 dL_law_2319 ?_
    refine z_fload C0 hl 0 rfl dL_law_2320 ?_
    refine z_f2d C0 (zf_ok64 hz) dL_law_2322 ?_
    refine z_dcmp C0 (zf_cmpv64 hz) dL_law_2323 ?_
    refine z_if_eq C0 (tgt := 2349) (zR_mk (by decide) (by decide)) dL_law_2324 (by decide) (fun _ => ?_) (fun h9 => absurd rfl h9)
    refine z_goto C0 (tgt := 2902) dL_law_2349 (by decide) ?_
    exact kk M2 F2 H locs ls _ _ (zCR_up hcr (by omega) (by omega)) Wd (lv_sub hl [2, 3, 4, 5, 6, 7] rfl) (by omega) (by omega)
