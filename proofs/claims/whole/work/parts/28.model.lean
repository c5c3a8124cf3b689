/-! the model: ticksUntilDelivery -/
theorem kv_X12_ticksUntilDelivery : zKV yX12_ticksUntilDelivery cX12_ticksUntilDelivery 6 (some .int) "DrumWarrenModel" 1 := ⟨zk_1951, zk_1949, zk_1950, zk_80, by decide, by decide, by decide +kernel⟩
set_option maxHeartbeats 4000000 in
set_option maxRecDepth 100000 in
theorem ct_X12_ticksUntilDelivery (l : Launch) (g : zG) (ad : Int → Nat) (zM0 zF0 : zMem) (zt : Int) (x0 : Int) (hx0 : zR x0) (hV : zIV zt (zM0 399)) (htd : zTD (zM0 399)) (ht : zt ≤ 80000000) : zMt l yX12_ticksUntilDelivery cX12_ticksUntilDelivery 6 (some .int) 6 0 0 g 410 ad [.ref (ad 398), .int (zI x0)] zM0 zF0 (zPi (fun r M' F' => (((zdUD x0 (zM0 399)).1 = 1 ∨ (zdUD x0 (zM0 399)).1 = 2) ∧ 0 = r ∧ (zu zM0 398 8 (zdUD x0 (zM0 399)).1) = M' ∧ zF0 = F') ∨ (∃ w : Int → Int, ((zdUD x0 (zM0 399)).1 = 0 ∨ (zdUD x0 (zM0 399)).1 = 3) ∧ (zdUD x0 (zM0 399)).2.1 = r ∧ (zu (zrow (zrow (zrow (zu zM0 398 8 0) 401 (zM0 399)) 399 (zM0 399)) 404 w) 398 8 (zdUD x0 (zM0 399)).1) = M' ∧ zF0 = F'))) := by
  refine zMt.of "DrumWarrenModel" rfl (by decide) (Nat.le_of_ble_eq_true rfl) (fun {p e s m args below meth c ls} C0 Wd hl hret hlk hin => ?_)
  have hl : lv_has ls 6 [(0, .ref (ad 398)), (1, .int (zI x0))] := hl
  have h2b := hV.2.2.1
  refine z_aload_n C0 hl 0 rfl dX12_ticksUntilDelivery_0 ?_
  refine z_iload_n C0 hl 1 rfl dX12_ticksUntilDelivery_1 ?_
  refine z_invVi (As := [.int (zI x0)]) (rest := []) C0 Wd (ct_X12_placeOf l g ad zM0 zF0 x0 hx0 (by omega)) kv_X12_placeOf zN398 (zE_9 zK398) rfl zk_1865 rfl hl.1 rfl (Nat.le_of_ble_eq_true rfl) (by decide) (by decide) dX12_ticksUntilDelivery_2 (fun r1 zMr1 zFr1 H locs hrr1 hp Wd => ?_)
  obtain ⟨rfl, rfl, rfl⟩ := hp
  refine z_istore_n C0 hl [(2, .int (zI (zlast (fun q => zM0 399 (96 + 47 * q + 0) = x0) (zM0 399 2).toNat))), (0, .ref (ad 398)), (1, .int (zI x0))] (by decide) rfl dX12_ticksUntilDelivery_5 (fun ls hl => ?_)
  have hpl : -1 ≤ (zlast (fun q => zM0 399 (96 + 47 * q + 0) = x0) (zM0 399 2).toNat) ∧ (zlast (fun q => zM0 399 (96 + 47 * q + 0) = x0) (zM0 399 2).toNat) < zM0 399 2 := by have := zlast_bd (P := fun q => zM0 399 (96 + 47 * q + 0) = x0) (zM0 399 2).toNat; omega
  refine z_iload_n C0 hl 0 rfl dX12_ticksUntilDelivery_6 ?_
  refine z_if_ge C0 (tgt := 15) hrr1 dX12_ticksUntilDelivery_7 (by decide) (fun c3 => ?_) (fun c3 => ?_)
  · skip
    refine z_aload_n C0 hl 1 rfl dX12_ticksUntilDelivery_15 ?_
    refine z_iload_n C0 hl 0 rfl dX12_ticksUntilDelivery_16 ?_
    refine z_iconst C0 dX12_ticksUntilDelivery_17 ?_
    refine z_invVi (As := [.int (zI (zlast (fun q => zM0 399 (96 + 47 * q + 0) = x0) (zM0 399 2).toNat)), .int (zI 4)]) (rest := []) C0 Wd (ct_X12_of l g ad zM0 zF0 (zlast (fun q => zM0 399 (96 + 47 * q + 0) = x0) (zM0 399 2).toNat) hrr1 4 (zR_mk (by decide) (by decide)) (by omega)) kv_X12_of zN398 (zE_9 zK398) rfl zk_1801 rfl hl.1 rfl (Nat.le_of_ble_eq_true rfl) (by decide) (by decide) dX12_ticksUntilDelivery_18 (fun r4 zMr4 zFr4 H locs hrr4 hp Wd => ?_)
    obtain ⟨rfl, rfl, rfl⟩ := hp
    refine z_istore_n C0 hl [(3, .int (zI (zM0 399 (96 + 47 * (zlast (fun q => zM0 399 (96 + 47 * q + 0) = x0) (zM0 399 2).toNat) + 4)))), (2, .int (zI (zlast (fun q => zM0 399 (96 + 47 * q + 0) = x0) (zM0 399 2).toNat))), (0, .ref (ad 398)), (1, .int (zI x0))] (by decide) rfl dX12_ticksUntilDelivery_21 (fun ls hl => ?_)
    refine z_aload_n C0 hl 2 rfl dX12_ticksUntilDelivery_22 ?_
    refine z_iload_n C0 hl 1 rfl dX12_ticksUntilDelivery_23 ?_
    refine z_if_ge C0 (tgt := 31) hrr1 dX12_ticksUntilDelivery_24 (by decide) (fun c6 => ?_) (fun c6 => ?_)
    · skip
      refine z_iload_n C0 hl 0 rfl dX12_ticksUntilDelivery_31 ?_
      refine z_bipush C0 dX12_ticksUntilDelivery_32 (by decide) ?_
      refine z_icmp_eq C0 (tgt := 43) hrr4 (zR_mk (by decide) (by decide)) dX12_ticksUntilDelivery_34 (by decide) (fun c7 => ?_) (fun c7 => ?_)
      · skip
        refine z_iconst C0 dX12_ticksUntilDelivery_43 ?_
        refine z_goto C0 (tgt := 48) dX12_ticksUntilDelivery_44 (by decide) ?_
        refine zp_9_8 C0 Wd zN398 zK398 (zR_mk (by decide) (by decide)) zk_1620 dX12_ticksUntilDelivery_48 (fun H locs Wd => ?_)
        refine z_aload_n C0 hl 2 rfl dX12_ticksUntilDelivery_51 ?_
        refine zg_9_8 C0 Wd zN398 zK398 zk_1620 dX12_ticksUntilDelivery_52 ?_
        obtain ⟨he10, hz8⟩ : ((zu zM0 398 8 2) 398 8) = 2 ∧ zR 2 := (fun q => ⟨q, q ▸ Wd.rm _ _⟩) (zu_same _ _ _ _)
        refine z_top (congrArg zI he10) ?_
        clear he10
        refine z_if_le C0 (tgt := 60) (zR_mk (by decide) (by decide)) dX12_ticksUntilDelivery_55 (by decide) (fun h => absurd h (by decide)) (fun _ => ?_)
        refine z_iconst C0 dX12_ticksUntilDelivery_58 ?_
        exact z_iret C0 Wd hret hlk (zR_mk (by decide) (by decide)) (by have e : zdUD x0 (zM0 399) = ((2, 0, zM0 399) : zO) := (by unfold zdUD zpl; rw [if_neg (by omega), if_pos (by first | exact Or.inl (by assumption) | exact Or.inr (by assumption))]); rw [e]; exact Or.inl ⟨(by first | exact Or.inl rfl | exact Or.inr rfl), rfl, rfl, rfl⟩) dX12_ticksUntilDelivery_59
      · skip
        refine z_iload_n C0 hl 0 rfl dX12_ticksUntilDelivery_37 ?_
        refine z_bipush C0 dX12_ticksUntilDelivery_38 (by decide) ?_
        refine z_icmp_ne C0 (tgt := 47) hrr4 (zR_mk (by decide) (by decide)) dX12_ticksUntilDelivery_40 (by decide) (fun c12 => ?_) (fun c12 => ?_)
        · skip
          refine z_iconst C0 dX12_ticksUntilDelivery_47 ?_
          refine zp_9_8 C0 Wd zN398 zK398 (zR_mk (by decide) (by decide)) zk_1620 dX12_ticksUntilDelivery_48 (fun H locs Wd => ?_)
          refine z_aload_n C0 hl 2 rfl dX12_ticksUntilDelivery_51 ?_
          refine zg_9_8 C0 Wd zN398 zK398 zk_1620 dX12_ticksUntilDelivery_52 ?_
          obtain ⟨he15, hz13⟩ : ((zu zM0 398 8 0) 398 8) = 0 ∧ zR 0 := (fun q => ⟨q, q ▸ Wd.rm _ _⟩) (zu_same _ _ _ _)
          refine z_top (congrArg zI he15) ?_
          clear he15
          refine z_if_le C0 (tgt := 60) (zR_mk (by decide) (by decide)) dX12_ticksUntilDelivery_55 (by decide) (fun _ => ?_) (fun h => absurd h (by decide))
          refine z_aload_n C0 hl 2 rfl dX12_ticksUntilDelivery_60 ?_
          refine zg_9_0 C0 Wd zN398 zK398 zk_1612 dX12_ticksUntilDelivery_61 ?_
          refine z_iconst C0 dX12_ticksUntilDelivery_64 ?_
          refine z_aload_n C0 hl 2 rfl dX12_ticksUntilDelivery_65 ?_
          refine zg_9_2 C0 Wd zN398 zK398 zk_1614 dX12_ticksUntilDelivery_66 ?_
          refine z_iconst C0 dX12_ticksUntilDelivery_69 ?_
          refine z_sipush C0 dX12_ticksUntilDelivery_70 (by decide) ?_
          refine z_copyi C0 Wd hl.1 zN399 zN401 zK399 zK401 zL399 zL401 (by decide) (by decide) (by omega) (by omega) (by omega) (by omega) (by omega) (by decide) zk_1682 dX12_ticksUntilDelivery_73 (fun H locs Wd => ?_)
          replace Wd := zW.full Wd zK401 (by rw [zL401]; rfl) (zM0 399) (fun j _ _ => by rw [Int.zero_add]; rfl) (fun j => Wd.rm 399 j)
          refine z_iconst C0 dX12_ticksUntilDelivery_76 ?_
          refine z_istore C0 hl [(4, .int (zI 0)), (3, .int (zI (zM0 399 (96 + 47 * (zlast (fun q => zM0 399 (96 + 47 * q + 0) = x0) (zM0 399 2).toNat) + 4)))), (2, .int (zI (zlast (fun q => zM0 399 (96 + 47 * q + 0) = x0) (zM0 399 2).toNat))), (0, .ref (ad 398)), (1, .int (zI x0))] (by decide) rfl dX12_ticksUntilDelivery_77 (fun ls hl => ?_)
          have aft79 : ∀ (k79 : Nat) (hk79 : (k79 : Int) ≤ 60) (v79 : Int → Int) (r79 : Int → Int) (hv : v79 = zTks k79 (zM0 399)) (hq : ∀ q : Int, 0 ≤ q → q < k79 → ¬ zsr (zlast (fun q => zM0 399 (96 + 47 * q + 0) = x0) (zM0 399 2).toNat) (zM0 399) q) (hx : (k79 : Int) = 60 ∨ v79 (96 + 47 * (zlast (fun q => zM0 399 (96 + 47 * q + 0) = x0) (zM0 399 2).toNat) + 4) = 114) (H : Heap) (locs : List Loc) (ls : Array Slot) (Wd : zW g (zA 410 ad s.heap.size) s.heap 410 ad (zrow (zrow (zrow (zu zM0 398 8 0) 401 (zM0 399)) 399 v79) 404 r79) zF0 H locs) (hl : lv_has ls 6 [(0, .ref (ad 398)), (1, .int (zI x0)), (2, .int (zI (zlast (fun q => zM0 399 (96 + 47 * q + 0) = x0) (zM0 399 2).toNat))), (3, .int (zI (zM0 399 (96 + 47 * (zlast (fun q => zM0 399 (96 + 47 * q + 0) = x0) (zM0 399 2).toNat) + 4)))), (4, .int (zI (k79 : Int)))]), W p l e (zrm 6 0 0) s m args below meth c H locs 0 0 (zMQ below g 410 ad (zPi (fun r M' F' => (((zdUD x0 (zM0 399)).1 = 1 ∨ (zdUD x0 (zM0 399)).1 = 2) ∧ 0 = r ∧ (zu zM0 398 8 (zdUD x0 (zM0 399)).1) = M' ∧ zF0 = F') ∨ (∃ w : Int → Int, ((zdUD x0 (zM0 399)).1 = 0 ∨ (zdUD x0 (zM0 399)).1 = 3) ∧ (zdUD x0 (zM0 399)).2.1 = r ∧ (zu (zrow (zrow (zrow (zu zM0 398 8 0) 401 (zM0 399)) 399 (zM0 399)) 404 w) 398 8 (zdUD x0 (zM0 399)).1) = M' ∧ zF0 = F'))) args s 0 0) (F0 m 107 ls []) := by
            intro k79 hk79 v79 r79 hv hq hx H locs ls Wd hl
            obtain ⟨hI, hD, hk1, hk4⟩ := zTks_keep hV htd k79
            rw [← hv] at hI hD hk1 hk4
            have hzd := zudn_is (p := (zlast (fun q => zM0 399 (96 + 47 * q + 0) = x0) (zM0 399 2).toNat)) (V := zM0 399) (k := k79) (by omega) hq
            refine z_aload_n C0 hl 0 rfl dX12_ticksUntilDelivery_107 ?_
            refine z_iload_n C0 hl 2 rfl dX12_ticksUntilDelivery_108 ?_
            refine z_iconst C0 dX12_ticksUntilDelivery_109 ?_
            refine z_invVi (As := [.int (zI (zlast (fun q => zM0 399 (96 + 47 * q + 0) = x0) (zM0 399 2).toNat)), .int (zI 4)]) (rest := []) C0 Wd (ct_X12_of l g ad (zrow (zrow (zrow (zu zM0 398 8 0) 401 (zM0 399)) 399 v79) 404 r79) zF0 (zlast (fun q => zM0 399 (96 + 47 * q + 0) = x0) (zM0 399 2).toNat) hrr1 4 (zR_mk (by decide) (by decide)) (by omega)) kv_X12_of zN398 (zE_9 zK398) rfl zk_1801 rfl hl.1 rfl (Nat.le_of_ble_eq_true rfl) (by decide) (by decide) dX12_ticksUntilDelivery_110 (fun r17 zMr17 zFr17 H locs hrr17 hp Wd => ?_)
            obtain ⟨rfl, rfl, rfl⟩ := hp
            refine z_top (show zI ((zrow (zrow (zrow (zu zM0 398 8 0) 401 (zM0 399)) 399 v79) 404 r79) 399 (96 + 47 * (zlast (fun q => zM0 399 (96 + 47 * q + 0) = x0) (zM0 399 2).toNat) + 4)) = zI (v79 (96 + 47 * (zlast (fun q => zM0 399 (96 + 47 * q + 0) = x0) (zM0 399 2).toNat) + 4)) from rfl) ?_
            replace hrr17 : zR (v79 (96 + 47 * (zlast (fun q => zM0 399 (96 + 47 * q + 0) = x0) (zM0 399 2).toNat) + 4)) := hrr17
            refine z_bipush C0 dX12_ticksUntilDelivery_113 (by decide) ?_
            refine z_icmp_ne C0 (tgt := 122) hrr17 (zR_mk (by decide) (by decide)) dX12_ticksUntilDelivery_115 (by decide) (fun c19 => ?_) (fun c19 => ?_)
            · skip
              refine z_iconst C0 dX12_ticksUntilDelivery_122 ?_
              refine z_istore C0 hl [(5, .int (zI 0)), (0, .ref (ad 398)), (1, .int (zI x0)), (2, .int (zI (zlast (fun q => zM0 399 (96 + 47 * q + 0) = x0) (zM0 399 2).toNat))), (3, .int (zI (zM0 399 (96 + 47 * (zlast (fun q => zM0 399 (96 + 47 * q + 0) = x0) (zM0 399 2).toNat) + 4)))), (4, .int (zI (k79 : Int)))] (by decide) rfl dX12_ticksUntilDelivery_123 (fun ls hl => ?_)
              refine z_aload_n C0 hl 1 rfl dX12_ticksUntilDelivery_125 ?_
              refine zg_9_2 C0 Wd zN398 zK398 zk_1614 dX12_ticksUntilDelivery_126 ?_
              refine z_iconst C0 dX12_ticksUntilDelivery_129 ?_
              refine z_aload_n C0 hl 1 rfl dX12_ticksUntilDelivery_130 ?_
              refine zg_9_0 C0 Wd zN398 zK398 zk_1612 dX12_ticksUntilDelivery_131 ?_
              refine z_iconst C0 dX12_ticksUntilDelivery_134 ?_
              refine z_sipush C0 dX12_ticksUntilDelivery_135 (by decide) ?_
              refine z_copyi C0 Wd hl.1 zN401 zN399 zK401 zK399 zL401 zL399 (by decide) (by decide) (by omega) (by omega) (by omega) (by omega) (by omega) (by decide) zk_1682 dX12_ticksUntilDelivery_138 (fun H locs Wd => ?_)
              replace Wd := zW.full Wd zK399 (by rw [zL399]; rfl) (zM0 399) (fun j _ _ => by rw [Int.zero_add]; rfl) (fun j => Wd.rm 401 j)
              replace Wd := zW.mem Wd (show _ = (zrow (zrow (zrow (zu zM0 398 8 0) 401 (zM0 399)) 399 (zM0 399)) 404 r79) from (zrow_in (M := (zrow (zu zM0 398 8 0) 401 (zM0 399))) (i := 399) (j := 404) (v := v79) (r := r79) (by decide)))
              refine z_aload_n C0 hl 1 rfl dX12_ticksUntilDelivery_141 ?_
              refine z_iload C0 hl 0 rfl dX12_ticksUntilDelivery_142 ?_
              refine z_if_eq C0 (tgt := 151) (zR_mk (by decide) (by decide)) dX12_ticksUntilDelivery_144 (by decide) (fun _ => ?_) (fun h => absurd h (by decide))
              refine z_iconst C0 dX12_ticksUntilDelivery_151 ?_
              refine zp_9_8 C0 Wd zN398 zK398 (zR_mk (by decide) (by decide)) zk_1620 dX12_ticksUntilDelivery_152 (fun H locs Wd => ?_)
              refine z_iload C0 hl 0 rfl dX12_ticksUntilDelivery_155 ?_
              refine z_if_eq C0 (tgt := 165) (zR_mk (by decide) (by decide)) dX12_ticksUntilDelivery_157 (by decide) (fun _ => ?_) (fun h => absurd h (by decide))
              refine z_iconst C0 dX12_ticksUntilDelivery_165 ?_
              exact z_iret C0 Wd hret hlk (zR_mk (by decide) (by decide)) (by have hz := hzd.2 (by omega) (by unfold zsr; rw [Int.toNat_natCast, ← hv]; assumption); have e : zdUD x0 (zM0 399) = ((3, 0, zM0 399) : zO) := (by unfold zdUD zpl; rw [if_neg (by omega), if_neg (by omega), hz, if_pos (by omega)]); rw [e]; exact Or.inr ⟨_, (by first | exact Or.inl rfl | exact Or.inr rfl), rfl, rfl, rfl⟩) dX12_ticksUntilDelivery_166
            · skip
              refine z_iconst C0 dX12_ticksUntilDelivery_118 ?_
              refine z_goto C0 (tgt := 123) dX12_ticksUntilDelivery_119 (by decide) ?_
              refine z_istore C0 hl [(5, .int (zI 1)), (0, .ref (ad 398)), (1, .int (zI x0)), (2, .int (zI (zlast (fun q => zM0 399 (96 + 47 * q + 0) = x0) (zM0 399 2).toNat))), (3, .int (zI (zM0 399 (96 + 47 * (zlast (fun q => zM0 399 (96 + 47 * q + 0) = x0) (zM0 399 2).toNat) + 4)))), (4, .int (zI (k79 : Int)))] (by decide) rfl dX12_ticksUntilDelivery_123 (fun ls hl => ?_)
              refine z_aload_n C0 hl 1 rfl dX12_ticksUntilDelivery_125 ?_
              refine zg_9_2 C0 Wd zN398 zK398 zk_1614 dX12_ticksUntilDelivery_126 ?_
              refine z_iconst C0 dX12_ticksUntilDelivery_129 ?_
              refine z_aload_n C0 hl 1 rfl dX12_ticksUntilDelivery_130 ?_
              refine zg_9_0 C0 Wd zN398 zK398 zk_1612 dX12_ticksUntilDelivery_131 ?_
              refine z_iconst C0 dX12_ticksUntilDelivery_134 ?_
              refine z_sipush C0 dX12_ticksUntilDelivery_135 (by decide) ?_
              refine z_copyi C0 Wd hl.1 zN401 zN399 zK401 zK399 zL401 zL399 (by decide) (by decide) (by omega) (by omega) (by omega) (by omega) (by omega) (by decide) zk_1682 dX12_ticksUntilDelivery_138 (fun H locs Wd => ?_)
              replace Wd := zW.full Wd zK399 (by rw [zL399]; rfl) (zM0 399) (fun j _ _ => by rw [Int.zero_add]; rfl) (fun j => Wd.rm 401 j)
              replace Wd := zW.mem Wd (show _ = (zrow (zrow (zrow (zu zM0 398 8 0) 401 (zM0 399)) 399 (zM0 399)) 404 r79) from (zrow_in (M := (zrow (zu zM0 398 8 0) 401 (zM0 399))) (i := 399) (j := 404) (v := v79) (r := r79) (by decide)))
              refine z_aload_n C0 hl 1 rfl dX12_ticksUntilDelivery_141 ?_
              refine z_iload C0 hl 0 rfl dX12_ticksUntilDelivery_142 ?_
              refine z_if_eq C0 (tgt := 151) (zR_mk (by decide) (by decide)) dX12_ticksUntilDelivery_144 (by decide) (fun h => absurd h (by decide)) (fun _ => ?_)
              refine z_iconst C0 dX12_ticksUntilDelivery_147 ?_
              refine z_goto C0 (tgt := 152) dX12_ticksUntilDelivery_148 (by decide) ?_
              refine zp_9_8 C0 Wd zN398 zK398 (zR_mk (by decide) (by decide)) zk_1620 dX12_ticksUntilDelivery_152 (fun H locs Wd => ?_)
              refine z_iload C0 hl 0 rfl dX12_ticksUntilDelivery_155 ?_
              refine z_if_eq C0 (tgt := 165) (zR_mk (by decide) (by decide)) dX12_ticksUntilDelivery_157 (by decide) (fun h => absurd h (by decide)) (fun _ => ?_)
              refine z_iload C0 hl 5 rfl dX12_ticksUntilDelivery_160 ?_
              refine z_goto C0 (tgt := 166) dX12_ticksUntilDelivery_162 (by decide) ?_
              exact z_iret C0 Wd hret hlk (zR_mk (by omega) (by omega)) (by have hz := hzd.1 (by unfold zsr; rw [Int.toNat_natCast, ← hv]; assumption); have e : zdUD x0 (zM0 399) = ((0, (k79 : Int), zM0 399) : zO) := (by unfold zdUD zpl; rw [if_neg (by omega), if_neg (by omega), hz, if_neg (by omega)]); rw [e]; exact Or.inr ⟨_, (by first | exact Or.inl rfl | exact Or.inr rfl), rfl, rfl, rfl⟩) dX12_ticksUntilDelivery_166
          have lp79 : ∀ (d79 k79 : Nat) (hk79 : (k79 : Int) + d79 = 60) (v79 : Int → Int) (r79 : Int → Int) (hv : v79 = zTks k79 (zM0 399)) (hq : ∀ q : Int, 0 ≤ q → q < k79 → ¬ zsr (zlast (fun q => zM0 399 (96 + 47 * q + 0) = x0) (zM0 399 2).toNat) (zM0 399) q) (H : Heap) (locs : List Loc) (ls : Array Slot) (Wd : zW g (zA 410 ad s.heap.size) s.heap 410 ad (zrow (zrow (zrow (zu zM0 398 8 0) 401 (zM0 399)) 399 v79) 404 r79) zF0 H locs) (hl : lv_has ls 6 [(0, .ref (ad 398)), (1, .int (zI x0)), (2, .int (zI (zlast (fun q => zM0 399 (96 + 47 * q + 0) = x0) (zM0 399 2).toNat))), (3, .int (zI (zM0 399 (96 + 47 * (zlast (fun q => zM0 399 (96 + 47 * q + 0) = x0) (zM0 399 2).toNat) + 4)))), (4, .int (zI (k79 : Int)))]), W p l e (zrm 6 0 0) s m args below meth c H locs 0 0 (zMQ below g 410 ad (zPi (fun r M' F' => (((zdUD x0 (zM0 399)).1 = 1 ∨ (zdUD x0 (zM0 399)).1 = 2) ∧ 0 = r ∧ (zu zM0 398 8 (zdUD x0 (zM0 399)).1) = M' ∧ zF0 = F') ∨ (∃ w : Int → Int, ((zdUD x0 (zM0 399)).1 = 0 ∨ (zdUD x0 (zM0 399)).1 = 3) ∧ (zdUD x0 (zM0 399)).2.1 = r ∧ (zu (zrow (zrow (zrow (zu zM0 398 8 0) 401 (zM0 399)) 399 (zM0 399)) 404 w) 398 8 (zdUD x0 (zM0 399)).1) = M' ∧ zF0 = F'))) args s 0 0) (F0 m 79 ls []) := by
            intro d79
            induction d79 with
            | zero =>
              intro k79 hk79 v79 r79 hv hq H locs ls Wd hl
              obtain ⟨hI, hD, hk1, hk4⟩ := zTks_keep hV htd k79
              rw [← hv] at hI hD hk1 hk4
              refine z_iload C0 hl 4 rfl dX12_ticksUntilDelivery_79 ?_
              refine z_bipush C0 dX12_ticksUntilDelivery_81 (by decide) ?_
              refine z_icmp_ge C0 (tgt := 107) (zR_mk (by omega) (by omega)) (zR_mk (by decide) (by decide)) dX12_ticksUntilDelivery_83 (by decide) (fun c24 => ?_) (fun c24 => ?_)
              · skip
                first | exact aft79 k79 (by omega) v79 r79 hv hq (by first | assumption | omega) _ _ _ Wd (lv_sub hl [0, 1, 2, 3, 4] rfl) | (exfalso; omega)
              · skip
                exfalso; omega
            | succ d79 ih79 =>
              intro k79 hk79 v79 r79 hv hq H locs ls Wd hl
              obtain ⟨hI, hD, hk1, hk4⟩ := zTks_keep hV htd k79
              rw [← hv] at hI hD hk1 hk4
              refine z_iload C0 hl 4 rfl dX12_ticksUntilDelivery_79 ?_
              refine z_bipush C0 dX12_ticksUntilDelivery_81 (by decide) ?_
              refine z_icmp_ge C0 (tgt := 107) (zR_mk (by omega) (by omega)) (zR_mk (by decide) (by decide)) dX12_ticksUntilDelivery_83 (by decide) (fun c25 => ?_) (fun c25 => ?_)
              · skip
                first | exact aft79 k79 (by omega) v79 r79 hv hq (by first | assumption | omega) _ _ _ Wd (lv_sub hl [0, 1, 2, 3, 4] rfl) | (exfalso; omega)
              · skip
                refine z_aload_n C0 hl 0 rfl dX12_ticksUntilDelivery_86 ?_
                refine z_iload_n C0 hl 2 rfl dX12_ticksUntilDelivery_87 ?_
                refine z_iconst C0 dX12_ticksUntilDelivery_88 ?_
                refine z_invVi (As := [.int (zI (zlast (fun q => zM0 399 (96 + 47 * q + 0) = x0) (zM0 399 2).toNat)), .int (zI 4)]) (rest := []) C0 Wd (ct_X12_of l g ad (zrow (zrow (zrow (zu zM0 398 8 0) 401 (zM0 399)) 399 v79) 404 r79) zF0 (zlast (fun q => zM0 399 (96 + 47 * q + 0) = x0) (zM0 399 2).toNat) hrr1 4 (zR_mk (by decide) (by decide)) (by omega)) kv_X12_of zN398 (zE_9 zK398) rfl zk_1801 rfl hl.1 rfl (Nat.le_of_ble_eq_true rfl) (by decide) (by decide) dX12_ticksUntilDelivery_89 (fun r26 zMr26 zFr26 H locs hrr26 hp Wd => ?_)
                obtain ⟨rfl, rfl, rfl⟩ := hp
                refine z_top (show zI ((zrow (zrow (zrow (zu zM0 398 8 0) 401 (zM0 399)) 399 v79) 404 r79) 399 (96 + 47 * (zlast (fun q => zM0 399 (96 + 47 * q + 0) = x0) (zM0 399 2).toNat) + 4)) = zI (v79 (96 + 47 * (zlast (fun q => zM0 399 (96 + 47 * q + 0) = x0) (zM0 399 2).toNat) + 4)) from rfl) ?_
                replace hrr26 : zR (v79 (96 + 47 * (zlast (fun q => zM0 399 (96 + 47 * q + 0) = x0) (zM0 399 2).toNat) + 4)) := hrr26
                refine z_bipush C0 dX12_ticksUntilDelivery_92 (by decide) ?_
                refine z_icmp_eq C0 (tgt := 107) hrr26 (zR_mk (by decide) (by decide)) dX12_ticksUntilDelivery_94 (by decide) (fun c28 => ?_) (fun c28 => ?_)
                · skip
                  first | exact aft79 k79 (by omega) v79 r79 hv hq (by first | assumption | omega) _ _ _ Wd (lv_sub hl [0, 1, 2, 3, 4] rfl) | (exfalso; omega)
                · skip
                  refine z_aload_n C0 hl 0 rfl dX12_ticksUntilDelivery_97 ?_
                  refine z_invVv (As := []) (rest := []) C0 Wd (ct_X12_ticksOnce l g ad (zrow (zrow (zrow (zu zM0 398 8 0) 401 (zM0 399)) 399 v79) 404 r79) zF0 (zt + 17 * (k79 : Int)) hI hD (by omega)) kv_X12_ticksOnce zN398 (zE_9 zK398) rfl zk_1920 rfl hl.1 rfl (Nat.le_of_ble_eq_true rfl) (by decide) (by decide) dX12_ticksUntilDelivery_98 (fun zMr29 zFr29 H locs hp Wd => ?_)
                  rcases hp with ⟨r_r29, rfl, rfl⟩
                  · skip
                    replace Wd : zW g _ s.heap 410 ad (zrow (zrow (zrow (zrow (zrow (zu zM0 398 8 0) 401 (zM0 399)) 399 v79) 404 r79) 399 (zTick v79)) 404 r_r29) _ H locs := Wd
                    replace Wd := zW.mem Wd (show _ = (zrow (zrow (zrow (zu zM0 398 8 0) 401 (zM0 399)) 399 (zTick v79)) 404 r_r29) from ((zrow_c 404 r_r29 (zrow_in (M := (zrow (zu zM0 398 8 0) 401 (zM0 399))) (i := 399) (j := 404) (v := v79) (r := r79) (by decide))).trans (zrow_twice (zrow (zrow (zu zM0 398 8 0) 401 (zM0 399)) 399 (zTick v79)) 404 r79 r_r29)))
                    refine z_iinc C0 hl 4 (t := (k79 : Int)) (u := ((k79 : Int) + 1)) rfl (by omega) [(4, .int (zI ((k79 : Int) + 1))), (0, .ref (ad 398)), (1, .int (zI x0)), (2, .int (zI (zlast (fun q => zM0 399 (96 + 47 * q + 0) = x0) (zM0 399 2).toNat))), (3, .int (zI (zM0 399 (96 + 47 * (zlast (fun q => zM0 399 (96 + 47 * q + 0) = x0) (zM0 399 2).toNat) + 4))))] (by decide) rfl dX12_ticksUntilDelivery_101 (fun ls hl => ?_)
                    refine z_goto C0 (tgt := 79) dX12_ticksUntilDelivery_104 (by decide) ?_
                    exact ih79 (k79 + 1) (by omega) (zTick v79) r_r29 (by show _ = zTick (zTks k79 (zM0 399)); rw [← hv]) (zsr_step hv (by assumption) hq) _ _ _ Wd (lv_sub hl [1, 2, 3, 4, 0] rfl)
          exact lp79 60 0 (by omega) (zM0 399) (zM0 404) rfl (fun q h0 h1 => by omega) _ _ _ (Wd.mem (zrows_eta (M := (zrow (zu zM0 398 8 0) 401 (zM0 399))) (i := 399) (j := 404) (by decide)).symm) (lv_sub hl [3, 4, 2, 1, 0] rfl)
        · skip
          refine z_iconst C0 dX12_ticksUntilDelivery_43 ?_
          refine z_goto C0 (tgt := 48) dX12_ticksUntilDelivery_44 (by decide) ?_
          refine zp_9_8 C0 Wd zN398 zK398 (zR_mk (by decide) (by decide)) zk_1620 dX12_ticksUntilDelivery_48 (fun H locs Wd => ?_)
          refine z_aload_n C0 hl 2 rfl dX12_ticksUntilDelivery_51 ?_
          refine zg_9_8 C0 Wd zN398 zK398 zk_1620 dX12_ticksUntilDelivery_52 ?_
          obtain ⟨he33, hz31⟩ : ((zu zM0 398 8 2) 398 8) = 2 ∧ zR 2 := (fun q => ⟨q, q ▸ Wd.rm _ _⟩) (zu_same _ _ _ _)
          refine z_top (congrArg zI he33) ?_
          clear he33
          refine z_if_le C0 (tgt := 60) (zR_mk (by decide) (by decide)) dX12_ticksUntilDelivery_55 (by decide) (fun h => absurd h (by decide)) (fun _ => ?_)
          refine z_iconst C0 dX12_ticksUntilDelivery_58 ?_
          exact z_iret C0 Wd hret hlk (zR_mk (by decide) (by decide)) (by have e : zdUD x0 (zM0 399) = ((2, 0, zM0 399) : zO) := (by unfold zdUD zpl; rw [if_neg (by omega), if_pos (by first | exact Or.inl (by assumption) | exact Or.inr (by assumption))]); rw [e]; exact Or.inl ⟨(by first | exact Or.inl rfl | exact Or.inr rfl), rfl, rfl, rfl⟩) dX12_ticksUntilDelivery_59
    · skip
      refine z_iconst C0 dX12_ticksUntilDelivery_27 ?_
      refine z_goto C0 (tgt := 48) dX12_ticksUntilDelivery_28 (by decide) ?_
      refine zp_9_8 C0 Wd zN398 zK398 (zR_mk (by decide) (by decide)) zk_1620 dX12_ticksUntilDelivery_48 (fun H locs Wd => ?_)
      refine z_aload_n C0 hl 2 rfl dX12_ticksUntilDelivery_51 ?_
      refine zg_9_8 C0 Wd zN398 zK398 zk_1620 dX12_ticksUntilDelivery_52 ?_
      obtain ⟨he37, hz35⟩ : ((zu zM0 398 8 1) 398 8) = 1 ∧ zR 1 := (fun q => ⟨q, q ▸ Wd.rm _ _⟩) (zu_same _ _ _ _)
      refine z_top (congrArg zI he37) ?_
      clear he37
      refine z_if_le C0 (tgt := 60) (zR_mk (by decide) (by decide)) dX12_ticksUntilDelivery_55 (by decide) (fun h => absurd h (by decide)) (fun _ => ?_)
      refine z_iconst C0 dX12_ticksUntilDelivery_58 ?_
      exact z_iret C0 Wd hret hlk (zR_mk (by decide) (by decide)) (by have e : zdUD x0 (zM0 399) = ((1, 0, zM0 399) : zO) := (by unfold zdUD zpl; rw [if_pos (by omega)]); rw [e]; exact Or.inl ⟨(by first | exact Or.inl rfl | exact Or.inr rfl), rfl, rfl, rfl⟩) dX12_ticksUntilDelivery_59
  · skip
    refine z_bipush C0 dX12_ticksUntilDelivery_10 (by decide) ?_
    refine z_goto C0 (tgt := 21) dX12_ticksUntilDelivery_12 (by decide) ?_
    refine z_istore_n C0 hl [(3, .int (zI 120)), (2, .int (zI (zlast (fun q => zM0 399 (96 + 47 * q + 0) = x0) (zM0 399 2).toNat))), (0, .ref (ad 398)), (1, .int (zI x0))] (by decide) rfl dX12_ticksUntilDelivery_21 (fun ls hl => ?_)
    refine z_aload_n C0 hl 2 rfl dX12_ticksUntilDelivery_22 ?_
    refine z_iload_n C0 hl 1 rfl dX12_ticksUntilDelivery_23 ?_
    refine z_if_ge C0 (tgt := 31) hrr1 dX12_ticksUntilDelivery_24 (by decide) (fun c39 => ?_) (fun c39 => ?_)
    · skip
      refine z_iload_n C0 hl 0 rfl dX12_ticksUntilDelivery_31 ?_
      refine z_bipush C0 dX12_ticksUntilDelivery_32 (by decide) ?_
      refine z_icmp_eq C0 (tgt := 43) (zR_mk (by decide) (by decide)) (zR_mk (by decide) (by decide)) dX12_ticksUntilDelivery_34 (by decide) (fun h => absurd h (by decide)) (fun _ => ?_)
      refine z_iload_n C0 hl 0 rfl dX12_ticksUntilDelivery_37 ?_
      refine z_bipush C0 dX12_ticksUntilDelivery_38 (by decide) ?_
      refine z_icmp_ne C0 (tgt := 47) (zR_mk (by decide) (by decide)) (zR_mk (by decide) (by decide)) dX12_ticksUntilDelivery_40 (by decide) (fun _ => ?_) (fun h => absurd h (by decide))
      refine z_iconst C0 dX12_ticksUntilDelivery_47 ?_
      refine zp_9_8 C0 Wd zN398 zK398 (zR_mk (by decide) (by decide)) zk_1620 dX12_ticksUntilDelivery_48 (fun H locs Wd => ?_)
      refine z_aload_n C0 hl 2 rfl dX12_ticksUntilDelivery_51 ?_
      refine zg_9_8 C0 Wd zN398 zK398 zk_1620 dX12_ticksUntilDelivery_52 ?_
      obtain ⟨he44, hz42⟩ : ((zu zM0 398 8 0) 398 8) = 0 ∧ zR 0 := (fun q => ⟨q, q ▸ Wd.rm _ _⟩) (zu_same _ _ _ _)
      refine z_top (congrArg zI he44) ?_
      clear he44
      refine z_if_le C0 (tgt := 60) (zR_mk (by decide) (by decide)) dX12_ticksUntilDelivery_55 (by decide) (fun _ => ?_) (fun h => absurd h (by decide))
      refine z_aload_n C0 hl 2 rfl dX12_ticksUntilDelivery_60 ?_
      refine zg_9_0 C0 Wd zN398 zK398 zk_1612 dX12_ticksUntilDelivery_61 ?_
      refine z_iconst C0 dX12_ticksUntilDelivery_64 ?_
      refine z_aload_n C0 hl 2 rfl dX12_ticksUntilDelivery_65 ?_
      refine zg_9_2 C0 Wd zN398 zK398 zk_1614 dX12_ticksUntilDelivery_66 ?_
      refine z_iconst C0 dX12_ticksUntilDelivery_69 ?_
      refine z_sipush C0 dX12_ticksUntilDelivery_70 (by decide) ?_
      refine z_copyi C0 Wd hl.1 zN399 zN401 zK399 zK401 zL399 zL401 (by decide) (by decide) (by omega) (by omega) (by omega) (by omega) (by omega) (by decide) zk_1682 dX12_ticksUntilDelivery_73 (fun H locs Wd => ?_)
      replace Wd := zW.full Wd zK401 (by rw [zL401]; rfl) (zM0 399) (fun j _ _ => by rw [Int.zero_add]; rfl) (fun j => Wd.rm 399 j)
      refine z_iconst C0 dX12_ticksUntilDelivery_76 ?_
      refine z_istore C0 hl [(4, .int (zI 0)), (3, .int (zI 120)), (2, .int (zI (zlast (fun q => zM0 399 (96 + 47 * q + 0) = x0) (zM0 399 2).toNat))), (0, .ref (ad 398)), (1, .int (zI x0))] (by decide) rfl dX12_ticksUntilDelivery_77 (fun ls hl => ?_)
      have aft79 : ∀ (k79 : Nat) (hk79 : (k79 : Int) ≤ 60) (v79 : Int → Int) (r79 : Int → Int) (hv : v79 = zTks k79 (zM0 399)) (hq : ∀ q : Int, 0 ≤ q → q < k79 → ¬ zsr (zlast (fun q => zM0 399 (96 + 47 * q + 0) = x0) (zM0 399 2).toNat) (zM0 399) q) (hx : (k79 : Int) = 60 ∨ v79 (96 + 47 * (zlast (fun q => zM0 399 (96 + 47 * q + 0) = x0) (zM0 399 2).toNat) + 4) = 114) (H : Heap) (locs : List Loc) (ls : Array Slot) (Wd : zW g (zA 410 ad s.heap.size) s.heap 410 ad (zrow (zrow (zrow (zu zM0 398 8 0) 401 (zM0 399)) 399 v79) 404 r79) zF0 H locs) (hl : lv_has ls 6 [(0, .ref (ad 398)), (1, .int (zI x0)), (2, .int (zI (zlast (fun q => zM0 399 (96 + 47 * q + 0) = x0) (zM0 399 2).toNat))), (3, .int (zI 120)), (4, .int (zI (k79 : Int)))]), W p l e (zrm 6 0 0) s m args below meth c H locs 0 0 (zMQ below g 410 ad (zPi (fun r M' F' => (((zdUD x0 (zM0 399)).1 = 1 ∨ (zdUD x0 (zM0 399)).1 = 2) ∧ 0 = r ∧ (zu zM0 398 8 (zdUD x0 (zM0 399)).1) = M' ∧ zF0 = F') ∨ (∃ w : Int → Int, ((zdUD x0 (zM0 399)).1 = 0 ∨ (zdUD x0 (zM0 399)).1 = 3) ∧ (zdUD x0 (zM0 399)).2.1 = r ∧ (zu (zrow (zrow (zrow (zu zM0 398 8 0) 401 (zM0 399)) 399 (zM0 399)) 404 w) 398 8 (zdUD x0 (zM0 399)).1) = M' ∧ zF0 = F'))) args s 0 0) (F0 m 107 ls []) := by
        intro k79 hk79 v79 r79 hv hq hx H locs ls Wd hl
        obtain ⟨hI, hD, hk1, hk4⟩ := zTks_keep hV htd k79
        rw [← hv] at hI hD hk1 hk4
        have hzd := zudn_is (p := (zlast (fun q => zM0 399 (96 + 47 * q + 0) = x0) (zM0 399 2).toNat)) (V := zM0 399) (k := k79) (by omega) hq
        refine z_aload_n C0 hl 0 rfl dX12_ticksUntilDelivery_107 ?_
        refine z_iload_n C0 hl 2 rfl dX12_ticksUntilDelivery_108 ?_
        refine z_iconst C0 dX12_ticksUntilDelivery_109 ?_
        refine z_invVi (As := [.int (zI (zlast (fun q => zM0 399 (96 + 47 * q + 0) = x0) (zM0 399 2).toNat)), .int (zI 4)]) (rest := []) C0 Wd (ct_X12_of l g ad (zrow (zrow (zrow (zu zM0 398 8 0) 401 (zM0 399)) 399 v79) 404 r79) zF0 (zlast (fun q => zM0 399 (96 + 47 * q + 0) = x0) (zM0 399 2).toNat) hrr1 4 (zR_mk (by decide) (by decide)) (by omega)) kv_X12_of zN398 (zE_9 zK398) rfl zk_1801 rfl hl.1 rfl (Nat.le_of_ble_eq_true rfl) (by decide) (by decide) dX12_ticksUntilDelivery_110 (fun r46 zMr46 zFr46 H locs hrr46 hp Wd => ?_)
        obtain ⟨rfl, rfl, rfl⟩ := hp
        refine z_top (show zI ((zrow (zrow (zrow (zu zM0 398 8 0) 401 (zM0 399)) 399 v79) 404 r79) 399 (96 + 47 * (zlast (fun q => zM0 399 (96 + 47 * q + 0) = x0) (zM0 399 2).toNat) + 4)) = zI (v79 (96 + 47 * (zlast (fun q => zM0 399 (96 + 47 * q + 0) = x0) (zM0 399 2).toNat) + 4)) from rfl) ?_
        replace hrr46 : zR (v79 (96 + 47 * (zlast (fun q => zM0 399 (96 + 47 * q + 0) = x0) (zM0 399 2).toNat) + 4)) := hrr46
        refine z_bipush C0 dX12_ticksUntilDelivery_113 (by decide) ?_
        refine z_icmp_ne C0 (tgt := 122) hrr46 (zR_mk (by decide) (by decide)) dX12_ticksUntilDelivery_115 (by decide) (fun c48 => ?_) (fun c48 => ?_)
        · skip
          refine z_iconst C0 dX12_ticksUntilDelivery_122 ?_
          refine z_istore C0 hl [(5, .int (zI 0)), (0, .ref (ad 398)), (1, .int (zI x0)), (2, .int (zI (zlast (fun q => zM0 399 (96 + 47 * q + 0) = x0) (zM0 399 2).toNat))), (3, .int (zI 120)), (4, .int (zI (k79 : Int)))] (by decide) rfl dX12_ticksUntilDelivery_123 (fun ls hl => ?_)
          refine z_aload_n C0 hl 1 rfl dX12_ticksUntilDelivery_125 ?_
          refine zg_9_2 C0 Wd zN398 zK398 zk_1614 dX12_ticksUntilDelivery_126 ?_
          refine z_iconst C0 dX12_ticksUntilDelivery_129 ?_
          refine z_aload_n C0 hl 1 rfl dX12_ticksUntilDelivery_130 ?_
          refine zg_9_0 C0 Wd zN398 zK398 zk_1612 dX12_ticksUntilDelivery_131 ?_
          refine z_iconst C0 dX12_ticksUntilDelivery_134 ?_
          refine z_sipush C0 dX12_ticksUntilDelivery_135 (by decide) ?_
          refine z_copyi C0 Wd hl.1 zN401 zN399 zK401 zK399 zL401 zL399 (by decide) (by decide) (by omega) (by omega) (by omega) (by omega) (by omega) (by decide) zk_1682 dX12_ticksUntilDelivery_138 (fun H locs Wd => ?_)
          replace Wd := zW.full Wd zK399 (by rw [zL399]; rfl) (zM0 399) (fun j _ _ => by rw [Int.zero_add]; rfl) (fun j => Wd.rm 401 j)
          replace Wd := zW.mem Wd (show _ = (zrow (zrow (zrow (zu zM0 398 8 0) 401 (zM0 399)) 399 (zM0 399)) 404 r79) from (zrow_in (M := (zrow (zu zM0 398 8 0) 401 (zM0 399))) (i := 399) (j := 404) (v := v79) (r := r79) (by decide)))
          refine z_aload_n C0 hl 1 rfl dX12_ticksUntilDelivery_141 ?_
          refine z_iload C0 hl 0 rfl dX12_ticksUntilDelivery_142 ?_
          refine z_if_eq C0 (tgt := 151) (zR_mk (by decide) (by decide)) dX12_ticksUntilDelivery_144 (by decide) (fun _ => ?_) (fun h => absurd h (by decide))
          refine z_iconst C0 dX12_ticksUntilDelivery_151 ?_
          refine zp_9_8 C0 Wd zN398 zK398 (zR_mk (by decide) (by decide)) zk_1620 dX12_ticksUntilDelivery_152 (fun H locs Wd => ?_)
          refine z_iload C0 hl 0 rfl dX12_ticksUntilDelivery_155 ?_
          refine z_if_eq C0 (tgt := 165) (zR_mk (by decide) (by decide)) dX12_ticksUntilDelivery_157 (by decide) (fun _ => ?_) (fun h => absurd h (by decide))
          refine z_iconst C0 dX12_ticksUntilDelivery_165 ?_
          exact z_iret C0 Wd hret hlk (zR_mk (by decide) (by decide)) (by have hz := hzd.2 (by omega) (by unfold zsr; rw [Int.toNat_natCast, ← hv]; assumption); have e : zdUD x0 (zM0 399) = ((3, 0, zM0 399) : zO) := (by unfold zdUD zpl; rw [if_neg (by omega), if_neg (by omega), hz, if_pos (by omega)]); rw [e]; exact Or.inr ⟨_, (by first | exact Or.inl rfl | exact Or.inr rfl), rfl, rfl, rfl⟩) dX12_ticksUntilDelivery_166
        · skip
          refine z_iconst C0 dX12_ticksUntilDelivery_118 ?_
          refine z_goto C0 (tgt := 123) dX12_ticksUntilDelivery_119 (by decide) ?_
          refine z_istore C0 hl [(5, .int (zI 1)), (0, .ref (ad 398)), (1, .int (zI x0)), (2, .int (zI (zlast (fun q => zM0 399 (96 + 47 * q + 0) = x0) (zM0 399 2).toNat))), (3, .int (zI 120)), (4, .int (zI (k79 : Int)))] (by decide) rfl dX12_ticksUntilDelivery_123 (fun ls hl => ?_)
          refine z_aload_n C0 hl 1 rfl dX12_ticksUntilDelivery_125 ?_
          refine zg_9_2 C0 Wd zN398 zK398 zk_1614 dX12_ticksUntilDelivery_126 ?_
          refine z_iconst C0 dX12_ticksUntilDelivery_129 ?_
          refine z_aload_n C0 hl 1 rfl dX12_ticksUntilDelivery_130 ?_
          refine zg_9_0 C0 Wd zN398 zK398 zk_1612 dX12_ticksUntilDelivery_131 ?_
          refine z_iconst C0 dX12_ticksUntilDelivery_134 ?_
          refine z_sipush C0 dX12_ticksUntilDelivery_135 (by decide) ?_
          refine z_copyi C0 Wd hl.1 zN401 zN399 zK401 zK399 zL401 zL399 (by decide) (by decide) (by omega) (by omega) (by omega) (by omega) (by omega) (by decide) zk_1682 dX12_ticksUntilDelivery_138 (fun H locs Wd => ?_)
          replace Wd := zW.full Wd zK399 (by rw [zL399]; rfl) (zM0 399) (fun j _ _ => by rw [Int.zero_add]; rfl) (fun j => Wd.rm 401 j)
          replace Wd := zW.mem Wd (show _ = (zrow (zrow (zrow (zu zM0 398 8 0) 401 (zM0 399)) 399 (zM0 399)) 404 r79) from (zrow_in (M := (zrow (zu zM0 398 8 0) 401 (zM0 399))) (i := 399) (j := 404) (v := v79) (r := r79) (by decide)))
          refine z_aload_n C0 hl 1 rfl dX12_ticksUntilDelivery_141 ?_
          refine z_iload C0 hl 0 rfl dX12_ticksUntilDelivery_142 ?_
          refine z_if_eq C0 (tgt := 151) (zR_mk (by decide) (by decide)) dX12_ticksUntilDelivery_144 (by decide) (fun h => absurd h (by decide)) (fun _ => ?_)
          refine z_iconst C0 dX12_ticksUntilDelivery_147 ?_
          refine z_goto C0 (tgt := 152) dX12_ticksUntilDelivery_148 (by decide) ?_
          refine zp_9_8 C0 Wd zN398 zK398 (zR_mk (by decide) (by decide)) zk_1620 dX12_ticksUntilDelivery_152 (fun H locs Wd => ?_)
          refine z_iload C0 hl 0 rfl dX12_ticksUntilDelivery_155 ?_
          refine z_if_eq C0 (tgt := 165) (zR_mk (by decide) (by decide)) dX12_ticksUntilDelivery_157 (by decide) (fun h => absurd h (by decide)) (fun _ => ?_)
          refine z_iload C0 hl 5 rfl dX12_ticksUntilDelivery_160 ?_
          refine z_goto C0 (tgt := 166) dX12_ticksUntilDelivery_162 (by decide) ?_
          exact z_iret C0 Wd hret hlk (zR_mk (by omega) (by omega)) (by have hz := hzd.1 (by unfold zsr; rw [Int.toNat_natCast, ← hv]; assumption); have e : zdUD x0 (zM0 399) = ((0, (k79 : Int), zM0 399) : zO) := (by unfold zdUD zpl; rw [if_neg (by omega), if_neg (by omega), hz, if_neg (by omega)]); rw [e]; exact Or.inr ⟨_, (by first | exact Or.inl rfl | exact Or.inr rfl), rfl, rfl, rfl⟩) dX12_ticksUntilDelivery_166
      have lp79 : ∀ (d79 k79 : Nat) (hk79 : (k79 : Int) + d79 = 60) (v79 : Int → Int) (r79 : Int → Int) (hv : v79 = zTks k79 (zM0 399)) (hq : ∀ q : Int, 0 ≤ q → q < k79 → ¬ zsr (zlast (fun q => zM0 399 (96 + 47 * q + 0) = x0) (zM0 399 2).toNat) (zM0 399) q) (H : Heap) (locs : List Loc) (ls : Array Slot) (Wd : zW g (zA 410 ad s.heap.size) s.heap 410 ad (zrow (zrow (zrow (zu zM0 398 8 0) 401 (zM0 399)) 399 v79) 404 r79) zF0 H locs) (hl : lv_has ls 6 [(0, .ref (ad 398)), (1, .int (zI x0)), (2, .int (zI (zlast (fun q => zM0 399 (96 + 47 * q + 0) = x0) (zM0 399 2).toNat))), (3, .int (zI 120)), (4, .int (zI (k79 : Int)))]), W p l e (zrm 6 0 0) s m args below meth c H locs 0 0 (zMQ below g 410 ad (zPi (fun r M' F' => (((zdUD x0 (zM0 399)).1 = 1 ∨ (zdUD x0 (zM0 399)).1 = 2) ∧ 0 = r ∧ (zu zM0 398 8 (zdUD x0 (zM0 399)).1) = M' ∧ zF0 = F') ∨ (∃ w : Int → Int, ((zdUD x0 (zM0 399)).1 = 0 ∨ (zdUD x0 (zM0 399)).1 = 3) ∧ (zdUD x0 (zM0 399)).2.1 = r ∧ (zu (zrow (zrow (zrow (zu zM0 398 8 0) 401 (zM0 399)) 399 (zM0 399)) 404 w) 398 8 (zdUD x0 (zM0 399)).1) = M' ∧ zF0 = F'))) args s 0 0) (F0 m 79 ls []) := by
        intro d79
        induction d79 with
        | zero =>
          intro k79 hk79 v79 r79 hv hq H locs ls Wd hl
          obtain ⟨hI, hD, hk1, hk4⟩ := zTks_keep hV htd k79
          rw [← hv] at hI hD hk1 hk4
          refine z_iload C0 hl 4 rfl dX12_ticksUntilDelivery_79 ?_
          refine z_bipush C0 dX12_ticksUntilDelivery_81 (by decide) ?_
          refine z_icmp_ge C0 (tgt := 107) (zR_mk (by omega) (by omega)) (zR_mk (by decide) (by decide)) dX12_ticksUntilDelivery_83 (by decide) (fun c53 => ?_) (fun c53 => ?_)
          · skip
            first | exact aft79 k79 (by omega) v79 r79 hv hq (by first | assumption | omega) _ _ _ Wd (lv_sub hl [0, 1, 2, 3, 4] rfl) | (exfalso; omega)
          · skip
            exfalso; omega
        | succ d79 ih79 =>
          intro k79 hk79 v79 r79 hv hq H locs ls Wd hl
          obtain ⟨hI, hD, hk1, hk4⟩ := zTks_keep hV htd k79
          rw [← hv] at hI hD hk1 hk4
          refine z_iload C0 hl 4 rfl dX12_ticksUntilDelivery_79 ?_
          refine z_bipush C0 dX12_ticksUntilDelivery_81 (by decide) ?_
          refine z_icmp_ge C0 (tgt := 107) (zR_mk (by omega) (by omega)) (zR_mk (by decide) (by decide)) dX12_ticksUntilDelivery_83 (by decide) (fun c54 => ?_) (fun c54 => ?_)
          · skip
            first | exact aft79 k79 (by omega) v79 r79 hv hq (by first | assumption | omega) _ _ _ Wd (lv_sub hl [0, 1, 2, 3, 4] rfl) | (exfalso; omega)
          · skip
            refine z_aload_n C0 hl 0 rfl dX12_ticksUntilDelivery_86 ?_
            refine z_iload_n C0 hl 2 rfl dX12_ticksUntilDelivery_87 ?_
            refine z_iconst C0 dX12_ticksUntilDelivery_88 ?_
            refine z_invVi (As := [.int (zI (zlast (fun q => zM0 399 (96 + 47 * q + 0) = x0) (zM0 399 2).toNat)), .int (zI 4)]) (rest := []) C0 Wd (ct_X12_of l g ad (zrow (zrow (zrow (zu zM0 398 8 0) 401 (zM0 399)) 399 v79) 404 r79) zF0 (zlast (fun q => zM0 399 (96 + 47 * q + 0) = x0) (zM0 399 2).toNat) hrr1 4 (zR_mk (by decide) (by decide)) (by omega)) kv_X12_of zN398 (zE_9 zK398) rfl zk_1801 rfl hl.1 rfl (Nat.le_of_ble_eq_true rfl) (by decide) (by decide) dX12_ticksUntilDelivery_89 (fun r55 zMr55 zFr55 H locs hrr55 hp Wd => ?_)
            obtain ⟨rfl, rfl, rfl⟩ := hp
            refine z_top (show zI ((zrow (zrow (zrow (zu zM0 398 8 0) 401 (zM0 399)) 399 v79) 404 r79) 399 (96 + 47 * (zlast (fun q => zM0 399 (96 + 47 * q + 0) = x0) (zM0 399 2).toNat) + 4)) = zI (v79 (96 + 47 * (zlast (fun q => zM0 399 (96 + 47 * q + 0) = x0) (zM0 399 2).toNat) + 4)) from rfl) ?_
            replace hrr55 : zR (v79 (96 + 47 * (zlast (fun q => zM0 399 (96 + 47 * q + 0) = x0) (zM0 399 2).toNat) + 4)) := hrr55
            refine z_bipush C0 dX12_ticksUntilDelivery_92 (by decide) ?_
            refine z_icmp_eq C0 (tgt := 107) hrr55 (zR_mk (by decide) (by decide)) dX12_ticksUntilDelivery_94 (by decide) (fun c57 => ?_) (fun c57 => ?_)
            · skip
              first | exact aft79 k79 (by omega) v79 r79 hv hq (by first | assumption | omega) _ _ _ Wd (lv_sub hl [0, 1, 2, 3, 4] rfl) | (exfalso; omega)
            · skip
              refine z_aload_n C0 hl 0 rfl dX12_ticksUntilDelivery_97 ?_
              refine z_invVv (As := []) (rest := []) C0 Wd (ct_X12_ticksOnce l g ad (zrow (zrow (zrow (zu zM0 398 8 0) 401 (zM0 399)) 399 v79) 404 r79) zF0 (zt + 17 * (k79 : Int)) hI hD (by omega)) kv_X12_ticksOnce zN398 (zE_9 zK398) rfl zk_1920 rfl hl.1 rfl (Nat.le_of_ble_eq_true rfl) (by decide) (by decide) dX12_ticksUntilDelivery_98 (fun zMr58 zFr58 H locs hp Wd => ?_)
              rcases hp with ⟨r_r58, rfl, rfl⟩
              · skip
                replace Wd : zW g _ s.heap 410 ad (zrow (zrow (zrow (zrow (zrow (zu zM0 398 8 0) 401 (zM0 399)) 399 v79) 404 r79) 399 (zTick v79)) 404 r_r58) _ H locs := Wd
                replace Wd := zW.mem Wd (show _ = (zrow (zrow (zrow (zu zM0 398 8 0) 401 (zM0 399)) 399 (zTick v79)) 404 r_r58) from ((zrow_c 404 r_r58 (zrow_in (M := (zrow (zu zM0 398 8 0) 401 (zM0 399))) (i := 399) (j := 404) (v := v79) (r := r79) (by decide))).trans (zrow_twice (zrow (zrow (zu zM0 398 8 0) 401 (zM0 399)) 399 (zTick v79)) 404 r79 r_r58)))
                refine z_iinc C0 hl 4 (t := (k79 : Int)) (u := ((k79 : Int) + 1)) rfl (by omega) [(4, .int (zI ((k79 : Int) + 1))), (0, .ref (ad 398)), (1, .int (zI x0)), (2, .int (zI (zlast (fun q => zM0 399 (96 + 47 * q + 0) = x0) (zM0 399 2).toNat))), (3, .int (zI 120))] (by decide) rfl dX12_ticksUntilDelivery_101 (fun ls hl => ?_)
                refine z_goto C0 (tgt := 79) dX12_ticksUntilDelivery_104 (by decide) ?_
                exact ih79 (k79 + 1) (by omega) (zTick v79) r_r58 (by show _ = zTick (zTks k79 (zM0 399)); rw [← hv]) (zsr_step hv (by assumption) hq) _ _ _ Wd (lv_sub hl [1, 2, 3, 4, 0] rfl)
      exact lp79 60 0 (by omega) (zM0 399) (zM0 404) rfl (fun q h0 h1 => by omega) _ _ _ (Wd.mem (zrows_eta (M := (zrow (zu zM0 398 8 0) 401 (zM0 399))) (i := 399) (j := 404) (by decide)).symm) (lv_sub hl [3, 4, 2, 1, 0] rfl)
    · skip
      refine z_iconst C0 dX12_ticksUntilDelivery_27 ?_
      refine z_goto C0 (tgt := 48) dX12_ticksUntilDelivery_28 (by decide) ?_
      refine zp_9_8 C0 Wd zN398 zK398 (zR_mk (by decide) (by decide)) zk_1620 dX12_ticksUntilDelivery_48 (fun H locs Wd => ?_)
      refine z_aload_n C0 hl 2 rfl dX12_ticksUntilDelivery_51 ?_
      refine zg_9_8 C0 Wd zN398 zK398 zk_1620 dX12_ticksUntilDelivery_52 ?_
      obtain ⟨he62, hz60⟩ : ((zu zM0 398 8 1) 398 8) = 1 ∧ zR 1 := (fun q => ⟨q, q ▸ Wd.rm _ _⟩) (zu_same _ _ _ _)
      refine z_top (congrArg zI he62) ?_
      clear he62
      refine z_if_le C0 (tgt := 60) (zR_mk (by decide) (by decide)) dX12_ticksUntilDelivery_55 (by decide) (fun h => absurd h (by decide)) (fun _ => ?_)
      refine z_iconst C0 dX12_ticksUntilDelivery_58 ?_
      exact z_iret C0 Wd hret hlk (zR_mk (by decide) (by decide)) (by have e : zdUD x0 (zM0 399) = ((1, 0, zM0 399) : zO) := (by unfold zdUD zpl; rw [if_pos (by omega)]); rw [e]; exact Or.inl ⟨(by first | exact Or.inl rfl | exact Or.inr rfl), rfl, rfl, rfl⟩) dX12_ticksUntilDelivery_59
