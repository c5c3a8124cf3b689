/-! the model: floats -/
theorem kv_X12_loud : zKV yX12_loud cX12_loud 3 (some .float) "DrumWarrenModel" 2 := ⟨zk_1761, zk_1760, zk_34, zk_80, by decide, by decide, by decide +kernel⟩
set_option maxHeartbeats 4000000 in
set_option maxRecDepth 100000 in
theorem ct_X12_loud (l : Launch) (g : zG) (ad : Int → Nat) (zM0 zF0 : zMem) (x0 : Int) (hx0 : zR x0) (x1 : Int) (hx1 : zR x1) (hc0 : 0 ≤ x0 ∧ x0 < 8) (hc1 : 0 ≤ x1 ∧ x1 < 8) (hT : ∀ i, 8 ≤ i → i < 72 → 0 ≤ zM0 399 i ∧ zM0 399 i ≤ 9) : zMt l yX12_loud cX12_loud 3 (some .float) 2 0 0 g 410 ad [.ref (ad 398), .int (zI x0), .int (zI x1)] zM0 zF0 (zPf (fun r M' F' => (∃ w : Int → Int, (zLd x0 x1 (zM0 399)) = r ∧ (zrow zM0 404 w) = M' ∧ zF0 = F'))) := by
  refine zMt.of "DrumWarrenModel" rfl (by decide +kernel) (Nat.le_of_ble_eq_true rfl) (fun {p e s m args below meth c ls} C0 Wd hl hret hlk hin => ?_)
  have hl : lv_has ls 3 [(0, .ref (ad 398)), (1, .int (zI x0)), (2, .int (zI x1))] := hl
  refine z_aload_n C0 hl 0 rfl dX12_loud_0 ?_
  refine z_iload_n C0 hl 1 rfl dX12_loud_1 ?_
  refine z_invVv (As := [.int (zI x0)]) (rest := []) C0 Wd (ct_X12_finds l g ad zM0 zF0 x0 hx0 hT) kv_X12_finds zN398 (zE_9 zK398) rfl zk_1741 rfl hl.1 rfl (Nat.le_of_ble_eq_true rfl) (by decide) (by decide) dX12_loud_2 (fun zMr1 zFr1 H locs hp Wd => ?_)
  rcases hp with ⟨r_r1, hr1_0_0, rfl, rfl⟩
  · skip
    refine z_iload_n C0 hl 1 rfl dX12_loud_5 ?_
    refine z_iload_n C0 hl 2 rfl dX12_loud_6 ?_
    refine z_icmp_ne C0 (tgt := 14) hx0 hx1 dX12_loud_7 (by decide) (fun c3 => ?_) (fun c3 => ?_)
    · skip
      refine z_aload_n C0 hl 0 rfl dX12_loud_14 ?_
      refine zg_9_7 C0 Wd zN398 zK398 zk_1619 dX12_loud_15 ?_
      refine z_iload_n C0 hl 2 rfl dX12_loud_18 ?_
      refine z_iald C0 Wd zN404 zK404 zL404 (by omega) (by omega) (by decide) dX12_loud_19 ?_
      obtain ⟨he6, hz4⟩ : ((zrow zM0 404 r_r1) 404 x1) = (r_r1 x1) ∧ zR (r_r1 x1) := (fun q => ⟨q, q ▸ Wd.rm _ _⟩) (congrFun (zrow_same _ _ _) _)
      refine z_top (congrArg zI he6) ?_
      clear he6
      refine z_sipush C0 dX12_loud_20 (by decide) ?_
      refine z_icmp_ne C0 (tgt := 30) hz4 (zR_mk (by decide) (by decide)) dX12_loud_23 (by decide) (fun c7 => ?_) (fun c7 => ?_)
      · skip
        have hbf := zBF_bd (V := zM0 399) (a := x0) hT x1 hc1.1 hc1.2; rw [← hr1_0_0 x1 hc1.1 hc1.2] at hbf
        refine z_fconst1 C0 dX12_loud_30 ?_
        refine z_fconst1 C0 dX12_loud_31 ?_
        refine z_aload_n C0 hl 0 rfl dX12_loud_32 ?_
        refine zg_9_7 C0 Wd zN398 zK398 zk_1619 dX12_loud_33 ?_
        refine z_iload_n C0 hl 2 rfl dX12_loud_36 ?_
        refine z_iald C0 Wd zN404 zK404 zL404 (by omega) (by omega) (by decide) dX12_loud_37 ?_
        obtain ⟨he10, hz8⟩ : ((zrow zM0 404 r_r1) 404 x1) = (r_r1 x1) ∧ zR (r_r1 x1) := (fun q => ⟨q, q ▸ Wd.rm _ _⟩) (congrFun (zrow_same _ _ _) _)
        refine z_top (congrArg zI he10) ?_
        clear he10
        refine z_i2f C0 dX12_loud_38 ?_
        refine z_fadd C0 (zf_ok32 (zf_add32 zf_c1 (zf_i232 (by rw [zI_toInt (by omega) (by omega)]; omega)))) dX12_loud_39 ?_
        refine z_fdiv C0 (zf_ok32 (zf_div32 zf_c1 (zf_dv (by omega) (by omega)))) dX12_loud_40 ?_
        exact z_fret C0 Wd hret hlk (⟨_, by unfold zLd zfl; rw [if_neg (by assumption), ← hr1_0_0 x1 hc1.1 hc1.2, if_neg (by assumption)], rfl, rfl⟩) dX12_loud_41
      · skip
        refine z_fconst0 C0 dX12_loud_26 ?_
        refine z_goto C0 (tgt := 41) dX12_loud_27 (by decide) ?_
        exact z_fret C0 Wd hret hlk (⟨_, by unfold zLd zfl; rw [if_neg (by assumption), ← hr1_0_0 x1 hc1.1 hc1.2, if_pos (by assumption)], rfl, rfl⟩) dX12_loud_41
    · skip
      refine z_fconst1 C0 dX12_loud_10 ?_
      refine z_goto C0 (tgt := 41) dX12_loud_11 (by decide) ?_
      exact z_fret C0 Wd hret hlk (⟨_, by unfold zLd; rw [if_pos (by assumption)], rfl, rfl⟩) dX12_loud_41
theorem kv_X12_loudness : zKV yX12_loudness cX12_loudness 3 (some .float) "DrumWarrenModel" 2 := ⟨zk_1753, zk_1751, zk_1752, zk_80, by decide, by decide, by decide +kernel⟩
set_option maxHeartbeats 4000000 in
set_option maxRecDepth 100000 in
theorem ct_X12_loudness (l : Launch) (g : zG) (ad : Int → Nat) (zM0 zF0 : zMem) (x0 : Int) (hx0 : zR x0) (x1 : Int) (hx1 : zR x1) (h0 : 0 ≤ zM0 399 0 ∧ zM0 399 0 ≤ 8) (hT : ∀ i, 8 ≤ i → i < 72 → 0 ≤ zM0 399 i ∧ zM0 399 i ≤ 9) : zMt l yX12_loudness cX12_loudness 3 (some .float) 3 0 0 g 410 ad [.ref (ad 398), .int (zI x0), .int (zI x1)] zM0 zF0 (zPf (fun r M' F' => ((¬ (zisC (zM0 399) x0 ∧ zisC (zM0 399) x1)) ∧ FP.fconst0 = r ∧ (zu zM0 398 8 1) = M' ∧ zF0 = F') ∨ (∃ w : Int → Int, (zisC (zM0 399) x0 ∧ zisC (zM0 399) x1) ∧ (zLd x0 x1 (zM0 399)) = r ∧ (zrow (zu zM0 398 8 0) 404 w) = M' ∧ zF0 = F'))) := by
  refine zMt.of "DrumWarrenModel" rfl (by decide +kernel) (Nat.le_of_ble_eq_true rfl) (fun {p e s m args below meth c ls} C0 Wd hl hret hlk hin => ?_)
  have hl : lv_has ls 3 [(0, .ref (ad 398)), (1, .int (zI x0)), (2, .int (zI x1))] := hl
  refine z_aload_n C0 hl 0 rfl dX12_loudness_0 ?_
  refine z_aload_n C0 hl 0 rfl dX12_loudness_1 ?_
  refine z_iload_n C0 hl 1 rfl dX12_loudness_2 ?_
  refine z_invVi (As := [.int (zI x0)]) (rest := [.ref (ad 398)]) C0 Wd (ct_X12_isChamber l g ad zM0 zF0 x0 hx0 (by omega)) kv_X12_isChamber zN398 (zE_9 zK398) rfl zk_1703 rfl hl.1 rfl (Nat.le_of_ble_eq_true rfl) (by decide) (by decide) dX12_loudness_3 (fun r1 zMr1 zFr1 H locs hrr1 hp Wd => ?_)
  obtain ⟨rfl, rfl, rfl⟩ := hp
  refine z_if_eq_b C0 (tgt := 21) dX12_loudness_6 (by decide) (fun c3 => ?_) (fun c3 => ?_)
  · skip
    refine z_iconst C0 dX12_loudness_21 ?_
    refine z_invVi (As := [.int (zI 0)]) (rest := []) C0 Wd (ct_X12_isThere l g ad zM0 zF0 False) kv_X12_isThere zN398 (zE_9 zK398) rfl zk_1754 rfl hl.1 rfl (Nat.le_of_ble_eq_true rfl) (by decide) (by decide) dX12_loudness_22 (fun r4 zMr4 zFr4 H locs hrr4 hp Wd => ?_)
    obtain ⟨rfl, rfl, rfl⟩ := hp
    replace Wd : zW g _ s.heap 410 ad (zu zM0 398 8 1) _ H locs := Wd
    refine z_top (show zI (zb (False)) = zI 0 from rfl) ?_
    replace hrr4 : zR 0 := hrr4
    refine z_if_eq C0 (tgt := 37) (zR_mk (by decide) (by decide)) dX12_loudness_25 (by decide) (fun _ => ?_) (fun h => absurd h (by decide))
    refine z_fconst0 C0 dX12_loudness_37 ?_
    exact z_fret C0 Wd hret hlk (Or.inl ⟨by omega, rfl, rfl, rfl⟩) dX12_loudness_38
  · skip
    refine z_aload_n C0 hl 0 rfl dX12_loudness_9 ?_
    refine z_iload_n C0 hl 2 rfl dX12_loudness_10 ?_
    refine z_invVi (As := [.int (zI x1)]) (rest := [.ref (ad 398)]) C0 Wd (ct_X12_isChamber l g ad zM0 zF0 x1 hx1 (by omega)) kv_X12_isChamber zN398 (zE_9 zK398) rfl zk_1703 rfl hl.1 rfl (Nat.le_of_ble_eq_true rfl) (by decide) (by decide) dX12_loudness_11 (fun r7 zMr7 zFr7 H locs hrr7 hp Wd => ?_)
    obtain ⟨rfl, rfl, rfl⟩ := hp
    refine z_if_eq_b C0 (tgt := 21) dX12_loudness_14 (by decide) (fun c9 => ?_) (fun c9 => ?_)
    · skip
      refine z_iconst C0 dX12_loudness_21 ?_
      refine z_invVi (As := [.int (zI 0)]) (rest := []) C0 Wd (ct_X12_isThere l g ad zM0 zF0 False) kv_X12_isThere zN398 (zE_9 zK398) rfl zk_1754 rfl hl.1 rfl (Nat.le_of_ble_eq_true rfl) (by decide) (by decide) dX12_loudness_22 (fun r10 zMr10 zFr10 H locs hrr10 hp Wd => ?_)
      obtain ⟨rfl, rfl, rfl⟩ := hp
      replace Wd : zW g _ s.heap 410 ad (zu zM0 398 8 1) _ H locs := Wd
      refine z_top (show zI (zb (False)) = zI 0 from rfl) ?_
      replace hrr10 : zR 0 := hrr10
      refine z_if_eq C0 (tgt := 37) (zR_mk (by decide) (by decide)) dX12_loudness_25 (by decide) (fun _ => ?_) (fun h => absurd h (by decide))
      refine z_fconst0 C0 dX12_loudness_37 ?_
      exact z_fret C0 Wd hret hlk (Or.inl ⟨by omega, rfl, rfl, rfl⟩) dX12_loudness_38
    · skip
      refine z_iconst C0 dX12_loudness_17 ?_
      refine z_goto C0 (tgt := 22) dX12_loudness_18 (by decide) ?_
      refine z_invVi (As := [.int (zI 1)]) (rest := []) C0 Wd (ct_X12_isThere l g ad zM0 zF0 True) kv_X12_isThere zN398 (zE_9 zK398) rfl zk_1754 rfl hl.1 rfl (Nat.le_of_ble_eq_true rfl) (by decide) (by decide) dX12_loudness_22 (fun r13 zMr13 zFr13 H locs hrr13 hp Wd => ?_)
      obtain ⟨rfl, rfl, rfl⟩ := hp
      replace Wd : zW g _ s.heap 410 ad (zu zM0 398 8 0) _ H locs := Wd
      refine z_top (show zI (zb (True)) = zI 1 from rfl) ?_
      replace hrr13 : zR 1 := hrr13
      refine z_if_eq C0 (tgt := 37) (zR_mk (by decide) (by decide)) dX12_loudness_25 (by decide) (fun h => absurd h (by decide)) (fun _ => ?_)
      refine z_aload_n C0 hl 0 rfl dX12_loudness_28 ?_
      refine z_iload_n C0 hl 1 rfl dX12_loudness_29 ?_
      refine z_iload_n C0 hl 2 rfl dX12_loudness_30 ?_
      refine z_invVf (As := [.int (zI x0), .int (zI x1)]) (rest := []) C0 Wd (ct_X12_loud l g ad (zu zM0 398 8 0) zF0 x0 hx0 x1 hx1 (by omega) (by omega) hT) kv_X12_loud zN398 (zE_9 zK398) rfl zk_1758 rfl hl.1 rfl (Nat.le_of_ble_eq_true rfl) (by decide) (by decide) dX12_loudness_31 (fun r16 zMr16 zFr16 H locs hp Wd => ?_)
      rcases hp with ⟨w_r16, rfl, rfl, rfl⟩
      · skip
        refine z_goto C0 (tgt := 38) dX12_loudness_34 (by decide) ?_
        exact z_fret C0 Wd hret hlk (Or.inr ⟨w_r16, by omega, rfl, rfl, rfl⟩) dX12_loudness_38
theorem kv_Jxf58ca_isNaN_12338 : zKS yJxf58ca_isNaN_12338 cJxf58ca_isNaN_12338 1 (some .boolean) 1 := ⟨zk_1772, zk_1771, zk_94, by decide, by decide, by decide +kernel⟩
set_option maxHeartbeats 4000000 in
set_option maxRecDepth 100000 in
theorem ct_Jxf58ca_isNaN_12338 (l : Launch) (g : zG) (ad : Int → Nat) (zM0 zF0 : zMem) (x0 : UInt32) (hx : zf32 x0) : zMt l yJxf58ca_isNaN_12338 cJxf58ca_isNaN_12338 1 (some .boolean) 0 0 0 g 410 ad [.float x0] zM0 zF0 (zPi (fun r M' F' => 0 = r ∧ zM0 = M' ∧ zF0 = F')) := by
  refine zMt.ofF "java/lang/Float" rfl (by decide +kernel) (Nat.le_of_ble_eq_true rfl) (fun {p e s m args below meth c ls} C0 Wd hl hret hlk hin => ?_)
  have hl : lv_has ls 1 [(0, .float x0)] := hl
  refine z_fload_n C0 hl 0 rfl dJxf58ca_isNaN_12338_0 ?_
  refine z_fload_n C0 hl 0 rfl dJxf58ca_isNaN_12338_1 ?_
  refine z_fcmp C0 (v := 0) (zf_cmpv hx) dJxf58ca_isNaN_12338_2 ?_
  refine z_if_eq C0 (tgt := 10) (zR_mk (by decide) (by decide)) dJxf58ca_isNaN_12338_3 (by decide) (fun _ => ?_) (fun h => absurd h (by decide))
  refine z_iconst C0 dJxf58ca_isNaN_12338_10 ?_
  exact z_zret C0 Wd hret hlk (by decide) ⟨by first | rfl | (simp only [zb]; first | rfl | (split <;> omega) | omega) | (simp [zb, *]; done) | omega, by first | rfl | (simp [zb, *]; done), rfl⟩ dJxf58ca_isNaN_12338_11
theorem kv_Jxf58ca_floatToIntBits_5c35a : zKS yJxf58ca_floatToIntBits_5c35a cJxf58ca_floatToIntBits_5c35a 1 (some .int) 1 := ⟨zk_1769, zk_1768, zk_94, by decide, by decide, by decide +kernel⟩
set_option maxHeartbeats 4000000 in
set_option maxRecDepth 100000 in
theorem ct_Jxf58ca_floatToIntBits_5c35a (l : Launch) (g : zG) (ad : Int → Nat) (zM0 zF0 : zMem) (x0 : UInt32) (hx : zf32 x0) : zMt l yJxf58ca_floatToIntBits_5c35a cJxf58ca_floatToIntBits_5c35a 1 (some .int) 1 0 0 g 410 ad [.float x0] zM0 zF0 (zPi (fun r M' F' => x0.toInt32.toInt = r ∧ zM0 = M' ∧ zF0 = F')) := by
  refine zMt.ofF "java/lang/Float" rfl (by decide +kernel) (Nat.le_of_ble_eq_true rfl) (fun {p e s m args below meth c ls} C0 Wd hl hret hlk hin => ?_)
  have hl : lv_has ls 1 [(0, .float x0)] := hl
  refine z_fload_n C0 hl 0 rfl dJxf58ca_floatToIntBits_5c35a_0 ?_
  refine z_invSi (As := [.float x0]) (rest := []) C0 Wd (ct_Jxf58ca_isNaN_12338 l g ad zM0 zF0 x0 hx) kv_Jxf58ca_isNaN_12338 zk_1770 rfl hl.1 rfl (Nat.le_of_ble_eq_true rfl) (by decide) (by decide) dJxf58ca_floatToIntBits_5c35a_1 (fun r1 zMr1 zFr1 H locs hrr1 hp Wd => ?_)
  obtain ⟨rfl, rfl, rfl⟩ := hp
  refine z_if_ne C0 (tgt := 12) (zR_mk (by decide) (by decide)) dJxf58ca_floatToIntBits_5c35a_4 (by decide) (fun h => absurd h (by decide)) (fun _ => ?_)
  refine z_fload_n C0 hl 0 rfl dJxf58ca_floatToIntBits_5c35a_7 ?_
  refine z_fraw C0 hl.1 (v := x0.toInt32.toInt) (zI_of _).symm (by decide) zk_1773 zk_1775 zk_1774 zk_94 dJxf58ca_floatToIntBits_5c35a_8 ?_
  exact z_iret C0 Wd hret hlk (zR_of _) ⟨by first | rfl | (simp only [zb]; first | rfl | (split <;> omega) | omega) | (simp [zb, *]; done) | omega, by first | rfl | (simp [zb, *]; done), rfl⟩ dJxf58ca_floatToIntBits_5c35a_11
theorem kv_X12_loudnessBits : zKV yX12_loudnessBits cX12_loudnessBits 4 (some .int) "DrumWarrenModel" 2 := ⟨zk_1765, zk_1763, zk_1764, zk_80, by decide, by decide, by decide +kernel⟩
set_option maxHeartbeats 4000000 in
set_option maxRecDepth 100000 in
theorem ct_X12_loudnessBits (l : Launch) (g : zG) (ad : Int → Nat) (zM0 zF0 : zMem) (x0 : Int) (hx0 : zR x0) (x1 : Int) (hx1 : zR x1) (h0 : 0 ≤ zM0 399 0 ∧ zM0 399 0 ≤ 8) (hT : ∀ i, 8 ≤ i → i < 72 → 0 ≤ zM0 399 i ∧ zM0 399 i ≤ 9) : zMt l yX12_loudnessBits cX12_loudnessBits 4 (some .int) 4 0 0 g 410 ad [.ref (ad 398), .int (zI x0), .int (zI x1)] zM0 zF0 (zPi (fun r M' F' => ((¬ (zisC (zM0 399) x0 ∧ zisC (zM0 399) x1)) ∧ 0 = r ∧ (zu zM0 398 8 1) = M' ∧ zF0 = F') ∨ (∃ w : Int → Int, (zisC (zM0 399) x0 ∧ zisC (zM0 399) x1) ∧ (zLd x0 x1 (zM0 399)).toInt32.toInt = r ∧ (zrow (zu zM0 398 8 0) 404 w) = M' ∧ zF0 = F'))) := by
  refine zMt.of "DrumWarrenModel" rfl (by decide +kernel) (Nat.le_of_ble_eq_true rfl) (fun {p e s m args below meth c ls} C0 Wd hl hret hlk hin => ?_)
  have hl : lv_has ls 4 [(0, .ref (ad 398)), (1, .int (zI x0)), (2, .int (zI x1))] := hl
  refine z_aload_n C0 hl 0 rfl dX12_loudnessBits_0 ?_
  refine z_iload_n C0 hl 1 rfl dX12_loudnessBits_1 ?_
  refine z_iload_n C0 hl 2 rfl dX12_loudnessBits_2 ?_
  refine z_invVf (As := [.int (zI x0), .int (zI x1)]) (rest := []) C0 Wd (ct_X12_loudness l g ad zM0 zF0 x0 hx0 x1 hx1 (by omega) hT) kv_X12_loudness zN398 (zE_9 zK398) rfl zk_1766 rfl hl.1 rfl (Nat.le_of_ble_eq_true rfl) (by decide) (by decide) dX12_loudnessBits_3 (fun r1 zMr1 zFr1 H locs hp Wd => ?_)
  rcases hp with ⟨hr1_0_0, rfl, rfl, rfl⟩ | ⟨w_r1, hr1_1_0, rfl, rfl, rfl⟩
  · skip
    refine z_fstore_n C0 hl [(3, .float FP.fconst0), (0, .ref (ad 398)), (1, .int (zI x0)), (2, .int (zI x1))] (by decide) rfl dX12_loudnessBits_6 (fun ls hl => ?_)
    refine z_aload_n C0 hl 1 rfl dX12_loudnessBits_7 ?_
    refine zg_9_8 C0 Wd zN398 zK398 zk_1620 dX12_loudnessBits_8 ?_
    obtain ⟨he5, hz3⟩ : ((zu zM0 398 8 1) 398 8) = 1 ∧ zR 1 := (fun q => ⟨q, q ▸ Wd.rm _ _⟩) (zu_same _ _ _ _)
    refine z_top (congrArg zI he5) ?_
    clear he5
    refine z_if_le C0 (tgt := 18) (zR_mk (by decide) (by decide)) dX12_loudnessBits_11 (by decide) (fun h => absurd h (by decide)) (fun _ => ?_)
    refine z_iconst C0 dX12_loudnessBits_14 ?_
    refine z_goto C0 (tgt := 22) dX12_loudnessBits_15 (by decide) ?_
    exact z_iret C0 Wd hret hlk (zR_mk (by decide) (by decide)) (Or.inl ⟨by assumption, rfl, rfl, rfl⟩) dX12_loudnessBits_22
  · skip
    refine z_fstore_n C0 hl [(3, .float (zLd x0 x1 (zM0 399))), (0, .ref (ad 398)), (1, .int (zI x0)), (2, .int (zI x1))] (by decide) rfl dX12_loudnessBits_6 (fun ls hl => ?_)
    refine z_aload_n C0 hl 1 rfl dX12_loudnessBits_7 ?_
    refine zg_9_8 C0 Wd zN398 zK398 zk_1620 dX12_loudnessBits_8 ?_
    obtain ⟨he9, hz7⟩ : ((zrow (zu zM0 398 8 0) 404 w_r1) 398 8) = 0 ∧ zR 0 := (fun q => ⟨q, q ▸ Wd.rm _ _⟩) ((congrFun (zrow_ne (by decide)) _).trans (zu_same _ _ _ _))
    refine z_top (congrArg zI he9) ?_
    clear he9
    refine z_if_le C0 (tgt := 18) (zR_mk (by decide) (by decide)) dX12_loudnessBits_11 (by decide) (fun _ => ?_) (fun h => absurd h (by decide))
    refine z_fload_n C0 hl 0 rfl dX12_loudnessBits_18 ?_
    refine z_invSi (As := [.float (zLd x0 x1 (zM0 399))]) (rest := []) C0 Wd (ct_Jxf58ca_floatToIntBits_5c35a l g ad (zrow (zu zM0 398 8 0) 404 w_r1) zF0 (zLd x0 x1 (zM0 399)) (zLd_ok hT (by omega))) kv_Jxf58ca_floatToIntBits_5c35a zk_1767 rfl hl.1 rfl (Nat.le_of_ble_eq_true rfl) (by decide) (by decide) dX12_loudnessBits_19 (fun r11 zMr11 zFr11 H locs hrr11 hp Wd => ?_)
    obtain ⟨rfl, rfl, rfl⟩ := hp
    exact z_iret C0 Wd hret hlk hrr11 (Or.inr ⟨w_r1, by assumption, rfl, rfl, rfl⟩) dX12_loudnessBits_22
theorem kv_X12_meanLoudness : zKV yX12_meanLoudness cX12_meanLoudness 4 (some .float) "DrumWarrenModel" 1 := ⟨zk_1975, zk_1973, zk_1974, zk_80, by decide, by decide, by decide +kernel⟩
set_option maxHeartbeats 4000000 in
set_option maxRecDepth 100000 in
theorem ct_X12_meanLoudness (l : Launch) (g : zG) (ad : Int → Nat) (zM0 zF0 : zMem) (x0 : Int) (hx0 : zR x0) (h0 : 0 ≤ zM0 399 0 ∧ zM0 399 0 ≤ 8) (hT : ∀ i, 8 ≤ i → i < 72 → 0 ≤ zM0 399 i ∧ zM0 399 i ≤ 9) : zMt l yX12_meanLoudness cX12_meanLoudness 4 (some .float) 3 0 0 g 410 ad [.ref (ad 398), .int (zI x0)] zM0 zF0 (zPf (fun r M' F' => ((¬ zisC (zM0 399) x0) ∧ FP.fconst0 = r ∧ (zu zM0 398 8 1) = M' ∧ zF0 = F') ∨ (∃ w : Int → Int, (zisC (zM0 399) x0) ∧ (zMl x0 (zM0 399)) = r ∧ (zrow (zu zM0 398 8 0) 404 w) = M' ∧ zF0 = F'))) := by
  refine zMt.of "DrumWarrenModel" rfl (by decide +kernel) (Nat.le_of_ble_eq_true rfl) (fun {p e s m args below meth c ls} C0 Wd hl hret hlk hin => ?_)
  have hl : lv_has ls 4 [(0, .ref (ad 398)), (1, .int (zI x0))] := hl
  refine z_aload_n C0 hl 0 rfl dX12_meanLoudness_0 ?_
  refine z_aload_n C0 hl 0 rfl dX12_meanLoudness_1 ?_
  refine z_iload_n C0 hl 1 rfl dX12_meanLoudness_2 ?_
  refine z_invVi (As := [.int (zI x0)]) (rest := [.ref (ad 398)]) C0 Wd (ct_X12_isChamber l g ad zM0 zF0 x0 hx0 (by omega)) kv_X12_isChamber zN398 (zE_9 zK398) rfl zk_1703 rfl hl.1 rfl (Nat.le_of_ble_eq_true rfl) (by decide) (by decide) dX12_meanLoudness_3 (fun r1 zMr1 zFr1 H locs hrr1 hp Wd => ?_)
  obtain ⟨rfl, rfl, rfl⟩ := hp
  refine z_invVi (As := [.int (zI (zb (0 ≤ x0 ∧ x0 < (zM0 399 0))))]) (rest := []) C0 Wd (ct_X12_isThere l g ad zM0 zF0 (0 ≤ x0 ∧ x0 < (zM0 399 0))) kv_X12_isThere zN398 (zE_9 zK398) rfl zk_1754 rfl hl.1 rfl (Nat.le_of_ble_eq_true rfl) (by decide) (by decide) dX12_meanLoudness_6 (fun r3 zMr3 zFr3 H locs hrr3 hp Wd => ?_)
  obtain ⟨rfl, rfl, rfl⟩ := hp
  refine z_if_ne_b C0 (tgt := 14) dX12_meanLoudness_9 (by decide) (fun c5 => ?_) (fun c5 => ?_)
  · skip
    replace Wd : zW g (zA 410 ad s.heap.size) s.heap 410 ad (zu zM0 398 8 0) zF0 H locs := by (have e0 : zb (¬ (0 ≤ x0 ∧ x0 < zM0 399 0)) = 0 := zb_f (fun z => z (by assumption))); rw [e0] at Wd; exact Wd
    refine z_fconst0 C0 dX12_meanLoudness_14 ?_
    refine z_fstore_n C0 hl [(2, .float FP.fconst0), (0, .ref (ad 398)), (1, .int (zI x0))] (by decide) rfl dX12_meanLoudness_15 (fun ls hl => ?_)
    refine z_iconst C0 dX12_meanLoudness_16 ?_
    refine z_istore_n C0 hl [(3, .int (zI 0)), (2, .float FP.fconst0), (0, .ref (ad 398)), (1, .int (zI x0))] (by decide) rfl dX12_meanLoudness_17 (fun ls hl => ?_)
    have aft18 : ∀ (k18 : Nat) (hk18 : (k18 : Int) ≤ (zM0 399 0)) (u2 : UInt32) (r18 : Int → Int) (hu : u2 = (zMls x0 (zM0 399) k18)) (hx18 : (k18 : Int) = (zM0 399 0)) (H : Heap) (locs : List Loc) (ls : Array Slot) (Wd : zW g (zA 410 ad s.heap.size) s.heap 410 ad (zrow (zu zM0 398 8 0) 404 r18) zF0 H locs) (hl : lv_has ls 4 [(0, .ref (ad 398)), (1, .int (zI x0)), (2, .float u2), (3, .int (zI (k18 : Int)))]), W p l e (zrm 3 0 0) s m args below meth c H locs 0 0 (zMQ below g 410 ad (zPf (fun r M' F' => ((¬ zisC (zM0 399) x0) ∧ FP.fconst0 = r ∧ (zu zM0 398 8 1) = M' ∧ zF0 = F') ∨ (∃ w : Int → Int, (zisC (zM0 399) x0) ∧ (zMl x0 (zM0 399)) = r ∧ (zrow (zu zM0 398 8 0) 404 w) = M' ∧ zF0 = F'))) args s 0 0) (F0 m 43 ls []) := by
      intro k18 hk18 u2 r18 hu hx18 H locs ls Wd hl
      replace hl : lv_has ls 4 [(0, .ref (ad 398)), (1, .int (zI x0)), (2, .float u2)] := lv_sub hl [0, 1, 2] rfl
      have ek : k18 = (zM0 399 0).toNat := by omega
      refine z_fload_n C0 hl 2 rfl dX12_meanLoudness_43 ?_
      refine z_aload_n C0 hl 0 rfl dX12_meanLoudness_44 ?_
      refine zg_9_0 C0 Wd zN398 zK398 zk_1612 dX12_meanLoudness_45 ?_
      refine z_iconst C0 dX12_meanLoudness_48 ?_
      refine z_iald C0 Wd zN399 zK399 zL399 (by decide) (by decide) (by decide) dX12_meanLoudness_49 ?_
      obtain ⟨he8, hz6⟩ : ((zrow (zu zM0 398 8 0) 404 r18) 399 0) = (zM0 399 0) ∧ zR (zM0 399 0) := (fun q => ⟨q, q ▸ Wd.rm _ _⟩) ((congrFun (zrow_ne (by decide)) _).trans (zu_ne (by omega)))
      refine z_top (congrArg zI he8) ?_
      clear he8
      refine z_i2f C0 dX12_meanLoudness_50 ?_
      refine z_fdiv C0 (zf_ok32 (by rw [hu]; exact zf_div32 (zMls_ok hT (by omega) _) (zf_cn (by omega) (by omega)))) dX12_meanLoudness_51 ?_
      exact z_fret C0 Wd hret hlk (Or.inr ⟨_, by omega, by rw [hu, ek]; rfl, rfl, rfl⟩) dX12_meanLoudness_52
    have lp18 : ∀ (d18 k18 : Nat) (hk18 : (k18 : Int) + d18 = (zM0 399 0)) (u2 : UInt32) (r18 : Int → Int) (hu : u2 = (zMls x0 (zM0 399) k18)) (H : Heap) (locs : List Loc) (ls : Array Slot) (Wd : zW g (zA 410 ad s.heap.size) s.heap 410 ad (zrow (zu zM0 398 8 0) 404 r18) zF0 H locs) (hl : lv_has ls 4 [(0, .ref (ad 398)), (1, .int (zI x0)), (2, .float u2), (3, .int (zI (k18 : Int)))]), W p l e (zrm 3 0 0) s m args below meth c H locs 0 0 (zMQ below g 410 ad (zPf (fun r M' F' => ((¬ zisC (zM0 399) x0) ∧ FP.fconst0 = r ∧ (zu zM0 398 8 1) = M' ∧ zF0 = F') ∨ (∃ w : Int → Int, (zisC (zM0 399) x0) ∧ (zMl x0 (zM0 399)) = r ∧ (zrow (zu zM0 398 8 0) 404 w) = M' ∧ zF0 = F'))) args s 0 0) (F0 m 18 ls []) := by
      intro d18
      induction d18 with
      | zero =>
        intro k18 hk18 u2 r18 hu H locs ls Wd hl
        refine z_iload_n C0 hl 3 rfl dX12_meanLoudness_18 ?_
        refine z_aload_n C0 hl 0 rfl dX12_meanLoudness_19 ?_
        refine zg_9_0 C0 Wd zN398 zK398 zk_1612 dX12_meanLoudness_20 ?_
        refine z_iconst C0 dX12_meanLoudness_23 ?_
        refine z_iald C0 Wd zN399 zK399 zL399 (by decide) (by decide) (by decide) dX12_meanLoudness_24 ?_
        obtain ⟨he11, hz9⟩ : ((zrow (zu zM0 398 8 0) 404 r18) 399 0) = (zM0 399 0) ∧ zR (zM0 399 0) := (fun q => ⟨q, q ▸ Wd.rm _ _⟩) ((congrFun (zrow_ne (by decide)) _).trans (zu_ne (by omega)))
        refine z_top (congrArg zI he11) ?_
        clear he11
        refine z_icmp_ge C0 (tgt := 43) (zR_mk (by omega) (by omega)) hz9 dX12_meanLoudness_25 (by decide) (fun c12 => ?_) (fun c12 => ?_)
        · skip
          first | exact aft18 k18 (by omega) u2 r18 hu (by first | assumption | omega) _ _ _ Wd (lv_sub hl [0, 1, 2, 3] rfl) | (exfalso; omega)
        · skip
          exfalso; omega
      | succ d18 ih18 =>
        intro k18 hk18 u2 r18 hu H locs ls Wd hl
        refine z_iload_n C0 hl 3 rfl dX12_meanLoudness_18 ?_
        refine z_aload_n C0 hl 0 rfl dX12_meanLoudness_19 ?_
        refine zg_9_0 C0 Wd zN398 zK398 zk_1612 dX12_meanLoudness_20 ?_
        refine z_iconst C0 dX12_meanLoudness_23 ?_
        refine z_iald C0 Wd zN399 zK399 zL399 (by decide) (by decide) (by decide) dX12_meanLoudness_24 ?_
        obtain ⟨he15, hz13⟩ : ((zrow (zu zM0 398 8 0) 404 r18) 399 0) = (zM0 399 0) ∧ zR (zM0 399 0) := (fun q => ⟨q, q ▸ Wd.rm _ _⟩) ((congrFun (zrow_ne (by decide)) _).trans (zu_ne (by omega)))
        refine z_top (congrArg zI he15) ?_
        clear he15
        refine z_icmp_ge C0 (tgt := 43) (zR_mk (by omega) (by omega)) hz13 dX12_meanLoudness_25 (by decide) (fun c16 => ?_) (fun c16 => ?_)
        · skip
          first | exact aft18 k18 (by omega) u2 r18 hu (by first | assumption | omega) _ _ _ Wd (lv_sub hl [0, 1, 2, 3] rfl) | (exfalso; omega)
        · skip
          refine z_fload_n C0 hl 2 rfl dX12_meanLoudness_28 ?_
          refine z_aload_n C0 hl 0 rfl dX12_meanLoudness_29 ?_
          refine z_iload_n C0 hl 3 rfl dX12_meanLoudness_30 ?_
          refine z_iload_n C0 hl 1 rfl dX12_meanLoudness_31 ?_
          refine z_invVf (As := [.int (zI (k18 : Int)), .int (zI x0)]) (rest := [.float u2]) C0 Wd (ct_X12_loud l g ad (zrow (zu zM0 398 8 0) 404 r18) zF0 (k18 : Int) (zR_mk (by omega) (by omega)) x0 hx0 (by omega) (by omega) hT) kv_X12_loud zN398 (zE_9 zK398) rfl zk_1758 rfl hl.1 rfl (Nat.le_of_ble_eq_true rfl) (by decide) (by decide) dX12_meanLoudness_32 (fun r17 zMr17 zFr17 H locs hp Wd => ?_)
          rcases hp with ⟨w_r17, rfl, rfl, rfl⟩
          · skip
            replace Wd := zW.mem Wd (show _ = (zrow (zu zM0 398 8 0) 404 w_r17) from (zrow_twice (zu zM0 398 8 0) 404 r18 w_r17))
            refine z_fadd C0 (zf_ok32 (by rw [hu]; exact zf_add32 (zMls_ok hT (by omega) _) (zLd_ok hT (by omega)))) dX12_meanLoudness_35 ?_
            refine z_fstore_n C0 hl [(2, .float (FP.fadd u2 (zLd (k18 : Int) x0 (zM0 399)))), (0, .ref (ad 398)), (1, .int (zI x0)), (3, .int (zI (k18 : Int)))] (by decide) rfl dX12_meanLoudness_36 (fun ls hl => ?_)
            refine z_iinc C0 hl 3 (t := (k18 : Int)) (u := ((k18 : Int) + 1)) rfl (by omega) [(3, .int (zI ((k18 : Int) + 1))), (2, .float (FP.fadd u2 (zLd (k18 : Int) x0 (zM0 399)))), (0, .ref (ad 398)), (1, .int (zI x0))] (by decide) rfl dX12_meanLoudness_37 (fun ls hl => ?_)
            refine z_goto C0 (tgt := 18) dX12_meanLoudness_40 (by decide) ?_
            exact ih18 (k18 + 1) (by omega) (FP.fadd u2 (zLd (k18 : Int) x0 (zM0 399))) w_r17 (by rw [hu]; rfl) _ _ _ Wd (lv_sub hl [2, 3, 1, 0] rfl)
    exact lp18 ((zM0 399 0)).toNat 0 (by omega) FP.fconst0 (zM0 404) rfl _ _ _ (Wd.mem (zrow_eta (zu zM0 398 8 0) 404).symm) (lv_sub hl [2, 3, 1, 0] rfl)
  · skip
    refine z_fconst0 C0 dX12_meanLoudness_12 ?_
    exact z_fret C0 Wd hret hlk (Or.inl ⟨by assumption, rfl, by rw [zb_t (by assumption)], rfl⟩) dX12_meanLoudness_13
theorem kv_X12_deliveryFraction : zKV yX12_deliveryFraction cX12_deliveryFraction 2 (some .double) "DrumWarrenModel" 0 := ⟨zk_1979, zk_1977, zk_1978, zk_80, by decide, by decide, by decide +kernel⟩
set_option maxHeartbeats 4000000 in
set_option maxRecDepth 100000 in
theorem ct_X12_deliveryFraction (l : Launch) (g : zG) (ad : Int → Nat) (zM0 zF0 : zMem) (h67 : (0 ≤ zM0 399 6 ∧ zM0 399 6 < 1000000000) ∧ 0 ≤ zM0 399 7 ∧ zM0 399 7 < 1000000000) : zMt l yX12_deliveryFraction cX12_deliveryFraction 2 (some .double) 1 0 0 g 410 ad [.ref (ad 398)] zM0 zF0 (zPd (fun r M' F' => ((zM0 399 6 + zM0 399 7 ≤ 0) ∧ FP.dconst0 = r ∧ (zu zM0 398 8 1) = M' ∧ zF0 = F') ∨ ((0 < zM0 399 6 + zM0 399 7) ∧ (zDf (zM0 399)) = r ∧ (zu zM0 398 8 0) = M' ∧ zF0 = F'))) := by
  refine zMt.of "DrumWarrenModel" rfl (by decide +kernel) (Nat.le_of_ble_eq_true rfl) (fun {p e s m args below meth c ls} C0 Wd hl hret hlk hin => ?_)
  have hl : lv_has ls 2 [(0, .ref (ad 398))] := hl
  refine z_aload_n C0 hl 0 rfl dX12_deliveryFraction_0 ?_
  refine zg_9_0 C0 Wd zN398 zK398 zk_1612 dX12_deliveryFraction_1 ?_
  refine z_bipush C0 dX12_deliveryFraction_4 (by decide) ?_
  refine z_iald C0 Wd zN399 zK399 zL399 (by decide) (by decide) (by decide) dX12_deliveryFraction_6 ?_
  have hz1 : zR (zM0 399 6) := Wd.rm _ _
  refine z_aload_n C0 hl 0 rfl dX12_deliveryFraction_7 ?_
  refine zg_9_0 C0 Wd zN398 zK398 zk_1612 dX12_deliveryFraction_8 ?_
  refine z_bipush C0 dX12_deliveryFraction_11 (by decide) ?_
  refine z_iald C0 Wd zN399 zK399 zL399 (by decide) (by decide) (by decide) dX12_deliveryFraction_13 ?_
  have hz2 : zR (zM0 399 7) := Wd.rm _ _
  refine z_iadd C0 dX12_deliveryFraction_14 ?_
  refine z_istore_n C0 hl [(1, .int (zI ((zM0 399 6) + (zM0 399 7)))), (0, .ref (ad 398))] (by decide) rfl dX12_deliveryFraction_15 (fun ls hl => ?_)
  refine z_aload_n C0 hl 1 rfl dX12_deliveryFraction_16 ?_
  refine z_iload_n C0 hl 0 rfl dX12_deliveryFraction_17 ?_
  refine z_if_le C0 (tgt := 25) (by have q0 := hz1.1; have p0 := hz1.2; have q1 := hz2.1; have p1 := hz2.2; exact zR_mk (by omega) (by omega)) dX12_deliveryFraction_18 (by decide) (fun c3 => ?_) (fun c3 => ?_)
  · skip
    refine z_iconst C0 dX12_deliveryFraction_25 ?_
    refine z_invVi (As := [.int (zI 0)]) (rest := []) C0 Wd (ct_X12_isThere l g ad zM0 zF0 False) kv_X12_isThere zN398 (zE_9 zK398) rfl zk_1754 rfl hl.1 rfl (Nat.le_of_ble_eq_true rfl) (by decide) (by decide) dX12_deliveryFraction_26 (fun r4 zMr4 zFr4 H locs hrr4 hp Wd => ?_)
    obtain ⟨rfl, rfl, rfl⟩ := hp
    replace Wd : zW g _ s.heap 410 ad (zu zM0 398 8 1) _ H locs := Wd
    refine z_top (show zI (zb (False)) = zI 0 from rfl) ?_
    replace hrr4 : zR 0 := hrr4
    refine z_if_eq C0 (tgt := 46) (zR_mk (by decide) (by decide)) dX12_deliveryFraction_29 (by decide) (fun _ => ?_) (fun h => absurd h (by decide))
    refine z_dconst0 C0 dX12_deliveryFraction_46 ?_
    exact z_dret C0 Wd hret hlk (Or.inl ⟨by assumption, rfl, rfl, rfl⟩) dX12_deliveryFraction_47
  · skip
    refine z_iconst C0 dX12_deliveryFraction_21 ?_
    refine z_goto C0 (tgt := 26) dX12_deliveryFraction_22 (by decide) ?_
    refine z_invVi (As := [.int (zI 1)]) (rest := []) C0 Wd (ct_X12_isThere l g ad zM0 zF0 True) kv_X12_isThere zN398 (zE_9 zK398) rfl zk_1754 rfl hl.1 rfl (Nat.le_of_ble_eq_true rfl) (by decide) (by decide) dX12_deliveryFraction_26 (fun r7 zMr7 zFr7 H locs hrr7 hp Wd => ?_)
    obtain ⟨rfl, rfl, rfl⟩ := hp
    replace Wd : zW g _ s.heap 410 ad (zu zM0 398 8 0) _ H locs := Wd
    refine z_top (show zI (zb (True)) = zI 1 from rfl) ?_
    replace hrr7 : zR 1 := hrr7
    refine z_if_eq C0 (tgt := 46) (zR_mk (by decide) (by decide)) dX12_deliveryFraction_29 (by decide) (fun h => absurd h (by decide)) (fun _ => ?_)
    refine z_aload_n C0 hl 1 rfl dX12_deliveryFraction_32 ?_
    refine zg_9_0 C0 Wd zN398 zK398 zk_1612 dX12_deliveryFraction_33 ?_
    refine z_bipush C0 dX12_deliveryFraction_36 (by decide) ?_
    refine z_iald C0 Wd zN399 zK399 zL399 (by decide) (by decide) (by decide) dX12_deliveryFraction_38 ?_
    obtain ⟨he12, hz10⟩ : ((zu zM0 398 8 0) 399 6) = (zM0 399 6) ∧ zR (zM0 399 6) := (fun q => ⟨q, q ▸ Wd.rm _ _⟩) (zu_ne (by omega))
    refine z_top (congrArg zI he12) ?_
    clear he12
    refine z_i2d C0 dX12_deliveryFraction_39 ?_
    refine z_iload_n C0 hl 0 rfl dX12_deliveryFraction_40 ?_
    refine z_i2d C0 dX12_deliveryFraction_41 ?_
    refine z_ddiv C0 (zf_ok64 (zDf_ok (V := zM0 399) (by omega) (by omega))) dX12_deliveryFraction_42 ?_
    refine z_goto C0 (tgt := 47) dX12_deliveryFraction_43 (by decide) ?_
    exact z_dret C0 Wd hret hlk (Or.inr ⟨by assumption, rfl, rfl, rfl⟩) dX12_deliveryFraction_47
