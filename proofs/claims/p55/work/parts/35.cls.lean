/-! the class: its small methods -/
theorem kv_X2_has : zKV yX2_has cX2_has 2 (some .boolean) "DrumWarren$Burrow" 1 := ⟨zk_593, zk_591, zk_592, zk_27, by decide, by decide, by decide +kernel⟩
set_option maxHeartbeats 4000000 in
set_option maxRecDepth 100000 in
theorem ct_X2_has (l : Launch) (g : zG) (zX : va_W) (ad : Int → Nat) (zM0 zF0 : zMem) (b : Int) (hb : zB b) (V : Int → Int) (x0 : Int) (hx0 : zR x0) (hB : zRB b V zM0) : zMt l yX2_has cX2_has 2 (some .boolean) 0 0 0 g (0, 398, zX) ad [.ref (ad (b + 1)), .int (zI x0)] zM0 zF0 (zPi (fun r M' F' => zb (0 ≤ x0 ∧ x0 < V 0) = r ∧ zM0 = M' ∧ zF0 = F')) := by
  refine zMt.of "DrumWarren$Burrow" rfl (by decide +kernel) (Nat.le_of_ble_eq_true rfl) (fun {p e s m args below meth c ls} C0 Wd hl hret hlk hin => ?_)
  have hl : lv_has ls 2 [(0, .ref (ad (b + 1))), (1, .int (zI x0))] := hl
  have e0 := hB.1
  refine z_iload_n C0 hl 1 rfl dX2_has_0 ?_
  refine z_if_lt C0 (tgt := 16) hx0 dX2_has_1 (by decide) (fun c1 => ?_) (fun c1 => ?_)
  · skip
    refine z_iconst C0 dX2_has_16 ?_
    exact z_zret C0 Wd hret hlk (by decide) ⟨by first | rfl | (rw [zb_t (by omega)]; done) | (rw [zb_f (by omega)]; done), rfl, rfl⟩ dX2_has_17
  · skip
    refine z_iload_n C0 hl 1 rfl dX2_has_4 ?_
    refine z_aload_n C0 hl 0 rfl dX2_has_5 ?_
    refine zg_1_0 C0 Wd (znB1 hb) (zkB1 hb) zk_93 dX2_has_6 ?_
    have hz2 : zR (zM0 (b + 1) 0) := Wd.rm _ _
    refine z_icmp_ge C0 (tgt := 16) hx0 hz2 dX2_has_9 (by decide) (fun c3 => ?_) (fun c3 => ?_)
    · skip
      refine z_iconst C0 dX2_has_16 ?_
      exact z_zret C0 Wd hret hlk (by decide) ⟨by first | rfl | (rw [zb_t (by omega)]; done) | (rw [zb_f (by omega)]; done), rfl, rfl⟩ dX2_has_17
    · skip
      refine z_iconst C0 dX2_has_12 ?_
      refine z_goto C0 (tgt := 17) dX2_has_13 (by decide) ?_
      exact z_zret C0 Wd hret hlk (by decide) ⟨by first | rfl | (rw [zb_t (by omega)]; done) | (rw [zb_f (by omega)]; done), rfl, rfl⟩ dX2_has_17
theorem kv_X2_delayOfTunnel : zKV yX2_delayOfTunnel cX2_delayOfTunnel 3 (some .int) "DrumWarren$Burrow" 2 := ⟨zk_601, zk_599, zk_600, zk_27, by decide, by decide, by decide +kernel⟩
set_option maxHeartbeats 4000000 in
set_option maxRecDepth 100000 in
theorem ct_X2_delayOfTunnel (l : Launch) (g : zG) (zX : va_W) (ad : Int → Nat) (zM0 zF0 : zMem) (b : Int) (hb : zB b) (V : Int → Int) (x0 : Int) (hx0 : zR x0) (x1 : Int) (hx1 : zR x1) (hB : zRB b V zM0) (h8 : V 0 ≤ 8) : zMt l yX2_delayOfTunnel cX2_delayOfTunnel 3 (some .int) 1 0 0 g (0, 398, zX) ad [.ref (ad (b + 1)), .int (zI x0), .int (zI x1)] zM0 zF0 (zPi (fun r M' F' => ((zisC V x0 ∧ zisC V x1) ∧ (V (8 + 8 * x0 + x1)) = r ∧ zM0 = M' ∧ zF0 = F') ∨ ((¬ (zisC V x0 ∧ zisC V x1)) ∧ 0 = r ∧ zM0 = M' ∧ zF0 = F'))) := by
  refine zMt.of "DrumWarren$Burrow" rfl (by decide +kernel) (Nat.le_of_ble_eq_true rfl) (fun {p e s m args below meth c ls} C0 Wd hl hret hlk hin => ?_)
  have hl : lv_has ls 3 [(0, .ref (ad (b + 1))), (1, .int (zI x0)), (2, .int (zI x1))] := hl
  have e2 := hB.2.1
  refine z_aload_n C0 hl 0 rfl dX2_delayOfTunnel_0 ?_
  refine z_iload_n C0 hl 1 rfl dX2_delayOfTunnel_1 ?_
  refine z_invVi (As := [.int (zI x0)]) (rest := []) C0 Wd (ct_X2_has l g zX ad zM0 zF0 b hb V x0 hx0 hB) kv_X2_has (znB1 hb) (zE_1 (zkB1 hb)) rfl zk_590 rfl hl.1 rfl (Nat.le_of_ble_eq_true rfl) (by decide) (by decide) dX2_delayOfTunnel_2 (fun r1 zMr1 zFr1 H locs hrr1 hp Wd => ?_)
  obtain ⟨rfl, rfl, rfl⟩ := hp
  refine z_if_eq_b C0 (tgt := 30) dX2_delayOfTunnel_5 (by decide) (fun c3 => ?_) (fun c3 => ?_)
  · skip
    refine z_iconst C0 dX2_delayOfTunnel_30 ?_
    exact z_iret C0 Wd hret hlk (zR_mk (by decide) (by decide)) (Or.inr ⟨by omega, rfl, rfl, rfl⟩) dX2_delayOfTunnel_31
  · skip
    refine z_aload_n C0 hl 0 rfl dX2_delayOfTunnel_8 ?_
    refine z_iload_n C0 hl 2 rfl dX2_delayOfTunnel_9 ?_
    refine z_invVi (As := [.int (zI x1)]) (rest := []) C0 Wd (ct_X2_has l g zX ad zM0 zF0 b hb V x1 hx1 hB) kv_X2_has (znB1 hb) (zE_1 (zkB1 hb)) rfl zk_590 rfl hl.1 rfl (Nat.le_of_ble_eq_true rfl) (by decide) (by decide) dX2_delayOfTunnel_10 (fun r4 zMr4 zFr4 H locs hrr4 hp Wd => ?_)
    obtain ⟨rfl, rfl, rfl⟩ := hp
    refine z_if_eq_b C0 (tgt := 30) dX2_delayOfTunnel_13 (by decide) (fun c6 => ?_) (fun c6 => ?_)
    · skip
      refine z_iconst C0 dX2_delayOfTunnel_30 ?_
      exact z_iret C0 Wd hret hlk (zR_mk (by decide) (by decide)) (Or.inr ⟨by omega, rfl, rfl, rfl⟩) dX2_delayOfTunnel_31
    · skip
      refine z_aload_n C0 hl 0 rfl dX2_delayOfTunnel_16 ?_
      refine zg_1_2 C0 Wd (znB1 hb) (zkB1 hb) zk_98 dX2_delayOfTunnel_17 ?_
      refine z_rf (show ((b + 1) + 1) = (b + 2) by omega) ?_
      refine z_iload_n C0 hl 1 rfl dX2_delayOfTunnel_20 ?_
      refine z_bipush C0 dX2_delayOfTunnel_21 (by decide) ?_
      refine z_imul C0 dX2_delayOfTunnel_23 ?_
      refine z_iload_n C0 hl 2 rfl dX2_delayOfTunnel_24 ?_
      refine z_iadd C0 dX2_delayOfTunnel_25 ?_
      refine z_iald C0 Wd (znB2 hb) (zkB2 hb) (zlB2 hb) (by omega) (by omega) (by decide) dX2_delayOfTunnel_26 ?_
      have hz7 : zR (zM0 (b + 2) ((x0 * 8) + x1)) := Wd.rm _ _
      refine z_goto C0 (tgt := 31) dX2_delayOfTunnel_27 (by decide) ?_
      exact z_iret C0 Wd hret hlk hz7 (Or.inl ⟨by omega, by rw [e2 (x0 * 8 + x1) (by omega) (by omega)]; exact congrArg V (by omega), rfl, rfl⟩) dX2_delayOfTunnel_31
theorem kv_X2_delayOfWay : zKV yX2_delayOfWay cX2_delayOfWay 3 (some .int) "DrumWarren$Burrow" 2 := ⟨zk_725, zk_723, zk_724, zk_27, by decide, by decide, by decide +kernel⟩
set_option maxHeartbeats 4000000 in
set_option maxRecDepth 100000 in
theorem ct_X2_delayOfWay (l : Launch) (g : zG) (zX : va_W) (ad : Int → Nat) (zM0 zF0 : zMem) (b : Int) (hb : zB b) (V : Int → Int) (x0 : Int) (hx0 : zR x0) (x1 : Int) (hx1 : zR x1) (hB : zRB b V zM0) (h8 : V 0 ≤ 8) : zMt l yX2_delayOfWay cX2_delayOfWay 3 (some .int) 1 0 0 g (0, 398, zX) ad [.ref (ad (b + 1)), .int (zI x0), .int (zI x1)] zM0 zF0 (zPi (fun r M' F' => ((zisC V x0 ∧ zisC V x1) ∧ (zBF V x0 x1) = r ∧ zM0 = M' ∧ zF0 = F') ∨ ((¬ (zisC V x0 ∧ zisC V x1)) ∧ 1000 = r ∧ zM0 = M' ∧ zF0 = F'))) := by
  refine zMt.of "DrumWarren$Burrow" rfl (by decide +kernel) (Nat.le_of_ble_eq_true rfl) (fun {p e s m args below meth c ls} C0 Wd hl hret hlk hin => ?_)
  have hl : lv_has ls 3 [(0, .ref (ad (b + 1))), (1, .int (zI x0)), (2, .int (zI x1))] := hl
  refine z_aload_n C0 hl 0 rfl dX2_delayOfWay_0 ?_
  refine z_iload_n C0 hl 1 rfl dX2_delayOfWay_1 ?_
  refine z_invVi (As := [.int (zI x0)]) (rest := []) C0 Wd (ct_X2_has l g zX ad zM0 zF0 b hb V x0 hx0 hB) kv_X2_has (znB1 hb) (zE_1 (zkB1 hb)) rfl zk_590 rfl hl.1 rfl (Nat.le_of_ble_eq_true rfl) (by decide) (by decide) dX2_delayOfWay_2 (fun r1 zMr1 zFr1 H locs hrr1 hp Wd => ?_)
  obtain ⟨rfl, rfl, rfl⟩ := hp
  refine z_if_eq_b C0 (tgt := 30) dX2_delayOfWay_5 (by decide) (fun c3 => ?_) (fun c3 => ?_)
  · skip
    refine z_sipush C0 dX2_delayOfWay_30 (by decide) ?_
    exact z_iret C0 Wd hret hlk (zR_mk (by decide) (by decide)) (Or.inr ⟨by omega, rfl, rfl, rfl⟩) dX2_delayOfWay_33
  · skip
    refine z_aload_n C0 hl 0 rfl dX2_delayOfWay_8 ?_
    refine z_iload_n C0 hl 2 rfl dX2_delayOfWay_9 ?_
    refine z_invVi (As := [.int (zI x1)]) (rest := []) C0 Wd (ct_X2_has l g zX ad zM0 zF0 b hb V x1 hx1 hB) kv_X2_has (znB1 hb) (zE_1 (zkB1 hb)) rfl zk_590 rfl hl.1 rfl (Nat.le_of_ble_eq_true rfl) (by decide) (by decide) dX2_delayOfWay_10 (fun r4 zMr4 zFr4 H locs hrr4 hp Wd => ?_)
    obtain ⟨rfl, rfl, rfl⟩ := hp
    refine z_if_eq_b C0 (tgt := 30) dX2_delayOfWay_13 (by decide) (fun c6 => ?_) (fun c6 => ?_)
    · skip
      refine z_sipush C0 dX2_delayOfWay_30 (by decide) ?_
      exact z_iret C0 Wd hret hlk (zR_mk (by decide) (by decide)) (Or.inr ⟨by omega, rfl, rfl, rfl⟩) dX2_delayOfWay_33
    · skip
      refine z_aload_n C0 hl 0 rfl dX2_delayOfWay_16 ?_
      refine zg_1_3 C0 Wd (znB1 hb) (zkB1 hb) zk_99 dX2_delayOfWay_17 ?_
      refine z_rf (show ((b + 1) + 2) = (b + 3) by omega) ?_
      refine z_iload_n C0 hl 1 rfl dX2_delayOfWay_20 ?_
      refine z_bipush C0 dX2_delayOfWay_21 (by decide) ?_
      refine z_imul C0 dX2_delayOfWay_23 ?_
      refine z_iload_n C0 hl 2 rfl dX2_delayOfWay_24 ?_
      refine z_iadd C0 dX2_delayOfWay_25 ?_
      refine z_iald C0 Wd (znB3 hb) (zkB3 hb) (zlB3 hb) (by omega) (by omega) (by decide) dX2_delayOfWay_26 ?_
      have hz7 : zR (zM0 (b + 3) ((x0 * 8) + x1)) := Wd.rm _ _
      refine z_goto C0 (tgt := 33) dX2_delayOfWay_27 (by decide) ?_
      exact z_iret C0 Wd hret hlk hz7 (Or.inl ⟨by omega, by rw [← hB.2.2 x0 x1 ⟨by omega, by omega⟩ ⟨by omega, by omega⟩, Int.mul_comm], rfl, rfl⟩) dX2_delayOfWay_33
theorem kv_X1_addThump : zKV yX1_addThump cX1_addThump 3 none "DrumWarren$Air" 2 := ⟨zk_736, zk_734, zk_735, zk_28, by decide, by decide, by decide +kernel⟩
set_option maxHeartbeats 4000000 in
set_option maxRecDepth 100000 in
theorem ct_X1_addThump (l : Launch) (g : zG) (zX : va_W) (ad : Int → Nat) (zM0 zF0 : zMem) (b : Int) (hb : zB b) (x0 : Int) (hx0 : zR x0) (x1 : Int) (hx1 : zR x1) (hc : zc8 x0) (hA : zM0 (b + 8) (x0 * 128 + x1 % 128) ≤ 2000000000) : zMt l yX1_addThump cX1_addThump 3 none 0 0 0 g (0, 398, zX) ad [.ref (ad (b + 7)), .int (zI x0), .int (zI x1)] zM0 zF0 (zPv (fun M' F' => (zu zM0 (b + 8) ((x0 * 128) + (x1 % 128)) ((zM0 (b + 8) ((x0 * 128) + (x1 % 128))) + 1)) = M' ∧ zF0 = F')) := by
  refine zMt.of "DrumWarren$Air" rfl (by decide +kernel) (Nat.le_of_ble_eq_true rfl) (fun {p e s m args below meth c ls} C0 Wd hl hret hlk hin => ?_)
  have hl : lv_has ls 3 [(0, .ref (ad (b + 7))), (1, .int (zI x0)), (2, .int (zI x1))] := hl
  refine z_iload_n C0 hl 1 rfl dX1_addThump_0 ?_
  refine z_if_lt C0 (tgt := 29) hx0 dX1_addThump_1 (by decide) (fun c1 => absurd c1 (by omega)) (fun c1 => ?_)
  refine z_iload_n C0 hl 1 rfl dX1_addThump_4 ?_
  refine z_bipush C0 dX1_addThump_5 (by decide) ?_
  refine z_icmp_ge C0 (tgt := 29) hx0 (zR_mk (by decide) (by decide)) dX1_addThump_7 (by decide) (fun c2 => absurd c2 (by omega)) (fun c2 => ?_)
  refine z_aload_n C0 hl 0 rfl dX1_addThump_10 ?_
  refine zg_0_0 C0 Wd (znB7 hb) (zkB7 hb) zk_123 dX1_addThump_11 ?_
  refine z_rf (show ((b + 7) + 1) = (b + 8) by omega) ?_
  refine z_iload_n C0 hl 1 rfl dX1_addThump_14 ?_
  refine z_sipush C0 dX1_addThump_15 (by decide) ?_
  refine z_imul C0 dX1_addThump_18 ?_
  refine z_iload_n C0 hl 2 rfl dX1_addThump_19 ?_
  refine z_bipush C0 dX1_addThump_20 (by decide) ?_
  refine z_iand C0 (v := (x1 % 128)) (zI_and127 hx1) dX1_addThump_22 ?_
  refine z_iadd C0 dX1_addThump_23 ?_
  refine z_dup2 C0 rfl rfl dX1_addThump_24 ?_
  refine z_iald C0 Wd (znB8 hb) (zkB8 hb) (zlB8 hb) (by omega) (by omega) (by decide) dX1_addThump_25 ?_
  have hz3 : zR (zM0 (b + 8) ((x0 * 128) + (x1 % 128))) := Wd.rm _ _
  refine z_iconst C0 dX1_addThump_26 ?_
  refine z_iadd C0 dX1_addThump_27 ?_
  refine z_iast C0 Wd (znB8 hb) (zkB8 hb) (zlB8 hb) (by omega) (by omega) (by decide) (by have q0 := hz3.1; have p0 := hz3.2; exact zR_mk (by omega) (by omega)) dX1_addThump_28 (fun H locs Wd => ?_)
  exact z_vret C0 Wd hret hlk ⟨by first | rfl | (simp [zb, *]; done), rfl⟩ dX1_addThump_29
theorem kv_X1_thumpsIn : zKV yX1_thumpsIn cX1_thumpsIn 3 (some .int) "DrumWarren$Air" 2 := ⟨zk_753, zk_751, zk_752, zk_28, by decide, by decide, by decide +kernel⟩
set_option maxHeartbeats 4000000 in
set_option maxRecDepth 100000 in
theorem ct_X1_thumpsIn (l : Launch) (g : zG) (zX : va_W) (ad : Int → Nat) (zM0 zF0 : zMem) (b : Int) (hb : zB b) (x0 : Int) (hx0 : zR x0) (x1 : Int) (hx1 : zR x1) (hc : zc8 x0) : zMt l yX1_thumpsIn cX1_thumpsIn 3 (some .int) 0 0 0 g (0, 398, zX) ad [.ref (ad (b + 7)), .int (zI x0), .int (zI x1)] zM0 zF0 (zPi (fun r M' F' => (zM0 (b + 8) ((x0 * 128) + (x1 % 128))) = r ∧ zM0 = M' ∧ zF0 = F')) := by
  refine zMt.of "DrumWarren$Air" rfl (by decide +kernel) (Nat.le_of_ble_eq_true rfl) (fun {p e s m args below meth c ls} C0 Wd hl hret hlk hin => ?_)
  have hl : lv_has ls 3 [(0, .ref (ad (b + 7))), (1, .int (zI x0)), (2, .int (zI x1))] := hl
  refine z_iload_n C0 hl 1 rfl dX1_thumpsIn_0 ?_
  refine z_if_lt C0 (tgt := 28) hx0 dX1_thumpsIn_1 (by decide) (fun c1 => absurd c1 (by omega)) (fun c1 => ?_)
  refine z_iload_n C0 hl 1 rfl dX1_thumpsIn_4 ?_
  refine z_bipush C0 dX1_thumpsIn_5 (by decide) ?_
  refine z_icmp_ge C0 (tgt := 28) hx0 (zR_mk (by decide) (by decide)) dX1_thumpsIn_7 (by decide) (fun c2 => absurd c2 (by omega)) (fun c2 => ?_)
  refine z_aload_n C0 hl 0 rfl dX1_thumpsIn_10 ?_
  refine zg_0_0 C0 Wd (znB7 hb) (zkB7 hb) zk_123 dX1_thumpsIn_11 ?_
  refine z_rf (show ((b + 7) + 1) = (b + 8) by omega) ?_
  refine z_iload_n C0 hl 1 rfl dX1_thumpsIn_14 ?_
  refine z_sipush C0 dX1_thumpsIn_15 (by decide) ?_
  refine z_imul C0 dX1_thumpsIn_18 ?_
  refine z_iload_n C0 hl 2 rfl dX1_thumpsIn_19 ?_
  refine z_bipush C0 dX1_thumpsIn_20 (by decide) ?_
  refine z_iand C0 (v := (x1 % 128)) (zI_and127 hx1) dX1_thumpsIn_22 ?_
  refine z_iadd C0 dX1_thumpsIn_23 ?_
  refine z_iald C0 Wd (znB8 hb) (zkB8 hb) (zlB8 hb) (by omega) (by omega) (by decide) dX1_thumpsIn_24 ?_
  have hz3 : zR (zM0 (b + 8) ((x0 * 128) + (x1 % 128))) := Wd.rm _ _
  refine z_goto C0 (tgt := 29) dX1_thumpsIn_25 (by decide) ?_
  exact z_iret C0 Wd hret hlk hz3 ⟨by first | rfl | (simp only [zb]; first | rfl | (split <;> omega) | omega) | (simp [zb, *]; done) | omega, by first | rfl | (simp [zb, *]; done), rfl⟩ dX1_thumpsIn_29
theorem kv_X1_copyFrom : zKV yX1_copyFrom cX1_copyFrom 2 none "DrumWarren$Air" 1 := ⟨zk_409, zk_407, zk_408, zk_28, by decide, by decide, by decide +kernel⟩
set_option maxHeartbeats 4000000 in
set_option maxRecDepth 100000 in
theorem ct_X1_copyFrom (l : Launch) (g : zG) (zX : va_W) (ad : Int → Nat) (zM0 zF0 : zMem) (b b2 : Int) (hb : zB b) (hb2 : zB b2) : zMt l yX1_copyFrom cX1_copyFrom 2 none 1 0 0 g (0, 398, zX) ad [.ref (ad (b + 7)), .ref (ad (b2 + 7))] zM0 zF0 (zPv (fun M' F' => (zrow zM0 (b + 8) (zM0 (b2 + 8))) = M' ∧ zF0 = F')) := by
  refine zMt.of "DrumWarren$Air" rfl (by decide +kernel) (Nat.le_of_ble_eq_true rfl) (fun {p e s m args below meth c ls} C0 Wd hl hret hlk hin => ?_)
  have hl : lv_has ls 2 [(0, .ref (ad (b + 7))), (1, .ref (ad (b2 + 7)))] := hl
  have hw0 := Wd.2
  refine z_aload_n C0 hl 1 rfl dX1_copyFrom_0 ?_
  refine zg_0_0 C0 Wd (znB7 hb2) (zkB7 hb2) zk_123 dX1_copyFrom_1 ?_
  refine z_rf (show ((b2 + 7) + 1) = (b2 + 8) by omega) ?_
  refine z_iconst C0 dX1_copyFrom_4 ?_
  refine z_aload_n C0 hl 0 rfl dX1_copyFrom_5 ?_
  refine zg_0_0 C0 Wd (znB7 hb) (zkB7 hb) zk_123 dX1_copyFrom_6 ?_
  refine z_rf (show ((b + 7) + 1) = (b + 8) by omega) ?_
  refine z_iconst C0 dX1_copyFrom_9 ?_
  refine z_sipush C0 dX1_copyFrom_10 (by decide) ?_
  refine z_copyi C0 Wd hl.1 (znB8 hb2) (znB8 hb) (zkB8 hb2) (zkB8 hb) (zlB8 hb2) (zlB8 hb) (by decide) (by decide) (by omega) (by omega) (by omega) (by omega) (by omega) (by decide) zk_410 dX1_copyFrom_13 (fun H locs Wd => ?_)
  replace Wd := zW.full Wd (zkB8 hb) (by rw [(zlB8 hb)]; rfl) (zM0 (b2 + 8)) (fun j _ _ => by rw [Int.zero_add]; first | done | (repeat (first | rw [zu_ne (by omega)] | rw [zrow_ne (by omega)]))) (fun j => hw0 (b2 + 8) j)
  exact z_vret C0 Wd hret hlk ⟨by first | rfl | (simp [zb, *]; done), rfl⟩ dX1_copyFrom_16
theorem kv_X2_copyFrom : zKV yX2_copyFrom cX2_copyFrom 2 none "DrumWarren$Burrow" 1 := ⟨zk_393, zk_391, zk_392, zk_27, by decide, by decide, by decide +kernel⟩
set_option maxHeartbeats 4000000 in
set_option maxRecDepth 100000 in
theorem ct_X2_copyFrom (l : Launch) (g : zG) (zX : va_W) (ad : Int → Nat) (zM0 zF0 : zMem) (b b2 : Int) (hb : zB b) (hb2 : zB b2) (hd : b + 31 ≤ b2 ∨ b2 + 31 ≤ b) : zMt l yX2_copyFrom cX2_copyFrom 2 none 1 0 0 g (0, 398, zX) ad [.ref (ad (b + 1)), .ref (ad (b2 + 1))] zM0 zF0 (zPv (fun M' F' => (zrow (zrow (zu (zu zM0 (b + 1) 0 (zM0 (b2 + 1) 0)) (b + 1) 1 (zM0 (b2 + 1) 1)) (b + 2) (zM0 (b2 + 2))) (b + 3) (zM0 (b2 + 3))) = M' ∧ zF0 = F')) := by
  refine zMt.of "DrumWarren$Burrow" rfl (by decide +kernel) (Nat.le_of_ble_eq_true rfl) (fun {p e s m args below meth c ls} C0 Wd hl hret hlk hin => ?_)
  have hl : lv_has ls 2 [(0, .ref (ad (b + 1))), (1, .ref (ad (b2 + 1)))] := hl
  have hw0 := Wd.2
  refine z_aload_n C0 hl 0 rfl dX2_copyFrom_0 ?_
  refine z_aload_n C0 hl 1 rfl dX2_copyFrom_1 ?_
  refine zg_1_0 C0 Wd (znB1 hb2) (zkB1 hb2) zk_93 dX2_copyFrom_2 ?_
  have hz1 : zR (zM0 (b2 + 1) 0) := Wd.rm _ _
  refine zp_1_0 C0 Wd (znB1 hb) (zkB1 hb) hz1 zk_93 dX2_copyFrom_5 (fun H locs Wd => ?_)
  refine z_aload_n C0 hl 0 rfl dX2_copyFrom_8 ?_
  refine z_aload_n C0 hl 1 rfl dX2_copyFrom_9 ?_
  refine zg_1_1 C0 Wd (znB1 hb2) (zkB1 hb2) zk_96 dX2_copyFrom_10 ?_
  obtain ⟨he4, hz2⟩ : ((zu zM0 (b + 1) 0 (zM0 (b2 + 1) 0)) (b2 + 1) 1) = (zM0 (b2 + 1) 1) ∧ zR (zM0 (b2 + 1) 1) := (fun q => ⟨q, q ▸ Wd.rm _ _⟩) (zu_ne (by omega))
  refine z_top (congrArg zI he4) ?_
  clear he4
  refine zp_1_1 C0 Wd (znB1 hb) (zkB1 hb) hz2 zk_96 dX2_copyFrom_13 (fun H locs Wd => ?_)
  refine z_aload_n C0 hl 1 rfl dX2_copyFrom_16 ?_
  refine zg_1_2 C0 Wd (znB1 hb2) (zkB1 hb2) zk_98 dX2_copyFrom_17 ?_
  refine z_rf (show ((b2 + 1) + 1) = (b2 + 2) by omega) ?_
  refine z_iconst C0 dX2_copyFrom_20 ?_
  refine z_aload_n C0 hl 0 rfl dX2_copyFrom_21 ?_
  refine zg_1_2 C0 Wd (znB1 hb) (zkB1 hb) zk_98 dX2_copyFrom_22 ?_
  refine z_rf (show ((b + 1) + 1) = (b + 2) by omega) ?_
  refine z_iconst C0 dX2_copyFrom_25 ?_
  refine z_bipush C0 dX2_copyFrom_26 (by decide) ?_
  refine z_copyi C0 Wd hl.1 (znB2 hb2) (znB2 hb) (zkB2 hb2) (zkB2 hb) (zlB2 hb2) (zlB2 hb) (by decide) (by decide) (by omega) (by omega) (by omega) (by omega) (by omega) (by decide) zk_394 dX2_copyFrom_28 (fun H locs Wd => ?_)
  replace Wd := zW.full Wd (zkB2 hb) (by rw [(zlB2 hb)]; rfl) (zM0 (b2 + 2)) (fun j _ _ => by rw [Int.zero_add]; first | done | (repeat (first | rw [zu_ne (by omega)] | rw [zrow_ne (by omega)]))) (fun j => hw0 (b2 + 2) j)
  refine z_aload_n C0 hl 1 rfl dX2_copyFrom_31 ?_
  refine zg_1_3 C0 Wd (znB1 hb2) (zkB1 hb2) zk_99 dX2_copyFrom_32 ?_
  refine z_rf (show ((b2 + 1) + 2) = (b2 + 3) by omega) ?_
  refine z_iconst C0 dX2_copyFrom_35 ?_
  refine z_aload_n C0 hl 0 rfl dX2_copyFrom_36 ?_
  refine zg_1_3 C0 Wd (znB1 hb) (zkB1 hb) zk_99 dX2_copyFrom_37 ?_
  refine z_rf (show ((b + 1) + 2) = (b + 3) by omega) ?_
  refine z_iconst C0 dX2_copyFrom_40 ?_
  refine z_bipush C0 dX2_copyFrom_41 (by decide) ?_
  refine z_copyi C0 Wd hl.1 (znB3 hb2) (znB3 hb) (zkB3 hb2) (zkB3 hb) (zlB3 hb2) (zlB3 hb) (by decide) (by decide) (by omega) (by omega) (by omega) (by omega) (by omega) (by decide) zk_394 dX2_copyFrom_43 (fun H locs Wd => ?_)
  replace Wd := zW.full Wd (zkB3 hb) (by rw [(zlB3 hb)]; rfl) (zM0 (b2 + 3)) (fun j _ _ => by rw [Int.zero_add]; first | done | (repeat (first | rw [zu_ne (by omega)] | rw [zrow_ne (by omega)]))) (fun j => hw0 (b2 + 3) j)
  exact z_vret C0 Wd hret hlk ⟨by first | rfl | (simp [zb, *]; done), rfl⟩ dX2_copyFrom_46
theorem kv_X7_copyFrom : zKV yX7_copyFrom cX7_copyFrom 2 none "DrumWarren$Hare" 1 := ⟨zk_400, zk_398, zk_399, zk_29, by decide, by decide, by decide +kernel⟩
set_option maxHeartbeats 4000000 in
set_option maxRecDepth 100000 in
theorem ct_X7_copyFrom (l : Launch) (g : zG) (zX : va_W) (ad : Int → Nat) (zM0 zF0 : zMem) (h1 h2 : Int) (k1 : zkd h1 = 4) (n1 : 0 ≤ h1 ∧ h1 < ((398 : Nat) : Int)) (k2 : zkd h2 = 4) (n2 : 0 ≤ h2 ∧ h2 < ((398 : Nat) : Int)) (hne : h1 ≠ h2) (hl : zM0 h2 1 = 0 ∨ zM0 h2 1 = 1) : zMt l yX7_copyFrom cX7_copyFrom 2 none 0 0 0 g (0, 398, zX) ad [.ref (ad h1), .ref (ad h2)] zM0 zF0 (zPv (fun M' F' => (zu (zu (zu (zu zM0 h1 0 (zM0 h2 0)) h1 1 (zM0 h2 1)) h1 2 (zM0 h2 2)) h1 3 (zM0 h2 3)) = M' ∧ zF0 = F')) := by
  refine zMt.of "DrumWarren$Hare" rfl (by decide +kernel) (Nat.le_of_ble_eq_true rfl) (fun {p e s m args below meth c ls} C0 Wd hl hret hlk hin => ?_)
  have hl : lv_has ls 2 [(0, .ref (ad h1)), (1, .ref (ad h2))] := hl
  refine z_aload_n C0 hl 0 rfl dX7_copyFrom_0 ?_
  refine z_aload_n C0 hl 1 rfl dX7_copyFrom_1 ?_
  refine zg_4_0 C0 Wd n2 k2 zk_132 dX7_copyFrom_2 ?_
  have hz1 : zR (zM0 h2 0) := Wd.rm _ _
  refine zp_4_0 C0 Wd n1 k1 hz1 zk_132 dX7_copyFrom_5 (fun H locs Wd => ?_)
  refine z_aload_n C0 hl 0 rfl dX7_copyFrom_8 ?_
  refine z_aload_n C0 hl 1 rfl dX7_copyFrom_9 ?_
  refine zg_4_1 C0 Wd n2 k2 zk_134 dX7_copyFrom_10 ?_
  obtain ⟨he4, hz2⟩ : ((zu zM0 h1 0 (zM0 h2 0)) h2 1) = (zM0 h2 1) ∧ zR (zM0 h2 1) := (fun q => ⟨q, q ▸ Wd.rm _ _⟩) (zu_ne (by omega))
  refine z_top (congrArg zI he4) ?_
  clear he4
  refine zp_4_1 C0 Wd n1 k1 (by omega) zk_134 dX7_copyFrom_13 (fun H locs Wd => ?_)
  refine z_aload_n C0 hl 0 rfl dX7_copyFrom_16 ?_
  refine z_aload_n C0 hl 1 rfl dX7_copyFrom_17 ?_
  refine zg_4_2 C0 Wd n2 k2 zk_136 dX7_copyFrom_18 ?_
  obtain ⟨he7, hz5⟩ : ((zu (zu zM0 h1 0 (zM0 h2 0)) h1 1 (zM0 h2 1)) h2 2) = (zM0 h2 2) ∧ zR (zM0 h2 2) := (fun q => ⟨q, q ▸ Wd.rm _ _⟩) ((zu_ne (by omega)).trans (zu_ne (by omega)))
  refine z_top (congrArg zI he7) ?_
  clear he7
  refine zp_4_2 C0 Wd n1 k1 hz5 zk_136 dX7_copyFrom_21 (fun H locs Wd => ?_)
  refine z_aload_n C0 hl 0 rfl dX7_copyFrom_24 ?_
  refine z_aload_n C0 hl 1 rfl dX7_copyFrom_25 ?_
  refine zg_4_3 C0 Wd n2 k2 zk_138 dX7_copyFrom_26 ?_
  obtain ⟨he10, hz8⟩ : ((zu (zu (zu zM0 h1 0 (zM0 h2 0)) h1 1 (zM0 h2 1)) h1 2 (zM0 h2 2)) h2 3) = (zM0 h2 3) ∧ zR (zM0 h2 3) := (fun q => ⟨q, q ▸ Wd.rm _ _⟩) ((zu_ne (by omega)).trans ((zu_ne (by omega)).trans (zu_ne (by omega))))
  refine z_top (congrArg zI he10) ?_
  clear he10
  refine zp_4_3 C0 Wd n1 k1 hz8 zk_138 dX7_copyFrom_29 (fun H locs Wd => ?_)
  exact z_vret C0 Wd hret hlk ⟨by first | rfl | (simp [zb, *]; done), rfl⟩ dX7_copyFrom_32
theorem kv_X9_isSlot : zKS yX9_isSlot cX9_isSlot 2 (some .boolean) 2 := ⟨zk_732, zk_731, zk_30, by decide, by decide, by decide +kernel⟩
set_option maxHeartbeats 4000000 in
set_option maxRecDepth 100000 in
theorem ct_X9_isSlot (l : Launch) (g : zG) (zX : va_W) (ad : Int → Nat) (zM0 zF0 : zMem) (x0 : Int) (hx0 : zR x0) (x1 : Int) (hx1 : zR x1) : zMt l yX9_isSlot cX9_isSlot 2 (some .boolean) 0 0 0 g (0, 398, zX) ad [.int (zI x0), .int (zI x1)] zM0 zF0 (zPi (fun r M' F' => zb ((0 ≤ x0 ∧ x0 < 5) ∧ 0 ≤ x1 ∧ x1 < 8) = r ∧ zM0 = M' ∧ zF0 = F')) := by
  refine zMt.of "DrumWarren$Message" rfl (by decide +kernel) (Nat.le_of_ble_eq_true rfl) (fun {p e s m args below meth c ls} C0 Wd hl hret hlk hin => ?_)
  have hl : lv_has ls 2 [(0, .int (zI x0)), (1, .int (zI x1))] := hl
  refine z_iload_n C0 hl 0 rfl dX9_isSlot_0 ?_
  refine z_if_lt C0 (tgt := 23) hx0 dX9_isSlot_1 (by decide) (fun c1 => ?_) (fun c1 => ?_)
  · skip
    refine z_iconst C0 dX9_isSlot_23 ?_
    exact z_zret C0 Wd hret hlk (by decide) ⟨by first | rfl | (rw [zb_t (by omega)]; done) | (rw [zb_f (by omega)]; done), rfl, rfl⟩ dX9_isSlot_24
  · skip
    refine z_iload_n C0 hl 0 rfl dX9_isSlot_4 ?_
    refine z_iconst C0 dX9_isSlot_5 ?_
    refine z_icmp_ge C0 (tgt := 23) hx0 (zR_mk (by decide) (by decide)) dX9_isSlot_6 (by decide) (fun c2 => ?_) (fun c2 => ?_)
    · skip
      refine z_iconst C0 dX9_isSlot_23 ?_
      exact z_zret C0 Wd hret hlk (by decide) ⟨by first | rfl | (rw [zb_t (by omega)]; done) | (rw [zb_f (by omega)]; done), rfl, rfl⟩ dX9_isSlot_24
    · skip
      refine z_iload_n C0 hl 1 rfl dX9_isSlot_9 ?_
      refine z_if_lt C0 (tgt := 23) hx1 dX9_isSlot_10 (by decide) (fun c3 => ?_) (fun c3 => ?_)
      · skip
        refine z_iconst C0 dX9_isSlot_23 ?_
        exact z_zret C0 Wd hret hlk (by decide) ⟨by first | rfl | (rw [zb_t (by omega)]; done) | (rw [zb_f (by omega)]; done), rfl, rfl⟩ dX9_isSlot_24
      · skip
        refine z_iload_n C0 hl 1 rfl dX9_isSlot_13 ?_
        refine z_bipush C0 dX9_isSlot_14 (by decide) ?_
        refine z_icmp_ge C0 (tgt := 23) hx1 (zR_mk (by decide) (by decide)) dX9_isSlot_16 (by decide) (fun c4 => ?_) (fun c4 => ?_)
        · skip
          refine z_iconst C0 dX9_isSlot_23 ?_
          exact z_zret C0 Wd hret hlk (by decide) ⟨by first | rfl | (rw [zb_t (by omega)]; done) | (rw [zb_f (by omega)]; done), rfl, rfl⟩ dX9_isSlot_24
        · skip
          refine z_iconst C0 dX9_isSlot_19 ?_
          refine z_goto C0 (tgt := 24) dX9_isSlot_20 (by decide) ?_
          exact z_zret C0 Wd hret hlk (by decide) ⟨by first | rfl | (rw [zb_t (by omega)]; done) | (rw [zb_f (by omega)]; done), rfl, rfl⟩ dX9_isSlot_24
theorem kv_X9_noteHeard : zKV yX9_noteHeard cX9_noteHeard 4 none "DrumWarren$Message" 3 := ⟨zk_729, zk_727, zk_728, zk_30, by decide, by decide, by decide +kernel⟩
set_option maxHeartbeats 4000000 in
set_option maxRecDepth 100000 in
theorem ct_X9_noteHeard (l : Launch) (g : zG) (zX : va_W) (ad : Int → Nat) (zM0 zF0 : zMem) (b o : Int) (ho : zMo b o) (x0 : Int) (hx0 : zR x0) (x1 : Int) (hx1 : zR x1) (x2 : Int) (hx2 : zR x2) (hs : (0 ≤ x0 ∧ x0 < 5) ∧ 0 ≤ x1 ∧ x1 < 8) : zMt l yX9_noteHeard cX9_noteHeard 4 none 1 0 0 g (0, 398, zX) ad [.ref (ad o), .int (zI x0), .int (zI x1), .int (zI x2)] zM0 zF0 (zPv (fun M' F' => (zu zM0 (o + 1) ((x0 * 8) + x1) x2) = M' ∧ zF0 = F')) := by
  refine zMt.of "DrumWarren$Message" rfl (by decide +kernel) (Nat.le_of_ble_eq_true rfl) (fun {p e s m args below meth c ls} C0 Wd hl hret hlk hin => ?_)
  have hl : lv_has ls 4 [(0, .ref (ad o)), (1, .int (zI x0)), (2, .int (zI x1)), (3, .int (zI x2))] := hl
  refine z_iload_n C0 hl 1 rfl dX9_noteHeard_0 ?_
  refine z_iload_n C0 hl 2 rfl dX9_noteHeard_1 ?_
  refine z_invSi (As := [.int (zI x0), .int (zI x1)]) (rest := []) C0 Wd (ct_X9_isSlot l g zX ad zM0 zF0 x0 hx0 x1 hx1) kv_X9_isSlot zk_730 rfl hl.1 rfl (Nat.le_of_ble_eq_true rfl) (by decide) (by decide) dX9_noteHeard_2 (fun r1 zMr1 zFr1 H locs hrr1 hp Wd => ?_)
  obtain ⟨rfl, rfl, rfl⟩ := hp
  refine z_if_eq_b C0 (tgt := 20) dX9_noteHeard_5 (by decide) (fun c3 => absurd c3 (fun z => z (by omega))) (fun c3 => ?_)
  refine z_aload_n C0 hl 0 rfl dX9_noteHeard_8 ?_
  refine zg_6_7 C0 Wd (znO ho) (zkO ho) zk_175 dX9_noteHeard_9 ?_
  refine z_iload_n C0 hl 1 rfl dX9_noteHeard_12 ?_
  refine z_bipush C0 dX9_noteHeard_13 (by decide) ?_
  refine z_imul C0 dX9_noteHeard_15 ?_
  refine z_iload_n C0 hl 2 rfl dX9_noteHeard_16 ?_
  refine z_iadd C0 dX9_noteHeard_17 ?_
  refine z_iload_n C0 hl 3 rfl dX9_noteHeard_18 ?_
  refine z_iast C0 Wd (znO1 ho) (zkO1 ho) (zlO1 ho) (by omega) (by omega) (by decide) hx2 dX9_noteHeard_19 (fun H locs Wd => ?_)
  exact z_vret C0 Wd hret hlk ⟨by first | rfl | (simp [zb, *]; done), rfl⟩ dX9_noteHeard_20
theorem kv_X9_tickHeard : zKV yX9_tickHeard cX9_tickHeard 3 (some .int) "DrumWarren$Message" 2 := ⟨zk_749, zk_747, zk_748, zk_30, by decide, by decide, by decide +kernel⟩
set_option maxHeartbeats 4000000 in
set_option maxRecDepth 100000 in
theorem ct_X9_tickHeard (l : Launch) (g : zG) (zX : va_W) (ad : Int → Nat) (zM0 zF0 : zMem) (b o : Int) (ho : zMo b o) (x0 : Int) (hx0 : zR x0) (x1 : Int) (hx1 : zR x1) (hs : (0 ≤ x0 ∧ x0 < 5) ∧ 0 ≤ x1 ∧ x1 < 8) : zMt l yX9_tickHeard cX9_tickHeard 3 (some .int) 1 0 0 g (0, 398, zX) ad [.ref (ad o), .int (zI x0), .int (zI x1)] zM0 zF0 (zPi (fun r M' F' => (zM0 (o + 1) ((x0 * 8) + x1)) = r ∧ zM0 = M' ∧ zF0 = F')) := by
  refine zMt.of "DrumWarren$Message" rfl (by decide +kernel) (Nat.le_of_ble_eq_true rfl) (fun {p e s m args below meth c ls} C0 Wd hl hret hlk hin => ?_)
  have hl : lv_has ls 3 [(0, .ref (ad o)), (1, .int (zI x0)), (2, .int (zI x1))] := hl
  refine z_iload_n C0 hl 1 rfl dX9_tickHeard_0 ?_
  refine z_iload_n C0 hl 2 rfl dX9_tickHeard_1 ?_
  refine z_invSi (As := [.int (zI x0), .int (zI x1)]) (rest := []) C0 Wd (ct_X9_isSlot l g zX ad zM0 zF0 x0 hx0 x1 hx1) kv_X9_isSlot zk_730 rfl hl.1 rfl (Nat.le_of_ble_eq_true rfl) (by decide) (by decide) dX9_tickHeard_2 (fun r1 zMr1 zFr1 H locs hrr1 hp Wd => ?_)
  obtain ⟨rfl, rfl, rfl⟩ := hp
  refine z_if_eq_b C0 (tgt := 22) dX9_tickHeard_5 (by decide) (fun c3 => absurd c3 (fun z => z (by omega))) (fun c3 => ?_)
  refine z_aload_n C0 hl 0 rfl dX9_tickHeard_8 ?_
  refine zg_6_7 C0 Wd (znO ho) (zkO ho) zk_175 dX9_tickHeard_9 ?_
  refine z_iload_n C0 hl 1 rfl dX9_tickHeard_12 ?_
  refine z_bipush C0 dX9_tickHeard_13 (by decide) ?_
  refine z_imul C0 dX9_tickHeard_15 ?_
  refine z_iload_n C0 hl 2 rfl dX9_tickHeard_16 ?_
  refine z_iadd C0 dX9_tickHeard_17 ?_
  refine z_iald C0 Wd (znO1 ho) (zkO1 ho) (zlO1 ho) (by omega) (by omega) (by decide) dX9_tickHeard_18 ?_
  have hz4 : zR (zM0 (o + 1) ((x0 * 8) + x1)) := Wd.rm _ _
  refine z_goto C0 (tgt := 23) dX9_tickHeard_19 (by decide) ?_
  exact z_iret C0 Wd hret hlk hz4 ⟨by first | rfl | (simp only [zb]; first | rfl | (split <;> omega) | omega) | (simp [zb, *]; done) | omega, by first | rfl | (simp [zb, *]; done), rfl⟩ dX9_tickHeard_23
theorem kv_X9_begin : zKV yX9_begin cX9_begin 1 none "DrumWarren$Message" 0 := ⟨zk_701, zk_699, zk_700, zk_30, by decide, by decide, by decide +kernel⟩
set_option maxHeartbeats 4000000 in
set_option maxRecDepth 100000 in
theorem ct_X9_begin (l : Launch) (g : zG) (zX : va_W) (ad : Int → Nat) (zM0 zF0 : zMem) (b o : Int) (ho : zMo b o) : zMt l yX9_begin cX9_begin 1 none 0 0 0 g (0, 398, zX) ad [.ref (ad o)] zM0 zF0 (zPv (fun M' F' => (zu (zu zM0 o 4 100) o 6 0) = M' ∧ zF0 = F')) := by
  refine zMt.of "DrumWarren$Message" rfl (by decide +kernel) (Nat.le_of_ble_eq_true rfl) (fun {p e s m args below meth c ls} C0 Wd hl hret hlk hin => ?_)
  have hl : lv_has ls 1 [(0, .ref (ad o))] := hl
  refine z_aload_n C0 hl 0 rfl dX9_begin_0 ?_
  refine z_bipush C0 dX9_begin_1 (by decide) ?_
  refine zp_6_4 C0 Wd (znO ho) (zkO ho) (by omega) (by omega) zk_166 dX9_begin_3 (fun H locs Wd => ?_)
  refine z_aload_n C0 hl 0 rfl dX9_begin_6 ?_
  refine z_iconst C0 dX9_begin_7 ?_
  refine zp_6_6 C0 Wd (znO ho) (zkO ho) (zR_mk (by decide) (by decide)) zk_172 dX9_begin_8 (fun H locs Wd => ?_)
  exact z_vret C0 Wd hret hlk ⟨by first | rfl | (simp [zb, *]; done), rfl⟩ dX9_begin_11
theorem kv_X9_arrive : zKV yX9_arrive cX9_arrive 1 none "DrumWarren$Message" 0 := ⟨zk_761, zk_759, zk_760, zk_30, by decide, by decide, by decide +kernel⟩
set_option maxHeartbeats 4000000 in
set_option maxRecDepth 100000 in
theorem ct_X9_arrive (l : Launch) (g : zG) (zX : va_W) (ad : Int → Nat) (zM0 zF0 : zMem) (b o : Int) (ho : zMo b o) : zMt l yX9_arrive cX9_arrive 1 none 0 0 0 g (0, 398, zX) ad [.ref (ad o)] zM0 zF0 (zPv (fun M' F' => (zu (zu zM0 o 4 114) o 6 0) = M' ∧ zF0 = F')) := by
  refine zMt.of "DrumWarren$Message" rfl (by decide +kernel) (Nat.le_of_ble_eq_true rfl) (fun {p e s m args below meth c ls} C0 Wd hl hret hlk hin => ?_)
  have hl : lv_has ls 1 [(0, .ref (ad o))] := hl
  refine z_aload_n C0 hl 0 rfl dX9_arrive_0 ?_
  refine z_bipush C0 dX9_arrive_1 (by decide) ?_
  refine zp_6_4 C0 Wd (znO ho) (zkO ho) (by omega) (by omega) zk_166 dX9_arrive_3 (fun H locs Wd => ?_)
  refine z_aload_n C0 hl 0 rfl dX9_arrive_6 ?_
  refine z_iconst C0 dX9_arrive_7 ?_
  refine zp_6_6 C0 Wd (znO ho) (zkO ho) (zR_mk (by decide) (by decide)) zk_172 dX9_arrive_8 (fun H locs Wd => ?_)
  exact z_vret C0 Wd hret hlk ⟨by first | rfl | (simp [zb, *]; done), rfl⟩ dX9_arrive_11
theorem kv_X9_lose : zKV yX9_lose cX9_lose 1 none "DrumWarren$Message" 0 := ⟨zk_765, zk_763, zk_764, zk_30, by decide, by decide, by decide +kernel⟩
set_option maxHeartbeats 4000000 in
set_option maxRecDepth 100000 in
theorem ct_X9_lose (l : Launch) (g : zG) (zX : va_W) (ad : Int → Nat) (zM0 zF0 : zMem) (b o : Int) (ho : zMo b o) (h5 : 0 ≤ zM0 o 5 ∧ zM0 o 5 ≤ 3) : zMt l yX9_lose cX9_lose 1 none 0 0 0 g (0, 398, zX) ad [.ref (ad o)] zM0 zF0 (zPv (fun M' F' => ((zM0 o 5 + 1 < 3) ∧ (zu (zu (zu zM0 o 5 (zM0 o 5 + 1)) o 4 119) o 6 0) = M' ∧ zF0 = F') ∨ ((3 ≤ zM0 o 5 + 1) ∧ (zu (zu (zu zM0 o 5 (zM0 o 5 + 1)) o 4 108) o 6 0) = M' ∧ zF0 = F'))) := by
  refine zMt.of "DrumWarren$Message" rfl (by decide +kernel) (Nat.le_of_ble_eq_true rfl) (fun {p e s m args below meth c ls} C0 Wd hl hret hlk hin => ?_)
  have hl : lv_has ls 1 [(0, .ref (ad o))] := hl
  refine z_aload_n C0 hl 0 rfl dX9_lose_0 ?_
  refine z_dup C0 rfl dX9_lose_1 ?_
  refine zg_6_5 C0 Wd (znO ho) (zkO ho) zk_169 dX9_lose_2 ?_
  have hz1 : zR (zM0 o 5) := Wd.rm _ _
  refine z_iconst C0 dX9_lose_5 ?_
  refine z_iadd C0 dX9_lose_6 ?_
  refine zp_6_5 C0 Wd (znO ho) (zkO ho) (by have q0 := hz1.1; have p0 := hz1.2; exact zR_mk (by omega) (by omega)) zk_169 dX9_lose_7 (fun H locs Wd => ?_)
  refine z_aload_n C0 hl 0 rfl dX9_lose_10 ?_
  refine z_aload_n C0 hl 0 rfl dX9_lose_11 ?_
  refine zg_6_5 C0 Wd (znO ho) (zkO ho) zk_169 dX9_lose_12 ?_
  obtain ⟨he4, hz2⟩ : ((zu zM0 o 5 ((zM0 o 5) + 1)) o 5) = ((zM0 o 5) + 1) ∧ zR ((zM0 o 5) + 1) := (fun q => ⟨q, q ▸ Wd.rm _ _⟩) (zu_same _ _ _ _)
  refine z_top (congrArg zI he4) ?_
  clear he4
  refine z_iconst C0 dX9_lose_15 ?_
  refine z_icmp_ge C0 (tgt := 24) hz2 (zR_mk (by decide) (by decide)) dX9_lose_16 (by decide) (fun c5 => ?_) (fun c5 => ?_)
  · skip
    refine z_bipush C0 dX9_lose_24 (by decide) ?_
    refine zp_6_4 C0 Wd (znO ho) (zkO ho) (by omega) (by omega) zk_166 dX9_lose_26 (fun H locs Wd => ?_)
    refine z_aload_n C0 hl 0 rfl dX9_lose_29 ?_
    refine z_iconst C0 dX9_lose_30 ?_
    refine zp_6_6 C0 Wd (znO ho) (zkO ho) (zR_mk (by decide) (by decide)) zk_172 dX9_lose_31 (fun H locs Wd => ?_)
    exact z_vret C0 Wd hret hlk (by first | exact (Or.inl ⟨(by first | assumption | omega), (by first | rfl | (simp [zb, *]; done)), rfl⟩) | exact (Or.inr ⟨(by first | assumption | omega), (by first | rfl | (simp [zb, *]; done)), rfl⟩)) dX9_lose_34
  · skip
    refine z_bipush C0 dX9_lose_19 (by decide) ?_
    refine z_goto C0 (tgt := 26) dX9_lose_21 (by decide) ?_
    refine zp_6_4 C0 Wd (znO ho) (zkO ho) (by omega) (by omega) zk_166 dX9_lose_26 (fun H locs Wd => ?_)
    refine z_aload_n C0 hl 0 rfl dX9_lose_29 ?_
    refine z_iconst C0 dX9_lose_30 ?_
    refine zp_6_6 C0 Wd (znO ho) (zkO ho) (zR_mk (by decide) (by decide)) zk_172 dX9_lose_31 (fun H locs Wd => ?_)
    exact z_vret C0 Wd hret hlk (by first | exact (Or.inl ⟨(by first | assumption | omega), (by first | rfl | (simp [zb, *]; done)), rfl⟩) | exact (Or.inr ⟨(by first | assumption | omega), (by first | rfl | (simp [zb, *]; done)), rfl⟩)) dX9_lose_34
theorem kv_X9_copyFrom : zKV yX9_copyFrom cX9_copyFrom 2 none "DrumWarren$Message" 1 := ⟨zk_404, zk_402, zk_403, zk_30, by decide, by decide, by decide +kernel⟩
set_option maxHeartbeats 4000000 in
set_option maxRecDepth 100000 in
theorem ct_X9_copyFrom (l : Launch) (g : zG) (zX : va_W) (ad : Int → Nat) (zM0 zF0 : zMem) (b b2 o o2 : Int) (ho : zMo b o) (ho2 : zMo b2 o2) (hd : b + 31 ≤ b2 ∨ b2 + 31 ≤ b) (h4 : 0 ≤ zM0 o2 4 ∧ zM0 o2 4 < 65536) : zMt l yX9_copyFrom cX9_copyFrom 2 none 1 0 0 g (0, 398, zX) ad [.ref (ad o), .ref (ad o2)] zM0 zF0 (zPv (fun M' F' => (zrow (zu (zu (zu (zu (zu (zu (zu zM0 o 0 (zM0 o2 0)) o 1 (zM0 o2 1)) o 2 (zM0 o2 2)) o 3 (zM0 o2 3)) o 4 (zM0 o2 4)) o 5 (zM0 o2 5)) o 6 (zM0 o2 6)) (o + 1) (zM0 (o2 + 1))) = M' ∧ zF0 = F')) := by
  refine zMt.of "DrumWarren$Message" rfl (by decide +kernel) (Nat.le_of_ble_eq_true rfl) (fun {p e s m args below meth c ls} C0 Wd hl hret hlk hin => ?_)
  have hl : lv_has ls 2 [(0, .ref (ad o)), (1, .ref (ad o2))] := hl
  have hw0 := Wd.2
  have q1 := zMo_bd ho
  have q2 := zMo_bd ho2
  refine z_aload_n C0 hl 0 rfl dX9_copyFrom_0 ?_
  refine z_aload_n C0 hl 1 rfl dX9_copyFrom_1 ?_
  refine zg_6_0 C0 Wd (znO ho2) (zkO ho2) zk_154 dX9_copyFrom_2 ?_
  have hz1 : zR (zM0 o2 0) := Wd.rm _ _
  refine zp_6_0 C0 Wd (znO ho) (zkO ho) hz1 zk_154 dX9_copyFrom_5 (fun H locs Wd => ?_)
  refine z_aload_n C0 hl 0 rfl dX9_copyFrom_8 ?_
  refine z_aload_n C0 hl 1 rfl dX9_copyFrom_9 ?_
  refine zg_6_1 C0 Wd (znO ho2) (zkO ho2) zk_157 dX9_copyFrom_10 ?_
  obtain ⟨he4, hz2⟩ : ((zu zM0 o 0 (zM0 o2 0)) o2 1) = (zM0 o2 1) ∧ zR (zM0 o2 1) := (fun q => ⟨q, q ▸ Wd.rm _ _⟩) (zu_ne (by omega))
  refine z_top (congrArg zI he4) ?_
  clear he4
  refine zp_6_1 C0 Wd (znO ho) (zkO ho) hz2 zk_157 dX9_copyFrom_13 (fun H locs Wd => ?_)
  refine z_aload_n C0 hl 0 rfl dX9_copyFrom_16 ?_
  refine z_aload_n C0 hl 1 rfl dX9_copyFrom_17 ?_
  refine zg_6_2 C0 Wd (znO ho2) (zkO ho2) zk_160 dX9_copyFrom_18 ?_
  obtain ⟨he7, hz5⟩ : ((zu (zu zM0 o 0 (zM0 o2 0)) o 1 (zM0 o2 1)) o2 2) = (zM0 o2 2) ∧ zR (zM0 o2 2) := (fun q => ⟨q, q ▸ Wd.rm _ _⟩) ((zu_ne (by omega)).trans (zu_ne (by omega)))
  refine z_top (congrArg zI he7) ?_
  clear he7
  refine zp_6_2 C0 Wd (znO ho) (zkO ho) hz5 zk_160 dX9_copyFrom_21 (fun H locs Wd => ?_)
  refine z_aload_n C0 hl 0 rfl dX9_copyFrom_24 ?_
  refine z_aload_n C0 hl 1 rfl dX9_copyFrom_25 ?_
  refine zg_6_3 C0 Wd (znO ho2) (zkO ho2) zk_163 dX9_copyFrom_26 ?_
  obtain ⟨he10, hz8⟩ : ((zu (zu (zu zM0 o 0 (zM0 o2 0)) o 1 (zM0 o2 1)) o 2 (zM0 o2 2)) o2 3) = (zM0 o2 3) ∧ zR (zM0 o2 3) := (fun q => ⟨q, q ▸ Wd.rm _ _⟩) ((zu_ne (by omega)).trans ((zu_ne (by omega)).trans (zu_ne (by omega))))
  refine z_top (congrArg zI he10) ?_
  clear he10
  refine zp_6_3 C0 Wd (znO ho) (zkO ho) hz8 zk_163 dX9_copyFrom_29 (fun H locs Wd => ?_)
  refine z_aload_n C0 hl 0 rfl dX9_copyFrom_32 ?_
  refine z_aload_n C0 hl 1 rfl dX9_copyFrom_33 ?_
  refine zg_6_4 C0 Wd (znO ho2) (zkO ho2) zk_166 dX9_copyFrom_34 ?_
  obtain ⟨he13, hz11⟩ : ((zu (zu (zu (zu zM0 o 0 (zM0 o2 0)) o 1 (zM0 o2 1)) o 2 (zM0 o2 2)) o 3 (zM0 o2 3)) o2 4) = (zM0 o2 4) ∧ zR (zM0 o2 4) := (fun q => ⟨q, q ▸ Wd.rm _ _⟩) ((zu_ne (by omega)).trans ((zu_ne (by omega)).trans ((zu_ne (by omega)).trans (zu_ne (by omega)))))
  refine z_top (congrArg zI he13) ?_
  clear he13
  refine zp_6_4 C0 Wd (znO ho) (zkO ho) (by omega) (by omega) zk_166 dX9_copyFrom_37 (fun H locs Wd => ?_)
  refine z_aload_n C0 hl 0 rfl dX9_copyFrom_40 ?_
  refine z_aload_n C0 hl 1 rfl dX9_copyFrom_41 ?_
  refine zg_6_5 C0 Wd (znO ho2) (zkO ho2) zk_169 dX9_copyFrom_42 ?_
  obtain ⟨he16, hz14⟩ : ((zu (zu (zu (zu (zu zM0 o 0 (zM0 o2 0)) o 1 (zM0 o2 1)) o 2 (zM0 o2 2)) o 3 (zM0 o2 3)) o 4 (zM0 o2 4)) o2 5) = (zM0 o2 5) ∧ zR (zM0 o2 5) := (fun q => ⟨q, q ▸ Wd.rm _ _⟩) ((zu_ne (by omega)).trans ((zu_ne (by omega)).trans ((zu_ne (by omega)).trans ((zu_ne (by omega)).trans (zu_ne (by omega))))))
  refine z_top (congrArg zI he16) ?_
  clear he16
  refine zp_6_5 C0 Wd (znO ho) (zkO ho) hz14 zk_169 dX9_copyFrom_45 (fun H locs Wd => ?_)
  refine z_aload_n C0 hl 0 rfl dX9_copyFrom_48 ?_
  refine z_aload_n C0 hl 1 rfl dX9_copyFrom_49 ?_
  refine zg_6_6 C0 Wd (znO ho2) (zkO ho2) zk_172 dX9_copyFrom_50 ?_
  obtain ⟨he19, hz17⟩ : ((zu (zu (zu (zu (zu (zu zM0 o 0 (zM0 o2 0)) o 1 (zM0 o2 1)) o 2 (zM0 o2 2)) o 3 (zM0 o2 3)) o 4 (zM0 o2 4)) o 5 (zM0 o2 5)) o2 6) = (zM0 o2 6) ∧ zR (zM0 o2 6) := (fun q => ⟨q, q ▸ Wd.rm _ _⟩) ((zu_ne (by omega)).trans ((zu_ne (by omega)).trans ((zu_ne (by omega)).trans ((zu_ne (by omega)).trans ((zu_ne (by omega)).trans (zu_ne (by omega)))))))
  refine z_top (congrArg zI he19) ?_
  clear he19
  refine zp_6_6 C0 Wd (znO ho) (zkO ho) hz17 zk_172 dX9_copyFrom_53 (fun H locs Wd => ?_)
  refine z_aload_n C0 hl 1 rfl dX9_copyFrom_56 ?_
  refine zg_6_7 C0 Wd (znO ho2) (zkO ho2) zk_175 dX9_copyFrom_57 ?_
  refine z_iconst C0 dX9_copyFrom_60 ?_
  refine z_aload_n C0 hl 0 rfl dX9_copyFrom_61 ?_
  refine zg_6_7 C0 Wd (znO ho) (zkO ho) zk_175 dX9_copyFrom_62 ?_
  refine z_iconst C0 dX9_copyFrom_65 ?_
  refine z_bipush C0 dX9_copyFrom_66 (by decide) ?_
  refine z_copyi C0 Wd hl.1 (znO1 ho2) (znO1 ho) (zkO1 ho2) (zkO1 ho) (zlO1 ho2) (zlO1 ho) (by decide) (by decide) (by omega) (by omega) (by omega) (by omega) (by omega) (by decide) zk_405 dX9_copyFrom_68 (fun H locs Wd => ?_)
  replace Wd := zW.full Wd (zkO1 ho) (by rw [(zlO1 ho)]; rfl) (zM0 (o2 + 1)) (fun j _ _ => by rw [Int.zero_add]; first | done | (repeat (first | rw [zu_ne (by omega)] | rw [zrow_ne (by omega)]))) (fun j => hw0 (o2 + 1) j)
  exact z_vret C0 Wd hret hlk ⟨by first | rfl | (simp [zb, *]; done), rfl⟩ dX9_copyFrom_71
