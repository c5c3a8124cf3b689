/-! the class: questions -/
theorem kv_X11_chamberCount : zKV yX11_chamberCount cX11_chamberCount 1 (some .int) "DrumWarren" 0 := ⟨zk_776, zk_774, zk_775, zk_25, by decide, by decide, by decide +kernel⟩
set_option maxHeartbeats 4000000 in
set_option maxRecDepth 100000 in
theorem ct_X11_chamberCount (l : Launch) (g : zG) (zX : va_W) (ad : Int → Nat) (zM0 zF0 : zMem) (V : Int → Int) (zt : Int) (hR : zRS 1 V zM0 zF0) (hI : zIV zt V) : zMt l yX11_chamberCount cX11_chamberCount 1 (some .int) 1 0 0 g (0, 398, zX) ad [.ref (ad 0)] zM0 zF0 (zPi (fun r M' F' => (V 0) = r ∧ zM0 = M' ∧ zF0 = F')) := by
  refine zMt.of "DrumWarren" rfl (by decide +kernel) (Nat.le_of_ble_eq_true rfl) (fun {p e s m args below meth c ls} C0 Wd hl hret hlk hin => ?_)
  have hl : lv_has ls 1 [(0, .ref (ad 0))] := hl
  have h0b := hI.1
  have h1b := hI.2.1
  have h2b := hI.2.2.1
  refine z_aload_n C0 hl 0 rfl dX11_chamberCount_0 ?_
  refine zg_8_0 C0 Wd zN0 zK0 zk_343 dX11_chamberCount_1 ?_
  refine zg_7_0 C0 Wd zN1 zK1 zk_194 dX11_chamberCount_4 ?_
  refine z_rf (show (1 + 1) = 2 by decide) ?_
  refine zg_1_0 C0 Wd zN2 zK2 zk_94 dX11_chamberCount_7 ?_
  obtain ⟨he2, hz1⟩ : (zM0 2 0) = (V 0) ∧ zR (V 0) := (fun q => ⟨q, q ▸ Wd.rm _ _⟩) hR.c0
  refine z_top (congrArg zI he2) ?_
  clear he2
  exact z_iret C0 Wd hret hlk hz1 ⟨by first | rfl | (simp only [zb]; first | rfl | (split <;> omega) | omega) | (simp [zb, *]; done) | omega, by first | rfl | (simp [zb, *]; done), rfl⟩ dX11_chamberCount_10
theorem kv_X11_tunnelCount : zKV yX11_tunnelCount cX11_tunnelCount 1 (some .int) "DrumWarren" 0 := ⟨zk_863, zk_861, zk_862, zk_25, by decide, by decide, by decide +kernel⟩
set_option maxHeartbeats 4000000 in
set_option maxRecDepth 100000 in
theorem ct_X11_tunnelCount (l : Launch) (g : zG) (zX : va_W) (ad : Int → Nat) (zM0 zF0 : zMem) (V : Int → Int) (zt : Int) (hR : zRS 1 V zM0 zF0) (hI : zIV zt V) : zMt l yX11_tunnelCount cX11_tunnelCount 1 (some .int) 1 0 0 g (0, 398, zX) ad [.ref (ad 0)] zM0 zF0 (zPi (fun r M' F' => (zTu V) = r ∧ zM0 = M' ∧ zF0 = F')) := by
  refine zMt.of "DrumWarren" rfl (by decide +kernel) (Nat.le_of_ble_eq_true rfl) (fun {p e s m args below meth c ls} C0 Wd hl hret hlk hin => ?_)
  have hl : lv_has ls 1 [(0, .ref (ad 0))] := hl
  have h0b := hI.1
  have h1b := hI.2.1
  have h2b := hI.2.2.1
  refine z_aload_n C0 hl 0 rfl dX11_tunnelCount_0 ?_
  refine zg_8_0 C0 Wd zN0 zK0 zk_343 dX11_tunnelCount_1 ?_
  refine zg_7_0 C0 Wd zN1 zK1 zk_194 dX11_tunnelCount_4 ?_
  refine z_rf (show (1 + 1) = 2 by decide) ?_
  refine zg_1_1 C0 Wd zN2 zK2 zk_97 dX11_tunnelCount_7 ?_
  obtain ⟨he2, hz1⟩ : (zM0 2 1) = (zTu V) ∧ zR (zTu V) := (fun q => ⟨q, q ▸ Wd.rm _ _⟩) hR.c1
  refine z_top (congrArg zI he2) ?_
  clear he2
  exact z_iret C0 Wd hret hlk hz1 ⟨by first | rfl | (simp only [zb]; first | rfl | (split <;> omega) | omega) | (simp [zb, *]; done) | omega, by first | rfl | (simp [zb, *]; done), rfl⟩ dX11_tunnelCount_10
theorem kv_X11_hareCount : zKV yX11_hareCount cX11_hareCount 1 (some .int) "DrumWarren" 0 := ⟨zk_870, zk_868, zk_869, zk_25, by decide, by decide, by decide +kernel⟩
set_option maxHeartbeats 4000000 in
set_option maxRecDepth 100000 in
theorem ct_X11_hareCount (l : Launch) (g : zG) (zX : va_W) (ad : Int → Nat) (zM0 zF0 : zMem) (V : Int → Int) (zt : Int) (hR : zRS 1 V zM0 zF0) (hI : zIV zt V) : zMt l yX11_hareCount cX11_hareCount 1 (some .int) 1 0 0 g (0, 398, zX) ad [.ref (ad 0)] zM0 zF0 (zPi (fun r M' F' => (V 1) = r ∧ zM0 = M' ∧ zF0 = F')) := by
  refine zMt.of "DrumWarren" rfl (by decide +kernel) (Nat.le_of_ble_eq_true rfl) (fun {p e s m args below meth c ls} C0 Wd hl hret hlk hin => ?_)
  have hl : lv_has ls 1 [(0, .ref (ad 0))] := hl
  have h0b := hI.1
  have h1b := hI.2.1
  have h2b := hI.2.2.1
  refine z_aload_n C0 hl 0 rfl dX11_hareCount_0 ?_
  refine zg_8_0 C0 Wd zN0 zK0 zk_343 dX11_hareCount_1 ?_
  refine zg_7_2 C0 Wd zN1 zK1 zk_197 dX11_hareCount_4 ?_
  obtain ⟨he2, hz1⟩ : (zM0 1 2) = (V 1) ∧ zR (V 1) := (fun q => ⟨q, q ▸ Wd.rm _ _⟩) hR.c2
  refine z_top (congrArg zI he2) ?_
  clear he2
  exact z_iret C0 Wd hret hlk hz1 ⟨by first | rfl | (simp only [zb]; first | rfl | (split <;> omega) | omega) | (simp [zb, *]; done) | omega, by first | rfl | (simp [zb, *]; done), rfl⟩ dX11_hareCount_7
theorem kv_X11_messageCount : zKV yX11_messageCount cX11_messageCount 1 (some .int) "DrumWarren" 0 := ⟨zk_874, zk_872, zk_873, zk_25, by decide, by decide, by decide +kernel⟩
set_option maxHeartbeats 4000000 in
set_option maxRecDepth 100000 in
theorem ct_X11_messageCount (l : Launch) (g : zG) (zX : va_W) (ad : Int → Nat) (zM0 zF0 : zMem) (V : Int → Int) (zt : Int) (hR : zRS 1 V zM0 zF0) (hI : zIV zt V) : zMt l yX11_messageCount cX11_messageCount 1 (some .int) 1 0 0 g (0, 398, zX) ad [.ref (ad 0)] zM0 zF0 (zPi (fun r M' F' => (V 2) = r ∧ zM0 = M' ∧ zF0 = F')) := by
  refine zMt.of "DrumWarren" rfl (by decide +kernel) (Nat.le_of_ble_eq_true rfl) (fun {p e s m args below meth c ls} C0 Wd hl hret hlk hin => ?_)
  have hl : lv_has ls 1 [(0, .ref (ad 0))] := hl
  have h0b := hI.1
  have h1b := hI.2.1
  have h2b := hI.2.2.1
  refine z_aload_n C0 hl 0 rfl dX11_messageCount_0 ?_
  refine zg_8_0 C0 Wd zN0 zK0 zk_343 dX11_messageCount_1 ?_
  refine zg_7_4 C0 Wd zN1 zK1 zk_201 dX11_messageCount_4 ?_
  obtain ⟨he2, hz1⟩ : (zM0 1 4) = (V 2) ∧ zR (V 2) := (fun q => ⟨q, q ▸ Wd.rm _ _⟩) hR.c4
  refine z_top (congrArg zI he2) ?_
  clear he2
  exact z_iret C0 Wd hret hlk hz1 ⟨by first | rfl | (simp only [zb]; first | rfl | (split <;> omega) | omega) | (simp [zb, *]; done) | omega, by first | rfl | (simp [zb, *]; done), rfl⟩ dX11_messageCount_7
theorem kv_X11_ticks : zKV yX11_ticks cX11_ticks 1 (some .int) "DrumWarren" 0 := ⟨zk_1478, zk_1476, zk_1477, zk_25, by decide, by decide, by decide +kernel⟩
set_option maxHeartbeats 4000000 in
set_option maxRecDepth 100000 in
theorem ct_X11_ticks (l : Launch) (g : zG) (zX : va_W) (ad : Int → Nat) (zM0 zF0 : zMem) (V : Int → Int) (zt : Int) (hR : zRS 1 V zM0 zF0) (hI : zIV zt V) : zMt l yX11_ticks cX11_ticks 1 (some .int) 1 0 0 g (0, 398, zX) ad [.ref (ad 0)] zM0 zF0 (zPi (fun r M' F' => (V 4) = r ∧ zM0 = M' ∧ zF0 = F')) := by
  refine zMt.of "DrumWarren" rfl (by decide +kernel) (Nat.le_of_ble_eq_true rfl) (fun {p e s m args below meth c ls} C0 Wd hl hret hlk hin => ?_)
  have hl : lv_has ls 1 [(0, .ref (ad 0))] := hl
  have h0b := hI.1
  have h1b := hI.2.1
  have h2b := hI.2.2.1
  refine z_aload_n C0 hl 0 rfl dX11_ticks_0 ?_
  refine zg_8_0 C0 Wd zN0 zK0 zk_343 dX11_ticks_1 ?_
  refine zg_7_7 C0 Wd zN1 zK1 zk_207 dX11_ticks_4 ?_
  obtain ⟨he2, hz1⟩ : (zM0 1 7) = (V 4) ∧ zR (V 4) := (fun q => ⟨q, q ▸ Wd.rm _ _⟩) hR.c7
  refine z_top (congrArg zI he2) ?_
  clear he2
  exact z_iret C0 Wd hret hlk hz1 ⟨by first | rfl | (simp only [zb]; first | rfl | (split <;> omega) | omega) | (simp [zb, *]; done) | omega, by first | rfl | (simp [zb, *]; done), rfl⟩ dX11_ticks_7
theorem kv_X11_thumpsDrummed : zKV yX11_thumpsDrummed cX11_thumpsDrummed 1 (some .int) "DrumWarren" 0 := ⟨zk_1483, zk_1481, zk_1482, zk_25, by decide, by decide, by decide +kernel⟩
set_option maxHeartbeats 4000000 in
set_option maxRecDepth 100000 in
theorem ct_X11_thumpsDrummed (l : Launch) (g : zG) (zX : va_W) (ad : Int → Nat) (zM0 zF0 : zMem) (V : Int → Int) (zt : Int) (hR : zRS 1 V zM0 zF0) (hI : zIV zt V) : zMt l yX11_thumpsDrummed cX11_thumpsDrummed 1 (some .int) 1 0 0 g (0, 398, zX) ad [.ref (ad 0)] zM0 zF0 (zPi (fun r M' F' => (V 5) = r ∧ zM0 = M' ∧ zF0 = F')) := by
  refine zMt.of "DrumWarren" rfl (by decide +kernel) (Nat.le_of_ble_eq_true rfl) (fun {p e s m args below meth c ls} C0 Wd hl hret hlk hin => ?_)
  have hl : lv_has ls 1 [(0, .ref (ad 0))] := hl
  have h0b := hI.1
  have h1b := hI.2.1
  have h2b := hI.2.2.1
  refine z_aload_n C0 hl 0 rfl dX11_thumpsDrummed_0 ?_
  refine zg_8_0 C0 Wd zN0 zK0 zk_343 dX11_thumpsDrummed_1 ?_
  refine zg_7_8 C0 Wd zN1 zK1 zk_209 dX11_thumpsDrummed_4 ?_
  obtain ⟨he2, hz1⟩ : (zM0 1 8) = (V 5) ∧ zR (V 5) := (fun q => ⟨q, q ▸ Wd.rm _ _⟩) hR.c8
  refine z_top (congrArg zI he2) ?_
  clear he2
  exact z_iret C0 Wd hret hlk hz1 ⟨by first | rfl | (simp only [zb]; first | rfl | (split <;> omega) | omega) | (simp [zb, *]; done) | omega, by first | rfl | (simp [zb, *]; done), rfl⟩ dX11_thumpsDrummed_7
theorem kv_X11_deliveries : zKV yX11_deliveries cX11_deliveries 1 (some .int) "DrumWarren" 0 := ⟨zk_966, zk_964, zk_965, zk_25, by decide, by decide, by decide +kernel⟩
set_option maxHeartbeats 4000000 in
set_option maxRecDepth 100000 in
theorem ct_X11_deliveries (l : Launch) (g : zG) (zX : va_W) (ad : Int → Nat) (zM0 zF0 : zMem) (V : Int → Int) (zt : Int) (hR : zRS 1 V zM0 zF0) (hI : zIV zt V) : zMt l yX11_deliveries cX11_deliveries 1 (some .int) 1 0 0 g (0, 398, zX) ad [.ref (ad 0)] zM0 zF0 (zPi (fun r M' F' => (V 6) = r ∧ zM0 = M' ∧ zF0 = F')) := by
  refine zMt.of "DrumWarren" rfl (by decide +kernel) (Nat.le_of_ble_eq_true rfl) (fun {p e s m args below meth c ls} C0 Wd hl hret hlk hin => ?_)
  have hl : lv_has ls 1 [(0, .ref (ad 0))] := hl
  have h0b := hI.1
  have h1b := hI.2.1
  have h2b := hI.2.2.1
  refine z_aload_n C0 hl 0 rfl dX11_deliveries_0 ?_
  refine zg_8_0 C0 Wd zN0 zK0 zk_343 dX11_deliveries_1 ?_
  refine zg_7_9 C0 Wd zN1 zK1 zk_211 dX11_deliveries_4 ?_
  obtain ⟨he2, hz1⟩ : (zM0 1 9) = (V 6) ∧ zR (V 6) := (fun q => ⟨q, q ▸ Wd.rm _ _⟩) hR.c9
  refine z_top (congrArg zI he2) ?_
  clear he2
  exact z_iret C0 Wd hret hlk hz1 ⟨by first | rfl | (simp only [zb]; first | rfl | (split <;> omega) | omega) | (simp [zb, *]; done) | omega, by first | rfl | (simp [zb, *]; done), rfl⟩ dX11_deliveries_7
theorem kv_X11_losses : zKV yX11_losses cX11_losses 1 (some .int) "DrumWarren" 0 := ⟨zk_1390, zk_1388, zk_1389, zk_25, by decide, by decide, by decide +kernel⟩
set_option maxHeartbeats 4000000 in
set_option maxRecDepth 100000 in
theorem ct_X11_losses (l : Launch) (g : zG) (zX : va_W) (ad : Int → Nat) (zM0 zF0 : zMem) (V : Int → Int) (zt : Int) (hR : zRS 1 V zM0 zF0) (hI : zIV zt V) : zMt l yX11_losses cX11_losses 1 (some .int) 1 0 0 g (0, 398, zX) ad [.ref (ad 0)] zM0 zF0 (zPi (fun r M' F' => (V 7) = r ∧ zM0 = M' ∧ zF0 = F')) := by
  refine zMt.of "DrumWarren" rfl (by decide +kernel) (Nat.le_of_ble_eq_true rfl) (fun {p e s m args below meth c ls} C0 Wd hl hret hlk hin => ?_)
  have hl : lv_has ls 1 [(0, .ref (ad 0))] := hl
  have h0b := hI.1
  have h1b := hI.2.1
  have h2b := hI.2.2.1
  refine z_aload_n C0 hl 0 rfl dX11_losses_0 ?_
  refine zg_8_0 C0 Wd zN0 zK0 zk_343 dX11_losses_1 ?_
  refine zg_7_10 C0 Wd zN1 zK1 zk_213 dX11_losses_4 ?_
  obtain ⟨he2, hz1⟩ : (zM0 1 10) = (V 7) ∧ zR (V 7) := (fun q => ⟨q, q ▸ Wd.rm _ _⟩) hR.c10
  refine z_top (congrArg zI he2) ?_
  clear he2
  exact z_iret C0 Wd hret hlk hz1 ⟨by first | rfl | (simp only [zb]; first | rfl | (split <;> omega) | omega) | (simp [zb, *]; done) | omega, by first | rfl | (simp [zb, *]; done), rfl⟩ dX11_losses_7
theorem kv_X11_undoCount : zKV yX11_undoCount cX11_undoCount 1 (some .int) "DrumWarren" 0 := ⟨zk_1609, zk_1607, zk_1608, zk_25, by decide, by decide, by decide +kernel⟩
set_option maxHeartbeats 4000000 in
set_option maxRecDepth 100000 in
theorem ct_X11_undoCount (l : Launch) (g : zG) (zX : va_W) (ad : Int → Nat) (zM0 zF0 : zMem) : zMt l yX11_undoCount cX11_undoCount 1 (some .int) 0 0 0 g (0, 398, zX) ad [.ref (ad 0)] zM0 zF0 (zPi (fun r M' F' => (zM0 94 2) = r ∧ zM0 = M' ∧ zF0 = F')) := by
  refine zMt.of "DrumWarren" rfl (by decide +kernel) (Nat.le_of_ble_eq_true rfl) (fun {p e s m args below meth c ls} C0 Wd hl hret hlk hin => ?_)
  have hl : lv_has ls 1 [(0, .ref (ad 0))] := hl
  refine z_aload_n C0 hl 0 rfl dX11_undoCount_0 ?_
  refine zg_8_3 C0 Wd zN0 zK0 zk_346 dX11_undoCount_1 ?_
  refine zg_5_2 C0 Wd zN94 zK94 zk_249 dX11_undoCount_4 ?_
  have hz1 : zR (zM0 94 2) := Wd.rm _ _
  exact z_iret C0 Wd hret hlk hz1 ⟨by first | rfl | (simp only [zb]; first | rfl | (split <;> omega) | omega) | (simp [zb, *]; done) | omega, by first | rfl | (simp [zb, *]; done), rfl⟩ dX11_undoCount_7
theorem kv_X11_tunnelDelay : zKV yX11_tunnelDelay cX11_tunnelDelay 4 (some .int) "DrumWarren" 2 := ⟨zk_784, zk_782, zk_783, zk_25, by decide, by decide, by decide +kernel⟩
set_option maxHeartbeats 4000000 in
set_option maxRecDepth 100000 in
theorem ct_X11_tunnelDelay (l : Launch) (g : zG) (zX : va_W) (ad : Int → Nat) (zM0 zF0 : zMem) (V : Int → Int) (zt : Int) (x0 : Int) (hx0 : zR x0) (x1 : Int) (hx1 : zR x1) (hR : zRS 1 V zM0 zF0) (hI : zIV zt V) : zMx l yX11_tunnelDelay cX11_tunnelDelay 4 (some .int) 8 3 18 g (0, 398, zX) ad [.ref (ad 0), .int (zI x0), .int (zI x1)] zM0 zF0 (zPi (fun r M' F' => (((zisC V x0 ∧ zisC V x1) ∧ V (8 + 8 * x0 + x1) ≠ 0) ∧ (V (8 + 8 * x0 + x1)) = r ∧ zM0 = M' ∧ zF0 = F'))) (fun E M' F' => (E = "java/lang/IndexOutOfBoundsException" ∧ ¬ (zisC V x0 ∧ zisC V x1) ∨ E = "java/util/NoSuchElementException" ∧ (zisC V x0 ∧ zisC V x1) ∧ V (8 + 8 * x0 + x1) = 0) ∧ zM0 = M' ∧ zF0 = F') := by
  refine zMx.of "DrumWarren" rfl (by decide +kernel) (Nat.le_of_ble_eq_true rfl) (fun {p e s m args below meth c ls} C0 Wd hl hret hlk hin hst hno => ?_)
  have hl : lv_has ls 4 [(0, .ref (ad 0)), (1, .int (zI x0)), (2, .int (zI x1))] := hl
  have h0b := hI.1
  have h1b := hI.2.1
  have h2b := hI.2.2.1
  refine z_aload_n C0 hl 0 rfl dX11_tunnelDelay_0 ?_
  refine z_iload_n C0 hl 1 rfl dX11_tunnelDelay_1 ?_
  refine z_invVX (As := [.int (zI x0)]) (rest := []) C0 Wd hst hno hlk (ct_X11_checkChamber l g zX ad zM0 zF0 V zt x0 hx0 hR hI) kv_X11_checkChamber (zrecvW C0 Wd zN0 (zE_8 zK0) rfl) zk_785 rfl hl.1 rfl (Nat.le_of_ble_eq_true rfl) (by decide) (by decide) (by decide) (by decide) (fun E M9 F9 h9 => by obtain ⟨q1, q2, rfl, rfl⟩ := h9; refine ⟨?_, rfl, rfl⟩; first | exact (Or.inl ⟨q1, (by first | assumption | omega)⟩) | exact (Or.inr ⟨q1, (by first | assumption | omega)⟩)) dX11_tunnelDelay_2 (z_kkv (fun zMr1 zFr1 H locs hp Wd => ?_))
  rcases hp with ⟨hr1_0_0, rfl, rfl⟩
  · skip
    refine z_aload_n C0 hl 0 rfl dX11_tunnelDelay_5 ?_
    refine z_iload_n C0 hl 2 rfl dX11_tunnelDelay_6 ?_
    refine z_invVX (As := [.int (zI x1)]) (rest := []) C0 Wd hst hno hlk (ct_X11_checkChamber l g zX ad zM0 zF0 V zt x1 hx1 hR hI) kv_X11_checkChamber (zrecvW C0 Wd zN0 (zE_8 zK0) rfl) zk_785 rfl hl.1 rfl (Nat.le_of_ble_eq_true rfl) (by decide) (by decide) (by decide) (by decide) (fun E M9 F9 h9 => by obtain ⟨q1, q2, rfl, rfl⟩ := h9; refine ⟨?_, rfl, rfl⟩; first | exact (Or.inl ⟨q1, (by first | assumption | omega)⟩) | exact (Or.inr ⟨q1, (by first | assumption | omega)⟩)) dX11_tunnelDelay_7 (z_kkv (fun zMr3 zFr3 H locs hp Wd => ?_))
    rcases hp with ⟨hr3_0_0, rfl, rfl⟩
    · skip
      refine z_aload_n C0 hl 0 rfl dX11_tunnelDelay_10 ?_
      refine zg_8_0 C0 Wd zN0 zK0 zk_343 dX11_tunnelDelay_11 ?_
      refine zg_7_0 C0 Wd zN1 zK1 zk_194 dX11_tunnelDelay_14 ?_
      refine z_rf (show (1 + 1) = 2 by decide) ?_
      refine z_iload_n C0 hl 1 rfl dX11_tunnelDelay_17 ?_
      refine z_iload_n C0 hl 2 rfl dX11_tunnelDelay_18 ?_
      refine z_invVi (As := [.int (zI x0), .int (zI x1)]) (rest := []) C0 Wd (ct_X2_delayOfTunnel l g zX ad zM0 zF0 1 zB_1 V x0 hx0 x1 hx1 hR.B (by omega)) kv_X2_delayOfTunnel zN2 (zE_1 zK2) rfl zk_791 rfl hl.1 rfl (Nat.le_of_ble_eq_true rfl) (by decide) (by decide) dX11_tunnelDelay_19 (fun r5 zMr5 zFr5 H locs hrr5 hp Wd => ?_)
      rcases hp with ⟨hr5_0_0, rfl, rfl, rfl⟩ | ⟨hr5_1_0, rfl, rfl, rfl⟩
      · skip
        refine z_istore_n C0 hl [(3, .int (zI (V (8 + 8 * x0 + x1)))), (0, .ref (ad 0)), (1, .int (zI x0)), (2, .int (zI x1))] (by decide) rfl dX11_tunnelDelay_22 (fun ls hl => ?_)
        refine z_iload_n C0 hl 0 rfl dX11_tunnelDelay_23 ?_
        refine z_if_ne C0 (tgt := 37) hrr5 dX11_tunnelDelay_24 (by decide) (fun c7 => ?_) (fun c7 => ?_)
        · skip
          refine z_iload_n C0 hl 0 rfl dX11_tunnelDelay_37 ?_
          exact z_xret (z_iret C0 Wd hret hlk hrr5 (by first | exact ⟨(by first | assumption | omega), (by first | rfl | omega), (by first | rfl | (simp [zb, *]; done)), rfl⟩) dX11_tunnelDelay_38) (by decide) (by decide)
        · skip
          exact z_throwE (k := 2) C0 Wd hst hl.1 zTh_N (zc_r C0 (q := ("DrumWarren", 95, "no tunnel joins these chambers", 200)) (List.mem_of_getElem? (i := 12) rfl)) hno hlk dX11_tunnelDelay_27 dX11_tunnelDelay_30 (Or.inl ⟨rfl, dX11_tunnelDelay_31⟩) dX11_tunnelDelay_33 dX11_tunnelDelay_36 (by decide) (by decide) (by decide) (by decide) (by refine ⟨?_, rfl, rfl⟩; first | exact (Or.inl ⟨rfl, (by first | assumption | omega)⟩) | exact (Or.inr ⟨rfl, (by first | assumption | omega)⟩))
      · skip
        exfalso; omega
theorem kv_X11_shortestDelay : zKV yX11_shortestDelay cX11_shortestDelay 3 (some .int) "DrumWarren" 2 := ⟨zk_799, zk_797, zk_798, zk_25, by decide, by decide, by decide +kernel⟩
set_option maxHeartbeats 4000000 in
set_option maxRecDepth 100000 in
theorem ct_X11_shortestDelay (l : Launch) (g : zG) (zX : va_W) (ad : Int → Nat) (zM0 zF0 : zMem) (V : Int → Int) (zt : Int) (x0 : Int) (hx0 : zR x0) (x1 : Int) (hx1 : zR x1) (hR : zRS 1 V zM0 zF0) (hI : zIV zt V) : zMx l yX11_shortestDelay cX11_shortestDelay 3 (some .int) 8 3 18 g (0, 398, zX) ad [.ref (ad 0), .int (zI x0), .int (zI x1)] zM0 zF0 (zPi (fun r M' F' => (((zisC V x0 ∧ zisC V x1) ∧ zBF V x0 x1 ≠ 1000) ∧ (zBF V x0 x1) = r ∧ zM0 = M' ∧ zF0 = F'))) (fun E M' F' => (E = "java/lang/IndexOutOfBoundsException" ∧ ¬ (zisC V x0 ∧ zisC V x1) ∨ E = "java/util/NoSuchElementException" ∧ (zisC V x0 ∧ zisC V x1) ∧ zBF V x0 x1 = 1000) ∧ zM0 = M' ∧ zF0 = F') := by
  refine zMx.of "DrumWarren" rfl (by decide +kernel) (Nat.le_of_ble_eq_true rfl) (fun {p e s m args below meth c ls} C0 Wd hl hret hlk hin hst hno => ?_)
  have hl : lv_has ls 3 [(0, .ref (ad 0)), (1, .int (zI x0)), (2, .int (zI x1))] := hl
  have h0b := hI.1
  have h1b := hI.2.1
  have h2b := hI.2.2.1
  refine z_aload_n C0 hl 0 rfl dX11_shortestDelay_0 ?_
  refine z_iload_n C0 hl 1 rfl dX11_shortestDelay_1 ?_
  refine z_invVX (As := [.int (zI x0)]) (rest := []) C0 Wd hst hno hlk (ct_X11_checkChamber l g zX ad zM0 zF0 V zt x0 hx0 hR hI) kv_X11_checkChamber (zrecvW C0 Wd zN0 (zE_8 zK0) rfl) zk_785 rfl hl.1 rfl (Nat.le_of_ble_eq_true rfl) (by decide) (by decide) (by decide) (by decide) (fun E M9 F9 h9 => by obtain ⟨q1, q2, rfl, rfl⟩ := h9; refine ⟨?_, rfl, rfl⟩; first | exact (Or.inl ⟨q1, (by first | assumption | omega)⟩) | exact (Or.inr ⟨q1, (by first | assumption | omega)⟩)) dX11_shortestDelay_2 (z_kkv (fun zMr1 zFr1 H locs hp Wd => ?_))
  rcases hp with ⟨hr1_0_0, rfl, rfl⟩
  · skip
    refine z_aload_n C0 hl 0 rfl dX11_shortestDelay_5 ?_
    refine z_iload_n C0 hl 2 rfl dX11_shortestDelay_6 ?_
    refine z_invVX (As := [.int (zI x1)]) (rest := []) C0 Wd hst hno hlk (ct_X11_checkChamber l g zX ad zM0 zF0 V zt x1 hx1 hR hI) kv_X11_checkChamber (zrecvW C0 Wd zN0 (zE_8 zK0) rfl) zk_785 rfl hl.1 rfl (Nat.le_of_ble_eq_true rfl) (by decide) (by decide) (by decide) (by decide) (fun E M9 F9 h9 => by obtain ⟨q1, q2, rfl, rfl⟩ := h9; refine ⟨?_, rfl, rfl⟩; first | exact (Or.inl ⟨q1, (by first | assumption | omega)⟩) | exact (Or.inr ⟨q1, (by first | assumption | omega)⟩)) dX11_shortestDelay_7 (z_kkv (fun zMr3 zFr3 H locs hp Wd => ?_))
    rcases hp with ⟨hr3_0_0, rfl, rfl⟩
    · skip
      refine z_aload_n C0 hl 0 rfl dX11_shortestDelay_10 ?_
      refine zg_8_0 C0 Wd zN0 zK0 zk_343 dX11_shortestDelay_11 ?_
      refine zg_7_0 C0 Wd zN1 zK1 zk_194 dX11_shortestDelay_14 ?_
      refine z_rf (show (1 + 1) = 2 by decide) ?_
      refine z_iload_n C0 hl 1 rfl dX11_shortestDelay_17 ?_
      refine z_iload_n C0 hl 2 rfl dX11_shortestDelay_18 ?_
      refine z_invVi (As := [.int (zI x0), .int (zI x1)]) (rest := []) C0 Wd (ct_X2_delayOfWay l g zX ad zM0 zF0 1 zB_1 V x0 hx0 x1 hx1 hR.B (by omega)) kv_X2_delayOfWay zN2 (zE_1 zK2) rfl zk_800 rfl hl.1 rfl (Nat.le_of_ble_eq_true rfl) (by decide) (by decide) dX11_shortestDelay_19 (fun r5 zMr5 zFr5 H locs hrr5 hp Wd => ?_)
      rcases hp with ⟨hr5_0_0, rfl, rfl, rfl⟩ | ⟨hr5_1_0, rfl, rfl, rfl⟩
      · skip
        refine z_invSX (As := [.int (zI (zBF V x0 x1))]) (rest := []) C0 Wd hst hno hlk (ct_X11_checkedWay l g zX ad zM0 zF0 (zBF V x0 x1) hrr5) kv_X11_checkedWay zk_801 rfl hl.1 rfl (Nat.le_of_ble_eq_true rfl) (by decide) (by decide) (by decide) (by decide) (fun E M9 F9 h9 => by obtain ⟨q1, q2, rfl, rfl⟩ := h9; refine ⟨?_, rfl, rfl⟩; first | exact (Or.inl ⟨q1, (by first | assumption | omega)⟩) | exact (Or.inr ⟨q1, (by first | assumption | omega)⟩)) dX11_shortestDelay_22 (z_kki (fun r7 zMr7 zFr7 H locs hrr7 hp Wd => ?_))
        rcases hp with ⟨hr7_0_0, rfl, rfl, rfl⟩
        · skip
          exact z_xret (z_iret C0 Wd hret hlk hrr7 (by first | exact ⟨(by first | assumption | omega), (by first | rfl | omega), (by first | rfl | (simp [zb, *]; done)), rfl⟩) dX11_shortestDelay_25) (by decide) (by decide)
      · skip
        exfalso; omega
theorem kv_X11_chamberOf : zKV yX11_chamberOf cX11_chamberOf 2 (some .int) "DrumWarren" 1 := ⟨zk_942, zk_940, zk_941, zk_25, by decide, by decide, by decide +kernel⟩
set_option maxHeartbeats 4000000 in
set_option maxRecDepth 100000 in
theorem ct_X11_chamberOf (l : Launch) (g : zG) (zX : va_W) (ad : Int → Nat) (zM0 zF0 : zMem) (V : Int → Int) (zt : Int) (x0 : Int) (hx0 : zR x0) (hR : zRS 1 V zM0 zF0) (hI : zIV zt V) : zMx l yX11_chamberOf cX11_chamberOf 2 (some .int) 8 1 6 g (0, 398, zX) ad [.ref (ad 0), .int (zI x0)] zM0 zF0 (zPi (fun r M' F' => ((zisH V x0) ∧ (V (72 + 4 * x0 + 0)) = r ∧ zM0 = M' ∧ zF0 = F'))) (fun E M' F' => (E = "java/lang/IndexOutOfBoundsException" ∧ ¬ zisH V x0) ∧ zM0 = M' ∧ zF0 = F') := by
  refine zMx.of "DrumWarren" rfl (by decide +kernel) (Nat.le_of_ble_eq_true rfl) (fun {p e s m args below meth c ls} C0 Wd hl hret hlk hin hst hno => ?_)
  have hl : lv_has ls 2 [(0, .ref (ad 0)), (1, .int (zI x0))] := hl
  have h0b := hI.1
  have h1b := hI.2.1
  have h2b := hI.2.2.1
  refine z_aload_n C0 hl 0 rfl dX11_chamberOf_0 ?_
  refine z_iload_n C0 hl 1 rfl dX11_chamberOf_1 ?_
  refine z_invVX (As := [.int (zI x0)]) (rest := []) C0 Wd hst hno hlk (ct_X11_checkHare l g zX ad zM0 zF0 V zt x0 hx0 hR hI) kv_X11_checkHare (zrecvW C0 Wd zN0 (zE_8 zK0) rfl) zk_929 rfl hl.1 rfl (Nat.le_of_ble_eq_true rfl) (by decide) (by decide) (by decide) (by decide) (fun E M9 F9 h9 => by obtain ⟨q1, q2, rfl, rfl⟩ := h9; refine ⟨?_, rfl, rfl⟩; first | exact ⟨q1, (by first | assumption | omega)⟩) dX11_chamberOf_2 (z_kkv (fun zMr1 zFr1 H locs hp Wd => ?_))
  rcases hp with ⟨hr1_0_0, rfl, rfl⟩
  · skip
    refine z_aload_n C0 hl 0 rfl dX11_chamberOf_5 ?_
    refine zg_8_0 C0 Wd zN0 zK0 zk_343 dX11_chamberOf_6 ?_
    refine z_iload_n C0 hl 1 rfl dX11_chamberOf_9 ?_
    refine z_invVi (As := [.int (zI x0)]) (rest := []) C0 Wd (ct_X10_placeOf l g zX ad zM0 zF0 1 zB_1 V zt x0 hx0 hR hI) kv_X10_placeOf zN1 (zE_7 zK1) rfl zk_662 rfl hl.1 rfl (Nat.le_of_ble_eq_true rfl) (by decide) (by decide) dX11_chamberOf_10 (fun r3 zMr3 zFr3 H locs hrr3 hp Wd => ?_)
    rcases hp with ⟨hr3_0_0, rfl, rfl, rfl⟩ | ⟨hr3_1_0, rfl, rfl, rfl⟩
    · skip
      exact z_xret (z_iret C0 Wd hret hlk hrr3 (by first | exact ⟨(by first | assumption | omega), (by first | rfl | omega), (by first | rfl | (simp [zb, *]; done)), rfl⟩) dX11_chamberOf_13) (by decide) (by decide)
    · skip
      exfalso; omega
theorem kv_X11_isListening : zKV yX11_isListening cX11_isListening 2 (some .boolean) "DrumWarren" 1 := ⟨zk_973, zk_971, zk_972, zk_25, by decide, by decide, by decide +kernel⟩
set_option maxHeartbeats 4000000 in
set_option maxRecDepth 100000 in
theorem ct_X11_isListening (l : Launch) (g : zG) (zX : va_W) (ad : Int → Nat) (zM0 zF0 : zMem) (V : Int → Int) (zt : Int) (x0 : Int) (hx0 : zR x0) (hR : zRS 1 V zM0 zF0) (hI : zIV zt V) : zMx l yX11_isListening cX11_isListening 2 (some .boolean) 8 1 6 g (0, 398, zX) ad [.ref (ad 0), .int (zI x0)] zM0 zF0 (zPi (fun r M' F' => ((zisH V x0) ∧ (V (72 + 4 * x0 + 1)) = r ∧ zM0 = M' ∧ zF0 = F'))) (fun E M' F' => (E = "java/lang/IndexOutOfBoundsException" ∧ ¬ zisH V x0) ∧ zM0 = M' ∧ zF0 = F') := by
  refine zMx.of "DrumWarren" rfl (by decide +kernel) (Nat.le_of_ble_eq_true rfl) (fun {p e s m args below meth c ls} C0 Wd hl hret hlk hin hst hno => ?_)
  have hl : lv_has ls 2 [(0, .ref (ad 0)), (1, .int (zI x0))] := hl
  have h0b := hI.1
  have h1b := hI.2.1
  have h2b := hI.2.2.1
  refine z_aload_n C0 hl 0 rfl dX11_isListening_0 ?_
  refine z_iload_n C0 hl 1 rfl dX11_isListening_1 ?_
  refine z_invVX (As := [.int (zI x0)]) (rest := []) C0 Wd hst hno hlk (ct_X11_checkHare l g zX ad zM0 zF0 V zt x0 hx0 hR hI) kv_X11_checkHare (zrecvW C0 Wd zN0 (zE_8 zK0) rfl) zk_929 rfl hl.1 rfl (Nat.le_of_ble_eq_true rfl) (by decide) (by decide) (by decide) (by decide) (fun E M9 F9 h9 => by obtain ⟨q1, q2, rfl, rfl⟩ := h9; refine ⟨?_, rfl, rfl⟩; first | exact ⟨q1, (by first | assumption | omega)⟩) dX11_isListening_2 (z_kkv (fun zMr1 zFr1 H locs hp Wd => ?_))
  rcases hp with ⟨hr1_0_0, rfl, rfl⟩
  · skip
    have hh9 := (hI.2.2.2.2.2.1 x0 (by omega) (by omega)).2.1
    refine z_aload_n C0 hl 0 rfl dX11_isListening_5 ?_
    refine zg_8_0 C0 Wd zN0 zK0 zk_343 dX11_isListening_6 ?_
    refine z_iload_n C0 hl 1 rfl dX11_isListening_9 ?_
    refine z_invVi (As := [.int (zI x0)]) (rest := []) C0 Wd (ct_X10_listens l g zX ad zM0 zF0 1 zB_1 V zt x0 hx0 hR hI) kv_X10_listens zN1 (zE_7 zK1) rfl zk_647 rfl hl.1 rfl (Nat.le_of_ble_eq_true rfl) (by decide) (by decide) dX11_isListening_10 (fun r3 zMr3 zFr3 H locs hrr3 hp Wd => ?_)
    rcases hp with ⟨hr3_0_0, rfl, rfl, rfl⟩ | ⟨hr3_1_0, rfl, rfl, rfl⟩
    · skip
      exact z_xret (z_zret C0 Wd hret hlk (by omega) (by first | exact ⟨(by first | assumption | omega), (by first | rfl | omega), (by first | rfl | (simp [zb, *]; done)), rfl⟩) dX11_isListening_13) (by decide) (by decide)
    · skip
      exfalso; omega
theorem kv_X11_isDrumming : zKV yX11_isDrumming cX11_isDrumming 2 (some .boolean) "DrumWarren" 1 := ⟨zk_949, zk_947, zk_948, zk_25, by decide, by decide, by decide +kernel⟩
set_option maxHeartbeats 4000000 in
set_option maxRecDepth 100000 in
theorem ct_X11_isDrumming (l : Launch) (g : zG) (zX : va_W) (ad : Int → Nat) (zM0 zF0 : zMem) (V : Int → Int) (zt : Int) (x0 : Int) (hx0 : zR x0) (hR : zRS 1 V zM0 zF0) (hI : zIV zt V) : zMx l yX11_isDrumming cX11_isDrumming 2 (some .boolean) 8 1 6 g (0, 398, zX) ad [.ref (ad 0), .int (zI x0)] zM0 zF0 (zPi (fun r M' F' => ((zisH V x0) ∧ zb (zdrm V x0) = r ∧ zM0 = M' ∧ zF0 = F'))) (fun E M' F' => (E = "java/lang/IndexOutOfBoundsException" ∧ ¬ zisH V x0) ∧ zM0 = M' ∧ zF0 = F') := by
  refine zMx.of "DrumWarren" rfl (by decide +kernel) (Nat.le_of_ble_eq_true rfl) (fun {p e s m args below meth c ls} C0 Wd hl hret hlk hin hst hno => ?_)
  have hl : lv_has ls 2 [(0, .ref (ad 0)), (1, .int (zI x0))] := hl
  have h0b := hI.1
  have h1b := hI.2.1
  have h2b := hI.2.2.1
  refine z_aload_n C0 hl 0 rfl dX11_isDrumming_0 ?_
  refine z_iload_n C0 hl 1 rfl dX11_isDrumming_1 ?_
  refine z_invVX (As := [.int (zI x0)]) (rest := []) C0 Wd hst hno hlk (ct_X11_checkHare l g zX ad zM0 zF0 V zt x0 hx0 hR hI) kv_X11_checkHare (zrecvW C0 Wd zN0 (zE_8 zK0) rfl) zk_929 rfl hl.1 rfl (Nat.le_of_ble_eq_true rfl) (by decide) (by decide) (by decide) (by decide) (fun E M9 F9 h9 => by obtain ⟨q1, q2, rfl, rfl⟩ := h9; refine ⟨?_, rfl, rfl⟩; first | exact ⟨q1, (by first | assumption | omega)⟩) dX11_isDrumming_2 (z_kkv (fun zMr1 zFr1 H locs hp Wd => ?_))
  rcases hp with ⟨hr1_0_0, rfl, rfl⟩
  · skip
    refine z_aload_n C0 hl 0 rfl dX11_isDrumming_5 ?_
    refine zg_8_0 C0 Wd zN0 zK0 zk_343 dX11_isDrumming_6 ?_
    refine z_iload_n C0 hl 1 rfl dX11_isDrumming_9 ?_
    refine z_invVi (As := [.int (zI x0)]) (rest := []) C0 Wd (ct_X10_drums l g zX ad zM0 zF0 1 zB_1 V zt x0 hx0 hR hI) kv_X10_drums zN1 (zE_7 zK1) rfl zk_950 rfl hl.1 rfl (Nat.le_of_ble_eq_true rfl) (by decide) (by decide) dX11_isDrumming_10 (fun r3 zMr3 zFr3 H locs hrr3 hp Wd => ?_)
    obtain ⟨rfl, rfl, rfl⟩ := hp
    exact z_xret (z_zret C0 Wd hret hlk (zb_01 _) (by first | exact ⟨(by first | assumption | omega), (by first | rfl | omega), (by first | rfl | (simp [zb, *]; done)), rfl⟩) dX11_isDrumming_13) (by decide) (by decide)
theorem kv_X11_received : zKV yX11_received cX11_received 2 (some .int) "DrumWarren" 1 := ⟨zk_928, zk_926, zk_927, zk_25, by decide, by decide, by decide +kernel⟩
set_option maxHeartbeats 4000000 in
set_option maxRecDepth 100000 in
theorem ct_X11_received (l : Launch) (g : zG) (zX : va_W) (ad : Int → Nat) (zM0 zF0 : zMem) (V : Int → Int) (zt : Int) (x0 : Int) (hx0 : zR x0) (hR : zRS 1 V zM0 zF0) (hI : zIV zt V) : zMx l yX11_received cX11_received 2 (some .int) 8 1 6 g (0, 398, zX) ad [.ref (ad 0), .int (zI x0)] zM0 zF0 (zPi (fun r M' F' => ((zisH V x0) ∧ (V (72 + 4 * x0 + 2)) = r ∧ zM0 = M' ∧ zF0 = F'))) (fun E M' F' => (E = "java/lang/IndexOutOfBoundsException" ∧ ¬ zisH V x0) ∧ zM0 = M' ∧ zF0 = F') := by
  refine zMx.of "DrumWarren" rfl (by decide +kernel) (Nat.le_of_ble_eq_true rfl) (fun {p e s m args below meth c ls} C0 Wd hl hret hlk hin hst hno => ?_)
  have hl : lv_has ls 2 [(0, .ref (ad 0)), (1, .int (zI x0))] := hl
  have h0b := hI.1
  have h1b := hI.2.1
  have h2b := hI.2.2.1
  refine z_aload_n C0 hl 0 rfl dX11_received_0 ?_
  refine z_iload_n C0 hl 1 rfl dX11_received_1 ?_
  refine z_invVX (As := [.int (zI x0)]) (rest := []) C0 Wd hst hno hlk (ct_X11_checkHare l g zX ad zM0 zF0 V zt x0 hx0 hR hI) kv_X11_checkHare (zrecvW C0 Wd zN0 (zE_8 zK0) rfl) zk_929 rfl hl.1 rfl (Nat.le_of_ble_eq_true rfl) (by decide) (by decide) (by decide) (by decide) (fun E M9 F9 h9 => by obtain ⟨q1, q2, rfl, rfl⟩ := h9; refine ⟨?_, rfl, rfl⟩; first | exact ⟨q1, (by first | assumption | omega)⟩) dX11_received_2 (z_kkv (fun zMr1 zFr1 H locs hp Wd => ?_))
  rcases hp with ⟨hr1_0_0, rfl, rfl⟩
  · skip
    refine z_aload_n C0 hl 0 rfl dX11_received_5 ?_
    refine zg_8_0 C0 Wd zN0 zK0 zk_343 dX11_received_6 ?_
    refine z_iload_n C0 hl 1 rfl dX11_received_9 ?_
    refine z_invVi (As := [.int (zI x0)]) (rest := []) C0 Wd (ct_X10_receivedBy l g zX ad zM0 zF0 1 zB_1 V zt x0 hx0 hR hI) kv_X10_receivedBy zN1 (zE_7 zK1) rfl zk_935 rfl hl.1 rfl (Nat.le_of_ble_eq_true rfl) (by decide) (by decide) dX11_received_10 (fun r3 zMr3 zFr3 H locs hrr3 hp Wd => ?_)
    rcases hp with ⟨hr3_0_0, rfl, rfl, rfl⟩ | ⟨hr3_1_0, rfl, rfl, rfl⟩
    · skip
      exact z_xret (z_iret C0 Wd hret hlk hrr3 (by first | exact ⟨(by first | assumption | omega), (by first | rfl | omega), (by first | rfl | (simp [zb, *]; done)), rfl⟩) dX11_received_13) (by decide) (by decide)
    · skip
      exfalso; omega
theorem kv_X11_latestNumber : zKV yX11_latestNumber cX11_latestNumber 3 (some .int) "DrumWarren" 1 := ⟨zk_957, zk_955, zk_956, zk_25, by decide, by decide, by decide +kernel⟩
set_option maxHeartbeats 4000000 in
set_option maxRecDepth 100000 in
theorem ct_X11_latestNumber (l : Launch) (g : zG) (zX : va_W) (ad : Int → Nat) (zM0 zF0 : zMem) (V : Int → Int) (zt : Int) (x0 : Int) (hx0 : zR x0) (hR : zRS 1 V zM0 zF0) (hI : zIV zt V) (hLa : zLa V) : zMx l yX11_latestNumber cX11_latestNumber 3 (some .int) 8 2 12 g (0, 398, zX) ad [.ref (ad 0), .int (zI x0)] zM0 zF0 (zPi (fun r M' F' => ((zisH V x0 ∧ 0 < V (72 + 4 * x0 + 2)) ∧ (V (72 + 4 * x0 + 3) - 1) = r ∧ zM0 = M' ∧ zF0 = F'))) (fun E M' F' => (E = "java/lang/IndexOutOfBoundsException" ∧ ¬ zisH V x0 ∨ E = "java/util/NoSuchElementException" ∧ zisH V x0 ∧ ¬ 0 < V (72 + 4 * x0 + 2)) ∧ zM0 = M' ∧ zF0 = F') := by
  refine zMx.of "DrumWarren" rfl (by decide +kernel) (Nat.le_of_ble_eq_true rfl) (fun {p e s m args below meth c ls} C0 Wd hl hret hlk hin hst hno => ?_)
  have hl : lv_has ls 3 [(0, .ref (ad 0)), (1, .int (zI x0))] := hl
  have h0b := hI.1
  have h1b := hI.2.1
  have h2b := hI.2.2.1
  refine z_aload_n C0 hl 0 rfl dX11_latestNumber_0 ?_
  refine z_iload_n C0 hl 1 rfl dX11_latestNumber_1 ?_
  refine z_invVX (As := [.int (zI x0)]) (rest := []) C0 Wd hst hno hlk (ct_X11_checkHare l g zX ad zM0 zF0 V zt x0 hx0 hR hI) kv_X11_checkHare (zrecvW C0 Wd zN0 (zE_8 zK0) rfl) zk_929 rfl hl.1 rfl (Nat.le_of_ble_eq_true rfl) (by decide) (by decide) (by decide) (by decide) (fun E M9 F9 h9 => by obtain ⟨q1, q2, rfl, rfl⟩ := h9; refine ⟨?_, rfl, rfl⟩; first | exact (Or.inl ⟨q1, (by first | assumption | omega)⟩) | exact (Or.inr ⟨q1, (by first | assumption | omega)⟩)) dX11_latestNumber_2 (z_kkv (fun zMr1 zFr1 H locs hp Wd => ?_))
  rcases hp with ⟨hr1_0_0, rfl, rfl⟩
  · skip
    have hh9 := (hI.2.2.2.2.2.1 x0 (by omega) (by omega)).2.2.2
    have hla9 := hLa x0 (by omega) (by omega)
    refine z_aload_n C0 hl 0 rfl dX11_latestNumber_5 ?_
    refine zg_8_0 C0 Wd zN0 zK0 zk_343 dX11_latestNumber_6 ?_
    refine z_iload_n C0 hl 1 rfl dX11_latestNumber_9 ?_
    refine z_invVi (As := [.int (zI x0)]) (rest := []) C0 Wd (ct_X10_latestOf l g zX ad zM0 zF0 1 zB_1 V zt x0 hx0 hR hI) kv_X10_latestOf zN1 (zE_7 zK1) rfl zk_958 rfl hl.1 rfl (Nat.le_of_ble_eq_true rfl) (by decide) (by decide) dX11_latestNumber_10 (fun r3 zMr3 zFr3 H locs hrr3 hp Wd => ?_)
    rcases hp with ⟨hr3_0_0, rfl, rfl, rfl⟩ | ⟨hr3_1_0, rfl, rfl, rfl⟩
    · skip
      refine z_istore_n C0 hl [(2, .int (zI (V (72 + 4 * x0 + 3) - 1))), (0, .ref (ad 0)), (1, .int (zI x0))] (by decide) rfl dX11_latestNumber_13 (fun ls hl => ?_)
      refine z_iload_n C0 hl 0 rfl dX11_latestNumber_14 ?_
      refine z_iconst C0 dX11_latestNumber_15 ?_
      refine z_icmp_ne C0 (tgt := 29) hrr3 (zR_mk (by decide) (by decide)) dX11_latestNumber_16 (by decide) (fun c5 => ?_) (fun c5 => ?_)
      · skip
        refine z_iload_n C0 hl 0 rfl dX11_latestNumber_29 ?_
        exact z_xret (z_iret C0 Wd hret hlk hrr3 (by first | exact ⟨(by first | assumption | omega), (by first | rfl | omega), (by first | rfl | (simp [zb, *]; done)), rfl⟩) dX11_latestNumber_30) (by decide) (by decide)
      · skip
        exact z_throwE (k := 2) C0 Wd hst hl.1 zTh_N (zc_r C0 (q := ("DrumWarren", 151, "no message was delivered to this hare", 201)) (List.mem_of_getElem? (i := 13) rfl)) hno hlk dX11_latestNumber_19 dX11_latestNumber_22 (Or.inl ⟨rfl, dX11_latestNumber_23⟩) dX11_latestNumber_25 dX11_latestNumber_28 (by decide) (by decide) (by decide) (by decide) (by refine ⟨?_, rfl, rfl⟩; first | exact (Or.inl ⟨rfl, (by first | assumption | omega)⟩) | exact (Or.inr ⟨rfl, (by first | assumption | omega)⟩))
    · skip
      refine z_istore_n C0 hl [(2, .int (zI (-1))), (0, .ref (ad 0)), (1, .int (zI x0))] (by decide) rfl dX11_latestNumber_13 (fun ls hl => ?_)
      refine z_iload_n C0 hl 0 rfl dX11_latestNumber_14 ?_
      refine z_iconst C0 dX11_latestNumber_15 ?_
      refine z_icmp_ne C0 (tgt := 29) (zR_mk (by decide) (by decide)) (zR_mk (by decide) (by decide)) dX11_latestNumber_16 (by decide) (fun h => absurd h (by decide)) (fun _ => ?_)
      exact z_throwE (k := 2) C0 Wd hst hl.1 zTh_N (zc_r C0 (q := ("DrumWarren", 151, "no message was delivered to this hare", 201)) (List.mem_of_getElem? (i := 13) rfl)) hno hlk dX11_latestNumber_19 dX11_latestNumber_22 (Or.inl ⟨rfl, dX11_latestNumber_23⟩) dX11_latestNumber_25 dX11_latestNumber_28 (by decide) (by decide) (by decide) (by decide) (by refine ⟨?_, rfl, rfl⟩; first | exact (Or.inl ⟨rfl, (by first | assumption | omega)⟩) | exact (Or.inr ⟨rfl, (by first | assumption | omega)⟩))
theorem kv_X11_message : zKV yX11_message cX11_message 2 (some .int) "DrumWarren" 1 := ⟨zk_881, zk_879, zk_880, zk_25, by decide, by decide, by decide +kernel⟩
set_option maxHeartbeats 4000000 in
set_option maxRecDepth 100000 in
theorem ct_X11_message (l : Launch) (g : zG) (zX : va_W) (ad : Int → Nat) (zM0 zF0 : zMem) (V : Int → Int) (zt : Int) (x0 : Int) (hx0 : zR x0) (hR : zRS 1 V zM0 zF0) (hI : zIV zt V) : zMx l yX11_message cX11_message 2 (some .int) 8 1 6 g (0, 398, zX) ad [.ref (ad 0), .int (zI x0)] zM0 zF0 (zPi (fun r M' F' => (((0 ≤ x0 ∧ x0 < V 2)) ∧ (V (96 + 47 * x0 + 0)) = r ∧ zM0 = M' ∧ zF0 = F'))) (fun E M' F' => (E = "java/lang/IndexOutOfBoundsException" ∧ ¬ (0 ≤ x0 ∧ x0 < V 2)) ∧ zM0 = M' ∧ zF0 = F') := by
  refine zMx.of "DrumWarren" rfl (by decide +kernel) (Nat.le_of_ble_eq_true rfl) (fun {p e s m args below meth c ls} C0 Wd hl hret hlk hin hst hno => ?_)
  have hl : lv_has ls 2 [(0, .ref (ad 0)), (1, .int (zI x0))] := hl
  have h0b := hI.1
  have h1b := hI.2.1
  have h2b := hI.2.2.1
  refine z_iload_n C0 hl 1 rfl dX11_message_0 ?_
  refine z_if_lt C0 (tgt := 15) hx0 dX11_message_1 (by decide) (fun c1 => ?_) (fun c1 => ?_)
  · skip
    exact z_throwE (k := 2) C0 Wd hst hl.1 zTh_I (zc_r C0 (q := ("DrumWarren", 172, "no such position", 203)) (List.mem_of_getElem? (i := 15) rfl)) hno hlk dX11_message_15 dX11_message_18 (Or.inl ⟨rfl, dX11_message_19⟩) dX11_message_21 dX11_message_24 (by decide) (by decide) (by decide) (by decide) (by refine ⟨?_, rfl, rfl⟩; first | exact ⟨rfl, (by first | assumption | omega)⟩)
  · skip
    refine z_iload_n C0 hl 1 rfl dX11_message_4 ?_
    refine z_aload_n C0 hl 0 rfl dX11_message_5 ?_
    refine zg_8_0 C0 Wd zN0 zK0 zk_343 dX11_message_6 ?_
    refine zg_7_4 C0 Wd zN1 zK1 zk_201 dX11_message_9 ?_
    obtain ⟨he3, hz2⟩ : (zM0 1 4) = (V 2) ∧ zR (V 2) := (fun q => ⟨q, q ▸ Wd.rm _ _⟩) hR.c4
    refine z_top (congrArg zI he3) ?_
    clear he3
    refine z_icmp_lt C0 (tgt := 25) hx0 hz2 dX11_message_12 (by decide) (fun c4 => ?_) (fun c4 => ?_)
    · skip
      refine z_aload_n C0 hl 0 rfl dX11_message_25 ?_
      refine zg_8_0 C0 Wd zN0 zK0 zk_343 dX11_message_26 ?_
      refine zg_7_3 C0 Wd zN1 zK1 zk_199 dX11_message_29 ?_
      refine z_rf (show (1 + 6) = 7 by decide) ?_
      refine z_iload_n C0 hl 1 rfl dX11_message_32 ?_
      refine z_aald16 C0 Wd zN7 zK7 zL7 (by omega) (by omega) (by decide) dX11_message_33 ?_
      refine zg_6_0 C0 Wd (znO (hR.mo (by omega) (by omega))) (zkO (hR.mo (by omega) (by omega))) zk_156 dX11_message_34 ?_
      obtain ⟨he6, hz5⟩ : (zM0 (zF0 7 x0) 0) = (V (96 + 47 * x0 + 0)) ∧ zR (V (96 + 47 * x0 + 0)) := (fun q => ⟨q, q ▸ Wd.rm _ _⟩) (hR.m0 (by omega) (by omega))
      refine z_top (congrArg zI he6) ?_
      clear he6
      exact z_xret (z_iret C0 Wd hret hlk hz5 (by first | exact ⟨(by first | assumption | omega), (by first | rfl | omega), (by first | rfl | (simp [zb, *]; done)), rfl⟩) dX11_message_37) (by decide) (by decide)
    · skip
      exact z_throwE (k := 2) C0 Wd hst hl.1 zTh_I (zc_r C0 (q := ("DrumWarren", 172, "no such position", 203)) (List.mem_of_getElem? (i := 15) rfl)) hno hlk dX11_message_15 dX11_message_18 (Or.inl ⟨rfl, dX11_message_19⟩) dX11_message_21 dX11_message_24 (by decide) (by decide) (by decide) (by decide) (by refine ⟨?_, rfl, rfl⟩; first | exact ⟨rfl, (by first | assumption | omega)⟩)
theorem kv_X11_sender : zKV yX11_sender cX11_sender 2 (some .int) "DrumWarren" 1 := ⟨zk_905, zk_903, zk_904, zk_25, by decide, by decide, by decide +kernel⟩
set_option maxHeartbeats 4000000 in
set_option maxRecDepth 100000 in
theorem ct_X11_sender (l : Launch) (g : zG) (zX : va_W) (ad : Int → Nat) (zM0 zF0 : zMem) (V : Int → Int) (zt : Int) (x0 : Int) (hx0 : zR x0) (hR : zRS 1 V zM0 zF0) (hI : zIV zt V) (hU : zId V) : zMx l yX11_sender cX11_sender 2 (some .int) 8 1 6 g (0, 398, zX) ad [.ref (ad 0), .int (zI x0)] zM0 zF0 (zPi (fun r M' F' => ((zpl x0 V ≠ -1) ∧ (V (96 + 47 * (zpl x0 V) + 1)) = r ∧ zM0 = M' ∧ zF0 = F'))) (fun E M' F' => (E = "java/util/NoSuchElementException" ∧ ¬ (zpl x0 V ≠ -1)) ∧ zM0 = M' ∧ zF0 = F') := by
  refine zMx.of "DrumWarren" rfl (by decide +kernel) (Nat.le_of_ble_eq_true rfl) (fun {p e s m args below meth c ls} C0 Wd hl hret hlk hin hst hno => ?_)
  have hl : lv_has ls 2 [(0, .ref (ad 0)), (1, .int (zI x0))] := hl
  have h0b := hI.1
  have h1b := hI.2.1
  have h2b := hI.2.2.1
  refine z_aload_n C0 hl 0 rfl dX11_sender_0 ?_
  refine z_iload_n C0 hl 1 rfl dX11_sender_1 ?_
  refine z_invVX (As := [.int (zI x0)]) (rest := []) C0 Wd hst hno hlk (ct_X11_existing l g zX ad zM0 zF0 V zt x0 hx0 hR hI (by omega)) kv_X11_existing (zrecvW C0 Wd zN0 (zE_8 zK0) rfl) zk_890 rfl hl.1 rfl (Nat.le_of_ble_eq_true rfl) (by decide) (by decide) (by decide) (by decide) (fun E M9 F9 h9 => by obtain ⟨q1, q2, rfl, rfl⟩ := h9; refine ⟨?_, rfl, rfl⟩; first | exact ⟨q1, (by first | assumption | omega)⟩) dX11_sender_2 (z_kkr (fun r1 zMr1 zFr1 H locs hp Wd => ?_))
  rcases hp with ⟨hr1_0_0, rfl, rfl, rfl⟩
  · skip
    have hpl : -1 ≤ zpl x0 V ∧ zpl x0 V < V 2 := by have := zlast_bd (P := fun q => V (96 + 47 * q + 0) = x0) (V 2).toNat; show -1 ≤ zlast _ _ ∧ zlast _ _ < V 2; omega
    have hm9 := hI.2.2.2.2.2.2.1 (zpl x0 V) (by omega) (by omega)
    refine zg_6_1 C0 Wd (znO (hR.mo (by omega) (by omega))) (zkO (hR.mo (by omega) (by omega))) zk_159 dX11_sender_5 ?_
    obtain ⟨he4, hz3⟩ : (zM0 (zF0 7 (zpl x0 V)) 1) = (V (96 + 47 * (zpl x0 V) + 1)) ∧ zR (V (96 + 47 * (zpl x0 V) + 1)) := (fun q => ⟨q, q ▸ Wd.rm _ _⟩) (hR.m1 (by omega) (by omega))
    refine z_top (congrArg zI he4) ?_
    clear he4
    exact z_xret (z_iret C0 Wd hret hlk hz3 (by first | exact ⟨(by first | assumption | omega), (by first | rfl | omega), (by first | rfl | (simp [zb, *]; done)), rfl⟩) dX11_sender_8) (by decide) (by decide)
theorem kv_X11_receiver : zKV yX11_receiver cX11_receiver 2 (some .int) "DrumWarren" 1 := ⟨zk_1298, zk_1296, zk_1297, zk_25, by decide, by decide, by decide +kernel⟩
set_option maxHeartbeats 4000000 in
set_option maxRecDepth 100000 in
theorem ct_X11_receiver (l : Launch) (g : zG) (zX : va_W) (ad : Int → Nat) (zM0 zF0 : zMem) (V : Int → Int) (zt : Int) (x0 : Int) (hx0 : zR x0) (hR : zRS 1 V zM0 zF0) (hI : zIV zt V) (hU : zId V) : zMx l yX11_receiver cX11_receiver 2 (some .int) 8 1 6 g (0, 398, zX) ad [.ref (ad 0), .int (zI x0)] zM0 zF0 (zPi (fun r M' F' => ((zpl x0 V ≠ -1) ∧ (V (96 + 47 * (zpl x0 V) + 2)) = r ∧ zM0 = M' ∧ zF0 = F'))) (fun E M' F' => (E = "java/util/NoSuchElementException" ∧ ¬ (zpl x0 V ≠ -1)) ∧ zM0 = M' ∧ zF0 = F') := by
  refine zMx.of "DrumWarren" rfl (by decide +kernel) (Nat.le_of_ble_eq_true rfl) (fun {p e s m args below meth c ls} C0 Wd hl hret hlk hin hst hno => ?_)
  have hl : lv_has ls 2 [(0, .ref (ad 0)), (1, .int (zI x0))] := hl
  have h0b := hI.1
  have h1b := hI.2.1
  have h2b := hI.2.2.1
  refine z_aload_n C0 hl 0 rfl dX11_receiver_0 ?_
  refine z_iload_n C0 hl 1 rfl dX11_receiver_1 ?_
  refine z_invVX (As := [.int (zI x0)]) (rest := []) C0 Wd hst hno hlk (ct_X11_existing l g zX ad zM0 zF0 V zt x0 hx0 hR hI (by omega)) kv_X11_existing (zrecvW C0 Wd zN0 (zE_8 zK0) rfl) zk_890 rfl hl.1 rfl (Nat.le_of_ble_eq_true rfl) (by decide) (by decide) (by decide) (by decide) (fun E M9 F9 h9 => by obtain ⟨q1, q2, rfl, rfl⟩ := h9; refine ⟨?_, rfl, rfl⟩; first | exact ⟨q1, (by first | assumption | omega)⟩) dX11_receiver_2 (z_kkr (fun r1 zMr1 zFr1 H locs hp Wd => ?_))
  rcases hp with ⟨hr1_0_0, rfl, rfl, rfl⟩
  · skip
    have hpl : -1 ≤ zpl x0 V ∧ zpl x0 V < V 2 := by have := zlast_bd (P := fun q => V (96 + 47 * q + 0) = x0) (V 2).toNat; show -1 ≤ zlast _ _ ∧ zlast _ _ < V 2; omega
    have hm9 := hI.2.2.2.2.2.2.1 (zpl x0 V) (by omega) (by omega)
    refine zg_6_2 C0 Wd (znO (hR.mo (by omega) (by omega))) (zkO (hR.mo (by omega) (by omega))) zk_162 dX11_receiver_5 ?_
    obtain ⟨he4, hz3⟩ : (zM0 (zF0 7 (zpl x0 V)) 2) = (V (96 + 47 * (zpl x0 V) + 2)) ∧ zR (V (96 + 47 * (zpl x0 V) + 2)) := (fun q => ⟨q, q ▸ Wd.rm _ _⟩) (hR.m2 (by omega) (by omega))
    refine z_top (congrArg zI he4) ?_
    clear he4
    exact z_xret (z_iret C0 Wd hret hlk hz3 (by first | exact ⟨(by first | assumption | omega), (by first | rfl | omega), (by first | rfl | (simp [zb, *]; done)), rfl⟩) dX11_receiver_8) (by decide) (by decide)
theorem kv_X11_state : zKV yX11_state cX11_state 2 (some .char) "DrumWarren" 1 := ⟨zk_889, zk_887, zk_888, zk_25, by decide, by decide, by decide +kernel⟩
set_option maxHeartbeats 4000000 in
set_option maxRecDepth 100000 in
theorem ct_X11_state (l : Launch) (g : zG) (zX : va_W) (ad : Int → Nat) (zM0 zF0 : zMem) (V : Int → Int) (zt : Int) (x0 : Int) (hx0 : zR x0) (hR : zRS 1 V zM0 zF0) (hI : zIV zt V) (hU : zId V) : zMx l yX11_state cX11_state 2 (some .char) 8 1 6 g (0, 398, zX) ad [.ref (ad 0), .int (zI x0)] zM0 zF0 (zPi (fun r M' F' => ((zpl x0 V ≠ -1) ∧ (V (96 + 47 * (zpl x0 V) + 4)) = r ∧ zM0 = M' ∧ zF0 = F'))) (fun E M' F' => (E = "java/util/NoSuchElementException" ∧ ¬ (zpl x0 V ≠ -1)) ∧ zM0 = M' ∧ zF0 = F') := by
  refine zMx.of "DrumWarren" rfl (by decide +kernel) (Nat.le_of_ble_eq_true rfl) (fun {p e s m args below meth c ls} C0 Wd hl hret hlk hin hst hno => ?_)
  have hl : lv_has ls 2 [(0, .ref (ad 0)), (1, .int (zI x0))] := hl
  have h0b := hI.1
  have h1b := hI.2.1
  have h2b := hI.2.2.1
  refine z_aload_n C0 hl 0 rfl dX11_state_0 ?_
  refine z_iload_n C0 hl 1 rfl dX11_state_1 ?_
  refine z_invVX (As := [.int (zI x0)]) (rest := []) C0 Wd hst hno hlk (ct_X11_existing l g zX ad zM0 zF0 V zt x0 hx0 hR hI (by omega)) kv_X11_existing (zrecvW C0 Wd zN0 (zE_8 zK0) rfl) zk_890 rfl hl.1 rfl (Nat.le_of_ble_eq_true rfl) (by decide) (by decide) (by decide) (by decide) (fun E M9 F9 h9 => by obtain ⟨q1, q2, rfl, rfl⟩ := h9; refine ⟨?_, rfl, rfl⟩; first | exact ⟨q1, (by first | assumption | omega)⟩) dX11_state_2 (z_kkr (fun r1 zMr1 zFr1 H locs hp Wd => ?_))
  rcases hp with ⟨hr1_0_0, rfl, rfl, rfl⟩
  · skip
    have hpl : -1 ≤ zpl x0 V ∧ zpl x0 V < V 2 := by have := zlast_bd (P := fun q => V (96 + 47 * q + 0) = x0) (V 2).toNat; show -1 ≤ zlast _ _ ∧ zlast _ _ < V 2; omega
    have hm9 := hI.2.2.2.2.2.2.1 (zpl x0 V) (by omega) (by omega)
    refine zg_6_4 C0 Wd (znO (hR.mo (by omega) (by omega))) (zkO (hR.mo (by omega) (by omega))) zk_168 dX11_state_5 ?_
    obtain ⟨he4, hz3⟩ : (zM0 (zF0 7 (zpl x0 V)) 4) = (V (96 + 47 * (zpl x0 V) + 4)) ∧ zR (V (96 + 47 * (zpl x0 V) + 4)) := (fun q => ⟨q, q ▸ Wd.rm _ _⟩) (hR.m4 (by omega) (by omega))
    refine z_top (congrArg zI he4) ?_
    clear he4
    exact z_xret (z_cret C0 Wd hret hlk (by omega) (by omega) (by first | exact ⟨(by first | assumption | omega), (by first | rfl | omega), (by first | rfl | (simp [zb, *]; done)), rfl⟩) dX11_state_8) (by decide) (by decide)
theorem kv_X11_timesLost : zKV yX11_timesLost cX11_timesLost 2 (some .int) "DrumWarren" 1 := ⟨zk_983, zk_981, zk_982, zk_25, by decide, by decide, by decide +kernel⟩
set_option maxHeartbeats 4000000 in
set_option maxRecDepth 100000 in
theorem ct_X11_timesLost (l : Launch) (g : zG) (zX : va_W) (ad : Int → Nat) (zM0 zF0 : zMem) (V : Int → Int) (zt : Int) (x0 : Int) (hx0 : zR x0) (hR : zRS 1 V zM0 zF0) (hI : zIV zt V) (hU : zId V) : zMx l yX11_timesLost cX11_timesLost 2 (some .int) 8 1 6 g (0, 398, zX) ad [.ref (ad 0), .int (zI x0)] zM0 zF0 (zPi (fun r M' F' => ((zpl x0 V ≠ -1) ∧ (V (96 + 47 * (zpl x0 V) + 5)) = r ∧ zM0 = M' ∧ zF0 = F'))) (fun E M' F' => (E = "java/util/NoSuchElementException" ∧ ¬ (zpl x0 V ≠ -1)) ∧ zM0 = M' ∧ zF0 = F') := by
  refine zMx.of "DrumWarren" rfl (by decide +kernel) (Nat.le_of_ble_eq_true rfl) (fun {p e s m args below meth c ls} C0 Wd hl hret hlk hin hst hno => ?_)
  have hl : lv_has ls 2 [(0, .ref (ad 0)), (1, .int (zI x0))] := hl
  have h0b := hI.1
  have h1b := hI.2.1
  have h2b := hI.2.2.1
  refine z_aload_n C0 hl 0 rfl dX11_timesLost_0 ?_
  refine z_iload_n C0 hl 1 rfl dX11_timesLost_1 ?_
  refine z_invVX (As := [.int (zI x0)]) (rest := []) C0 Wd hst hno hlk (ct_X11_existing l g zX ad zM0 zF0 V zt x0 hx0 hR hI (by omega)) kv_X11_existing (zrecvW C0 Wd zN0 (zE_8 zK0) rfl) zk_890 rfl hl.1 rfl (Nat.le_of_ble_eq_true rfl) (by decide) (by decide) (by decide) (by decide) (fun E M9 F9 h9 => by obtain ⟨q1, q2, rfl, rfl⟩ := h9; refine ⟨?_, rfl, rfl⟩; first | exact ⟨q1, (by first | assumption | omega)⟩) dX11_timesLost_2 (z_kkr (fun r1 zMr1 zFr1 H locs hp Wd => ?_))
  rcases hp with ⟨hr1_0_0, rfl, rfl, rfl⟩
  · skip
    have hpl : -1 ≤ zpl x0 V ∧ zpl x0 V < V 2 := by have := zlast_bd (P := fun q => V (96 + 47 * q + 0) = x0) (V 2).toNat; show -1 ≤ zlast _ _ ∧ zlast _ _ < V 2; omega
    have hm9 := hI.2.2.2.2.2.2.1 (zpl x0 V) (by omega) (by omega)
    refine zg_6_5 C0 Wd (znO (hR.mo (by omega) (by omega))) (zkO (hR.mo (by omega) (by omega))) zk_171 dX11_timesLost_5 ?_
    obtain ⟨he4, hz3⟩ : (zM0 (zF0 7 (zpl x0 V)) 5) = (V (96 + 47 * (zpl x0 V) + 5)) ∧ zR (V (96 + 47 * (zpl x0 V) + 5)) := (fun q => ⟨q, q ▸ Wd.rm _ _⟩) (hR.m5 (by omega) (by omega))
    refine z_top (congrArg zI he4) ?_
    clear he4
    exact z_xret (z_iret C0 Wd hret hlk hz3 (by first | exact ⟨(by first | assumption | omega), (by first | rfl | omega), (by first | rfl | (simp [zb, *]; done)), rfl⟩) dX11_timesLost_8) (by decide) (by decide)
theorem kv_X11_beatsDrummed : zKV yX11_beatsDrummed cX11_beatsDrummed 2 (some .int) "DrumWarren" 1 := ⟨zk_1355, zk_1353, zk_1354, zk_25, by decide, by decide, by decide +kernel⟩
set_option maxHeartbeats 4000000 in
set_option maxRecDepth 100000 in
theorem ct_X11_beatsDrummed (l : Launch) (g : zG) (zX : va_W) (ad : Int → Nat) (zM0 zF0 : zMem) (V : Int → Int) (zt : Int) (x0 : Int) (hx0 : zR x0) (hR : zRS 1 V zM0 zF0) (hI : zIV zt V) (hU : zId V) : zMx l yX11_beatsDrummed cX11_beatsDrummed 2 (some .int) 8 1 6 g (0, 398, zX) ad [.ref (ad 0), .int (zI x0)] zM0 zF0 (zPi (fun r M' F' => ((zpl x0 V ≠ -1) ∧ (V (96 + 47 * (zpl x0 V) + 6)) = r ∧ zM0 = M' ∧ zF0 = F'))) (fun E M' F' => (E = "java/util/NoSuchElementException" ∧ ¬ (zpl x0 V ≠ -1)) ∧ zM0 = M' ∧ zF0 = F') := by
  refine zMx.of "DrumWarren" rfl (by decide +kernel) (Nat.le_of_ble_eq_true rfl) (fun {p e s m args below meth c ls} C0 Wd hl hret hlk hin hst hno => ?_)
  have hl : lv_has ls 2 [(0, .ref (ad 0)), (1, .int (zI x0))] := hl
  have h0b := hI.1
  have h1b := hI.2.1
  have h2b := hI.2.2.1
  refine z_aload_n C0 hl 0 rfl dX11_beatsDrummed_0 ?_
  refine z_iload_n C0 hl 1 rfl dX11_beatsDrummed_1 ?_
  refine z_invVX (As := [.int (zI x0)]) (rest := []) C0 Wd hst hno hlk (ct_X11_existing l g zX ad zM0 zF0 V zt x0 hx0 hR hI (by omega)) kv_X11_existing (zrecvW C0 Wd zN0 (zE_8 zK0) rfl) zk_890 rfl hl.1 rfl (Nat.le_of_ble_eq_true rfl) (by decide) (by decide) (by decide) (by decide) (fun E M9 F9 h9 => by obtain ⟨q1, q2, rfl, rfl⟩ := h9; refine ⟨?_, rfl, rfl⟩; first | exact ⟨q1, (by first | assumption | omega)⟩) dX11_beatsDrummed_2 (z_kkr (fun r1 zMr1 zFr1 H locs hp Wd => ?_))
  rcases hp with ⟨hr1_0_0, rfl, rfl, rfl⟩
  · skip
    have hpl : -1 ≤ zpl x0 V ∧ zpl x0 V < V 2 := by have := zlast_bd (P := fun q => V (96 + 47 * q + 0) = x0) (V 2).toNat; show -1 ≤ zlast _ _ ∧ zlast _ _ < V 2; omega
    have hm9 := hI.2.2.2.2.2.2.1 (zpl x0 V) (by omega) (by omega)
    refine zg_6_6 C0 Wd (znO (hR.mo (by omega) (by omega))) (zkO (hR.mo (by omega) (by omega))) zk_174 dX11_beatsDrummed_5 ?_
    obtain ⟨he4, hz3⟩ : (zM0 (zF0 7 (zpl x0 V)) 6) = (V (96 + 47 * (zpl x0 V) + 6)) ∧ zR (V (96 + 47 * (zpl x0 V) + 6)) := (fun q => ⟨q, q ▸ Wd.rm _ _⟩) (hR.m6 (by omega) (by omega))
    refine z_top (congrArg zI he4) ?_
    clear he4
    exact z_xret (z_iret C0 Wd hret hlk hz3 (by first | exact ⟨(by first | assumption | omega), (by first | rfl | omega), (by first | rfl | (simp [zb, *]; done)), rfl⟩) dX11_beatsDrummed_8) (by decide) (by decide)
theorem kv_X11_isThump : zKV yX11_isThump cX11_isThump 3 (some .boolean) "DrumWarren" 2 := ⟨zk_1442, zk_1440, zk_1441, zk_25, by decide, by decide, by decide +kernel⟩
set_option maxHeartbeats 4000000 in
set_option maxRecDepth 100000 in
theorem ct_X11_isThump (l : Launch) (g : zG) (zX : va_W) (ad : Int → Nat) (zM0 zF0 : zMem) (x0 : Int) (hx0 : zR x0) (x1 : Int) (hx1 : zR x1) : zMx l yX11_isThump cX11_isThump 3 (some .boolean) 8 2 12 g (0, 398, zX) ad [.ref (ad 0), .int (zI x0), .int (zI x1)] zM0 zF0 (zPi (fun r M' F' => (((0 ≤ x0 ∧ x0 ≤ 15) ∧ (0 ≤ x1 ∧ x1 < 5)) ∧ zb (zcd x0 / 2 ^ (4 - x1).toNat % 2 = 1) = r ∧ zM0 = M' ∧ zF0 = F'))) (fun E M' F' => (E = "java/lang/IllegalArgumentException" ∧ ¬ (0 ≤ x0 ∧ x0 ≤ 15) ∨ E = "java/lang/IndexOutOfBoundsException" ∧ (0 ≤ x0 ∧ x0 ≤ 15) ∧ ¬ (0 ≤ x1 ∧ x1 < 5)) ∧ zM0 = M' ∧ zF0 = F') := by
  refine zMx.of "DrumWarren" rfl (by decide +kernel) (Nat.le_of_ble_eq_true rfl) (fun {p e s m args below meth c ls} C0 Wd hl hret hlk hin hst hno => ?_)
  have hl : lv_has ls 3 [(0, .ref (ad 0)), (1, .int (zI x0)), (2, .int (zI x1))] := hl
  refine z_iload_n C0 hl 1 rfl dX11_isThump_0 ?_
  refine z_invSX (As := [.int (zI x0)]) (rest := []) C0 Wd hst hno hlk (ct_X11_checkNumber l g zX ad zM0 zF0 x0 hx0) kv_X11_checkNumber zk_1443 rfl hl.1 rfl (Nat.le_of_ble_eq_true rfl) (by decide) (by decide) (by decide) (by decide) (fun E M9 F9 h9 => by obtain ⟨q1, q2, rfl, rfl⟩ := h9; refine ⟨?_, rfl, rfl⟩; first | exact (Or.inl ⟨q1, (by first | assumption | omega)⟩) | exact (Or.inr ⟨q1, (by first | assumption | omega)⟩)) dX11_isThump_1 (z_kkv (fun zMr1 zFr1 H locs hp Wd => ?_))
  rcases hp with ⟨hr1_0_0, rfl, rfl⟩
  · skip
    refine z_iload_n C0 hl 2 rfl dX11_isThump_4 ?_
    refine z_if_lt C0 (tgt := 13) hx1 dX11_isThump_5 (by decide) (fun c3 => ?_) (fun c3 => ?_)
    · skip
      exact z_throwE (k := 2) C0 Wd hst hl.1 zTh_I (zc_r C0 (q := ("DrumWarren", 207, "a beat is from 0 to 4", 204)) (List.mem_of_getElem? (i := 16) rfl)) hno hlk dX11_isThump_13 dX11_isThump_16 (Or.inl ⟨rfl, dX11_isThump_17⟩) dX11_isThump_19 dX11_isThump_22 (by decide) (by decide) (by decide) (by decide) (by refine ⟨?_, rfl, rfl⟩; first | exact (Or.inl ⟨rfl, (by first | assumption | omega)⟩) | exact (Or.inr ⟨rfl, (by first | assumption | omega)⟩))
    · skip
      refine z_iload_n C0 hl 2 rfl dX11_isThump_8 ?_
      refine z_iconst C0 dX11_isThump_9 ?_
      refine z_icmp_lt C0 (tgt := 23) hx1 (zR_mk (by decide) (by decide)) dX11_isThump_10 (by decide) (fun c4 => ?_) (fun c4 => ?_)
      · skip
        refine z_iload_n C0 hl 1 rfl dX11_isThump_23 ?_
        refine z_invSi (As := [.int (zI x0)]) (rest := []) C0 Wd (ct_X11_codeOf l g zX ad zM0 zF0 x0 hx0 (by omega)) kv_X11_codeOf zk_1424 rfl hl.1 rfl (Nat.le_of_ble_eq_true rfl) (by decide) (by decide) dX11_isThump_24 (fun r5 zMr5 zFr5 H locs hrr5 hp Wd => ?_)
        obtain ⟨rfl, rfl, rfl⟩ := hp
        have hcd := zcd_bd (x := x0) (by omega) (by omega)
        refine z_iload_n C0 hl 2 rfl dX11_isThump_27 ?_
        refine z_invSi (As := [.int (zI (zcd x0)), .int (zI x1)]) (rest := []) C0 Wd (ct_X11_isOne l g zX ad zM0 zF0 (zcd x0) hrr5 x1 hx1 (by omega) (by omega)) kv_X11_isOne zk_1449 rfl hl.1 rfl (Nat.le_of_ble_eq_true rfl) (by decide) (by decide) dX11_isThump_28 (fun r7 zMr7 zFr7 H locs hrr7 hp Wd => ?_)
        obtain ⟨rfl, rfl, rfl⟩ := hp
        exact z_xret (z_zret C0 Wd hret hlk (zb_01 _) (by first | exact ⟨(by first | assumption | omega), (by first | rfl | omega), (by first | rfl | (simp [zb, *]; done)), rfl⟩) dX11_isThump_31) (by decide) (by decide)
      · skip
        exact z_throwE (k := 2) C0 Wd hst hl.1 zTh_I (zc_r C0 (q := ("DrumWarren", 207, "a beat is from 0 to 4", 204)) (List.mem_of_getElem? (i := 16) rfl)) hno hlk dX11_isThump_13 dX11_isThump_16 (Or.inl ⟨rfl, dX11_isThump_17⟩) dX11_isThump_19 dX11_isThump_22 (by decide) (by decide) (by decide) (by decide) (by refine ⟨?_, rfl, rfl⟩; first | exact (Or.inl ⟨rfl, (by first | assumption | omega)⟩) | exact (Or.inr ⟨rfl, (by first | assumption | omega)⟩))
theorem kv_X11_decode : zKV yX11_decode cX11_decode 3 (some .int) "DrumWarren" 1 := ⟨zk_1458, zk_1456, zk_1457, zk_25, by decide, by decide, by decide +kernel⟩
set_option maxHeartbeats 4000000 in
set_option maxRecDepth 100000 in
theorem ct_X11_decode (l : Launch) (g : zG) (zX : va_W) (ad : Int → Nat) (zM0 zF0 : zMem) (x0 : Int) (hx0 : zR x0) : zMx l yX11_decode cX11_decode 3 (some .int) 8 1 6 g (0, 398, zX) ad [.ref (ad 0), .int (zI x0)] zM0 zF0 (zPi (fun r M' F' => (((0 ≤ x0 ∧ x0 ≤ 31) ∧ zpc x0 % 2 = 0) ∧ (x0 / 2) = r ∧ zM0 = M' ∧ zF0 = F'))) (fun E M' F' => (E = "java/lang/IllegalArgumentException" ∧ ¬ (0 ≤ x0 ∧ x0 ≤ 31) ∨ E = "java/util/NoSuchElementException" ∧ (0 ≤ x0 ∧ x0 ≤ 31) ∧ ¬ zpc x0 % 2 = 0) ∧ zM0 = M' ∧ zF0 = F') := by
  refine zMx.of "DrumWarren" rfl (by decide +kernel) (Nat.le_of_ble_eq_true rfl) (fun {p e s m args below meth c ls} C0 Wd hl hret hlk hin hst hno => ?_)
  have hl : lv_has ls 3 [(0, .ref (ad 0)), (1, .int (zI x0))] := hl
  refine z_iload_n C0 hl 1 rfl dX11_decode_0 ?_
  refine z_if_lt C0 (tgt := 10) hx0 dX11_decode_1 (by decide) (fun c1 => ?_) (fun c1 => ?_)
  · skip
    exact z_throwE (k := 2) C0 Wd hst hl.1 zTh_A (zc_r C0 (q := ("DrumWarren", 218, "a code is from 0 to 31", 205)) (List.mem_of_getElem? (i := 17) rfl)) hno hlk dX11_decode_10 dX11_decode_13 (Or.inl ⟨rfl, dX11_decode_14⟩) dX11_decode_16 dX11_decode_19 (by decide) (by decide) (by decide) (by decide) (by refine ⟨?_, rfl, rfl⟩; first | exact (Or.inl ⟨rfl, (by first | assumption | omega)⟩) | exact (Or.inr ⟨rfl, (by first | assumption | omega)⟩))
  · skip
    refine z_iload_n C0 hl 1 rfl dX11_decode_4 ?_
    refine z_bipush C0 dX11_decode_5 (by decide) ?_
    refine z_icmp_le C0 (tgt := 20) hx0 (zR_mk (by decide) (by decide)) dX11_decode_7 (by decide) (fun c2 => ?_) (fun c2 => ?_)
    · skip
      refine z_iload_n C0 hl 1 rfl dX11_decode_20 ?_
      refine z_invSi (As := [.int (zI x0)]) (rest := []) C0 Wd (ct_X11_numberOf l g zX ad zM0 zF0 x0 hx0 (by omega)) kv_X11_numberOf zk_1425 rfl hl.1 rfl (Nat.le_of_ble_eq_true rfl) (by decide) (by decide) dX11_decode_21 (fun r3 zMr3 zFr3 H locs hrr3 hp Wd => ?_)
      rcases hp with ⟨hr3_0_0, rfl, rfl, rfl⟩ | ⟨hr3_1_0, rfl, rfl, rfl⟩
      · skip
        refine z_istore_n C0 hl [(2, .int (zI (x0 / 2))), (0, .ref (ad 0)), (1, .int (zI x0))] (by decide) rfl dX11_decode_24 (fun ls hl => ?_)
        refine z_iload_n C0 hl 0 rfl dX11_decode_25 ?_
        refine z_iconst C0 dX11_decode_26 ?_
        refine z_icmp_ne C0 (tgt := 40) hrr3 (zR_mk (by decide) (by decide)) dX11_decode_27 (by decide) (fun c5 => ?_) (fun c5 => ?_)
        · skip
          refine z_iload_n C0 hl 0 rfl dX11_decode_40 ?_
          exact z_xret (z_iret C0 Wd hret hlk hrr3 (by first | exact ⟨(by first | assumption | omega), (by first | rfl | omega), (by first | rfl | (simp [zb, *]; done)), rfl⟩) dX11_decode_41) (by decide) (by decide)
        · skip
          exact z_throwE (k := 2) C0 Wd hst hl.1 zTh_N (zc_r C0 (q := ("DrumWarren", 224, "the number of beats that are 1 is odd", 206)) (List.mem_of_getElem? (i := 18) rfl)) hno hlk dX11_decode_30 dX11_decode_33 (Or.inl ⟨rfl, dX11_decode_34⟩) dX11_decode_36 dX11_decode_39 (by decide) (by decide) (by decide) (by decide) (by refine ⟨?_, rfl, rfl⟩; first | exact (Or.inl ⟨rfl, (by first | assumption | omega)⟩) | exact (Or.inr ⟨rfl, (by first | assumption | omega)⟩))
      · skip
        refine z_istore_n C0 hl [(2, .int (zI (-1))), (0, .ref (ad 0)), (1, .int (zI x0))] (by decide) rfl dX11_decode_24 (fun ls hl => ?_)
        refine z_iload_n C0 hl 0 rfl dX11_decode_25 ?_
        refine z_iconst C0 dX11_decode_26 ?_
        refine z_icmp_ne C0 (tgt := 40) (zR_mk (by decide) (by decide)) (zR_mk (by decide) (by decide)) dX11_decode_27 (by decide) (fun h => absurd h (by decide)) (fun _ => ?_)
        exact z_throwE (k := 2) C0 Wd hst hl.1 zTh_N (zc_r C0 (q := ("DrumWarren", 224, "the number of beats that are 1 is odd", 206)) (List.mem_of_getElem? (i := 18) rfl)) hno hlk dX11_decode_30 dX11_decode_33 (Or.inl ⟨rfl, dX11_decode_34⟩) dX11_decode_36 dX11_decode_39 (by decide) (by decide) (by decide) (by decide) (by refine ⟨?_, rfl, rfl⟩; first | exact (Or.inl ⟨rfl, (by first | assumption | omega)⟩) | exact (Or.inr ⟨rfl, (by first | assumption | omega)⟩))
    · skip
      exact z_throwE (k := 2) C0 Wd hst hl.1 zTh_A (zc_r C0 (q := ("DrumWarren", 218, "a code is from 0 to 31", 205)) (List.mem_of_getElem? (i := 17) rfl)) hno hlk dX11_decode_10 dX11_decode_13 (Or.inl ⟨rfl, dX11_decode_14⟩) dX11_decode_16 dX11_decode_19 (by decide) (by decide) (by decide) (by decide) (by refine ⟨?_, rfl, rfl⟩; first | exact (Or.inl ⟨rfl, (by first | assumption | omega)⟩) | exact (Or.inr ⟨rfl, (by first | assumption | omega)⟩))
