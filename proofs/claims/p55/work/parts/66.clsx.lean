/-! the class: changes -/
theorem kv_X11_removeTunnel : zKV yX11_removeTunnel cX11_removeTunnel 4 (some .int) "DrumWarren" 2 := ⟨zk_1502, zk_1500, zk_1501, zk_25, by decide, by decide, by decide +kernel⟩
set_option maxHeartbeats 4000000 in
set_option maxRecDepth 100000 in
theorem ct_X11_removeTunnel (l : Launch) (g : zG) (zX : va_W) (ad : Int → Nat) (zM0 zF0 : zMem) (V : Int → Int) (zt : Int) (zw : Int) (many : Int) (U : Int → Int → Int) (x0 : Int) (hx0 : zR x0) (x1 : Int) (hx1 : zR x1) (hR : zRS 1 V zM0 zF0) (hG : zGd zt V) (hH : zHi zt many U zM0 zF0) (hN : zTn V) (hW : zIV zw ((zdRT x0 x1 V).2.2)) : zMx l yX11_removeTunnel cX11_removeTunnel 4 (some .int) 8 1 6 g (0, 398, zX) ad [.ref (ad 0), .int (zI x0), .int (zI x1)] zM0 zF0 (zPi (fun r M' F' => zFt [1, 2] (zdRT x0 x1 V).1 0 ∧ (if zisC V x0 ∧ zisC V x1 then V (8 + 8 * x0 + x1) else 0) = r ∧ zRS 1 ((zdRT x0 x1 V).2.2) M' F' ∧ zHi zt (zm8 many) (fun k => if k = 0 then V else U (k - 1)) M' F' ∧ zFr zM0 zF0 M' F')) (fun E M' F' => ∃ f, E = zFx f ∧ 0 < f ∧ zFt [1, 2] (zdRT x0 x1 V).1 f ∧ zRS 1 ((zdRT x0 x1 V).2.2) M' F' ∧ zHi zt many U M' F' ∧ zFr zM0 zF0 M' F') := by
  refine zMx.of "DrumWarren" rfl (by decide +kernel) (Nat.le_of_ble_eq_true rfl) (fun {p e s m args below meth c ls} C0 Wd hl hret hlk hin hst hno => ?_)
  have hl : lv_has ls 4 [(0, .ref (ad 0)), (1, .int (zI x0)), (2, .int (zI x1))] := hl
  have hI := hG.1
  have h0b := hI.1
  have h1b := hI.2.1
  have h2b := hI.2.2.1
  have hn9 := hH.2.1
  have w0b := hW.1
  have w1b := hW.2.1
  have w2b := hW.2.2.1
  refine z_aload_n C0 hl 0 rfl dX11_removeTunnel_0 ?_
  refine zg_8_3 C0 Wd zN0 zK0 zk_346 dX11_removeTunnel_1 ?_
  refine z_aload_n C0 hl 0 rfl dX11_removeTunnel_4 ?_
  refine zg_8_0 C0 Wd zN0 zK0 zk_343 dX11_removeTunnel_5 ?_
  refine z_invVv (As := [.ref (ad 1)]) (rest := []) C0 Wd (ct_X8_prepare l g zX ad zM0 zF0 1 zB_1 V zt hR hG.1 hH.2.1 (hH.2.2.2.2 _ (by omega) (by omega)) (by omega)) kv_X8_prepare zN94 (zE_5 zK94) rfl zk_382 rfl hl.1 rfl (Nat.le_of_ble_eq_true rfl) (by decide) (by decide) dX11_removeTunnel_8 (fun zMr1 zFr1 H locs hp Wd => ?_)
  rcases hp with ⟨M1_r1, hr1_0_0, hr1_0_1, rfl, rfl⟩
  · skip
    obtain ⟨hRa, hHa, hPa, hFa⟩ := zFc_1 hR hG hH hr1_0_0 hr1_0_1
    refine z_aload_n C0 hl 0 rfl dX11_removeTunnel_11 ?_
    refine zg_8_0 C0 Wd zN0 zK0 zk_343 dX11_removeTunnel_12 ?_
    refine zg_7_0 C0 Wd zN1 zK1 zk_194 dX11_removeTunnel_15 ?_
    refine z_rf (show (1 + 1) = 2 by decide) ?_
    refine z_iload_n C0 hl 1 rfl dX11_removeTunnel_18 ?_
    refine z_iload_n C0 hl 2 rfl dX11_removeTunnel_19 ?_
    refine z_invVi (As := [.int (zI x0), .int (zI x1)]) (rest := []) C0 Wd (ct_X2_delayOfTunnel l g zX ad M1_r1 zF0 1 zB_1 V x0 hx0 x1 hx1 hRa.B (by omega)) kv_X2_delayOfTunnel zN2 (zE_1 zK2) rfl zk_791 rfl hl.1 rfl (Nat.le_of_ble_eq_true rfl) (by decide) (by decide) dX11_removeTunnel_20 (fun r3 zMr3 zFr3 H locs hrr3 hp Wd => ?_)
    rcases hp with ⟨hr3_0_0, rfl, rfl, rfl⟩ | ⟨hr3_1_0, rfl, rfl, rfl⟩
    · skip
      refine z_istore_n C0 hl [(3, .int (zI (V (8 + 8 * x0 + x1)))), (0, .ref (ad 0)), (1, .int (zI x0)), (2, .int (zI x1))] (by decide) rfl dX11_removeTunnel_23 (fun ls hl => ?_)
      refine z_aload_n C0 hl 1 rfl dX11_removeTunnel_24 ?_
      refine zg_8_0 C0 Wd zN0 zK0 zk_343 dX11_removeTunnel_25 ?_
      refine zg_7_0 C0 Wd zN1 zK1 zk_194 dX11_removeTunnel_28 ?_
      refine z_rf (show (1 + 1) = 2 by decide) ?_
      refine z_iload_n C0 hl 2 rfl dX11_removeTunnel_31 ?_
      refine z_iload_n C0 hl 3 rfl dX11_removeTunnel_32 ?_
      refine z_invVe (As := [.int (zI x0), .int (zI x1)]) (rest := []) C0 Wd (ct_X2_fillTunnel l g zX ad M1_r1 zF0 1 zB_1 V zt x0 hx0 x1 hx1 hRa hI hN) kv_X2_fillTunnel zN2 (zE_1 zK2) rfl zk_1503 rfl hl.1 rfl (Nat.le_of_ble_eq_true rfl) (by decide) (by decide) dX11_removeTunnel_33 (fun r5 zMr5 zFr5 H locs hp Wd => ?_)
      obtain ⟨hftr5, hrsr5, hotr5⟩ := hp
      obtain ⟨hHb, hPb, hFb⟩ := zFc_2 hG hHa hPa hFa hotr5
      have hfb := zFt_bd (by decide) hftr5
      refine z_invSX (As := [.ref (g.2.2.2 r5)]) (rest := []) C0 Wd hst hno hlk (ct_X11_refuse l g zX ad zMr5 zFr5 r5 hfb.1 hfb.2) kv_X11_refuse zk_419 rfl hl.1 rfl (Nat.le_of_ble_eq_true rfl) (by decide) (by decide) (by decide) (by decide) (fun E M9 F9 h9 => by obtain ⟨q1, q2, rfl, rfl⟩ := h9; exact ⟨_, q1, q2, hftr5, hrsr5, hHb, hFb⟩) dX11_removeTunnel_36 (z_kkv (fun zMr7 zFr7 H locs hp Wd => ?_))
      rcases hp with ⟨hr7_0_0, rfl, rfl⟩
      · skip
        refine z_aload_n C0 hl 1 rfl dX11_removeTunnel_39 ?_
        refine zg_8_3 C0 Wd zN0 zK0 zk_346 dX11_removeTunnel_40 ?_
        refine z_invVv (As := []) (rest := []) C0 Wd (ct_X8_keep l g zX ad zMr5 zFr5 hHb.2.1 (by rw [hHb.1]; exact hHb.2.2.1)) kv_X8_keep zN94 (zE_5 zK94) rfl zk_550 rfl hl.1 rfl (Nat.le_of_ble_eq_true rfl) (by decide) (by decide) dX11_removeTunnel_43 (fun zMr9 zFr9 H locs hp Wd => ?_)
        obtain ⟨rfl, rfl⟩ := hp
        refine z_iload_n C0 hl 0 rfl dX11_removeTunnel_46 ?_
        exact z_xret (z_iret C0 Wd hret hlk hrr3 (by have q := hftr5; rw [hr7_0_0] at q; obtain ⟨k1, k2, k3⟩ := zFc_3 hG hW hrsr5 hHb hPb hFb; exact ⟨q, by first | rfl | (rw [if_pos (by assumption)]; done) | (rw [if_neg (by assumption)]; done), k1, k2, k3⟩) dX11_removeTunnel_47) (by decide) (by decide)
    · skip
      refine z_istore_n C0 hl [(3, .int (zI 0)), (0, .ref (ad 0)), (1, .int (zI x0)), (2, .int (zI x1))] (by decide) rfl dX11_removeTunnel_23 (fun ls hl => ?_)
      refine z_aload_n C0 hl 1 rfl dX11_removeTunnel_24 ?_
      refine zg_8_0 C0 Wd zN0 zK0 zk_343 dX11_removeTunnel_25 ?_
      refine zg_7_0 C0 Wd zN1 zK1 zk_194 dX11_removeTunnel_28 ?_
      refine z_rf (show (1 + 1) = 2 by decide) ?_
      refine z_iload_n C0 hl 2 rfl dX11_removeTunnel_31 ?_
      refine z_iload_n C0 hl 3 rfl dX11_removeTunnel_32 ?_
      refine z_invVe (As := [.int (zI x0), .int (zI x1)]) (rest := []) C0 Wd (ct_X2_fillTunnel l g zX ad M1_r1 zF0 1 zB_1 V zt x0 hx0 x1 hx1 hRa hI hN) kv_X2_fillTunnel zN2 (zE_1 zK2) rfl zk_1503 rfl hl.1 rfl (Nat.le_of_ble_eq_true rfl) (by decide) (by decide) dX11_removeTunnel_33 (fun r11 zMr11 zFr11 H locs hp Wd => ?_)
      obtain ⟨hftr11, hrsr11, hotr11⟩ := hp
      obtain ⟨hHb, hPb, hFb⟩ := zFc_2 hG hHa hPa hFa hotr11
      have hfb := zFt_bd (by decide) hftr11
      refine z_invSX (As := [.ref (g.2.2.2 r11)]) (rest := []) C0 Wd hst hno hlk (ct_X11_refuse l g zX ad zMr11 zFr11 r11 hfb.1 hfb.2) kv_X11_refuse zk_419 rfl hl.1 rfl (Nat.le_of_ble_eq_true rfl) (by decide) (by decide) (by decide) (by decide) (fun E M9 F9 h9 => by obtain ⟨q1, q2, rfl, rfl⟩ := h9; exact ⟨_, q1, q2, hftr11, hrsr11, hHb, hFb⟩) dX11_removeTunnel_36 (z_kkv (fun zMr13 zFr13 H locs hp Wd => ?_))
      rcases hp with ⟨hr13_0_0, rfl, rfl⟩
      · skip
        refine z_aload_n C0 hl 1 rfl dX11_removeTunnel_39 ?_
        refine zg_8_3 C0 Wd zN0 zK0 zk_346 dX11_removeTunnel_40 ?_
        refine z_invVv (As := []) (rest := []) C0 Wd (ct_X8_keep l g zX ad zMr11 zFr11 hHb.2.1 (by rw [hHb.1]; exact hHb.2.2.1)) kv_X8_keep zN94 (zE_5 zK94) rfl zk_550 rfl hl.1 rfl (Nat.le_of_ble_eq_true rfl) (by decide) (by decide) dX11_removeTunnel_43 (fun zMr15 zFr15 H locs hp Wd => ?_)
        obtain ⟨rfl, rfl⟩ := hp
        refine z_iload_n C0 hl 0 rfl dX11_removeTunnel_46 ?_
        exact z_xret (z_iret C0 Wd hret hlk (zR_mk (by decide) (by decide)) (by have q := hftr11; rw [hr13_0_0] at q; obtain ⟨k1, k2, k3⟩ := zFc_3 hG hW hrsr11 hHb hPb hFb; exact ⟨q, by first | rfl | (rw [if_pos (by assumption)]; done) | (rw [if_neg (by assumption)]; done), k1, k2, k3⟩) dX11_removeTunnel_47) (by decide) (by decide)
theorem kv_X11_move : zKV yX11_move cX11_move 4 (some .int) "DrumWarren" 2 := ⟨zk_661, zk_659, zk_660, zk_25, by decide, by decide, by decide +kernel⟩
set_option maxHeartbeats 4000000 in
set_option maxRecDepth 100000 in
theorem ct_X11_move (l : Launch) (g : zG) (zX : va_W) (ad : Int → Nat) (zM0 zF0 : zMem) (V : Int → Int) (zt : Int) (zw : Int) (many : Int) (U : Int → Int → Int) (x0 : Int) (hx0 : zR x0) (x1 : Int) (hx1 : zR x1) (hR : zRS 1 V zM0 zF0) (hG : zGd zt V) (hH : zHi zt many U zM0 zF0) (hW : zIV zw ((zdMv x0 x1 V).2.2)) : zMx l yX11_move cX11_move 4 (some .int) 8 1 6 g (0, 398, zX) ad [.ref (ad 0), .int (zI x0), .int (zI x1)] zM0 zF0 (zPi (fun r M' F' => zFt [1, 4] (zdMv x0 x1 V).1 0 ∧ (if zisH V x0 then V (72 + 4 * x0 + 0) else -1) = r ∧ zRS 1 ((zdMv x0 x1 V).2.2) M' F' ∧ zHi zt (zm8 many) (fun k => if k = 0 then V else U (k - 1)) M' F' ∧ zFr zM0 zF0 M' F')) (fun E M' F' => ∃ f, E = zFx f ∧ 0 < f ∧ zFt [1, 4] (zdMv x0 x1 V).1 f ∧ zRS 1 ((zdMv x0 x1 V).2.2) M' F' ∧ zHi zt many U M' F' ∧ zFr zM0 zF0 M' F') := by
  refine zMx.of "DrumWarren" rfl (by decide +kernel) (Nat.le_of_ble_eq_true rfl) (fun {p e s m args below meth c ls} C0 Wd hl hret hlk hin hst hno => ?_)
  have hl : lv_has ls 4 [(0, .ref (ad 0)), (1, .int (zI x0)), (2, .int (zI x1))] := hl
  have hI := hG.1
  have h0b := hI.1
  have h1b := hI.2.1
  have h2b := hI.2.2.1
  have hn9 := hH.2.1
  have w0b := hW.1
  have w1b := hW.2.1
  have w2b := hW.2.2.1
  refine z_aload_n C0 hl 0 rfl dX11_move_0 ?_
  refine zg_8_3 C0 Wd zN0 zK0 zk_346 dX11_move_1 ?_
  refine z_aload_n C0 hl 0 rfl dX11_move_4 ?_
  refine zg_8_0 C0 Wd zN0 zK0 zk_343 dX11_move_5 ?_
  refine z_invVv (As := [.ref (ad 1)]) (rest := []) C0 Wd (ct_X8_prepare l g zX ad zM0 zF0 1 zB_1 V zt hR hG.1 hH.2.1 (hH.2.2.2.2 _ (by omega) (by omega)) (by omega)) kv_X8_prepare zN94 (zE_5 zK94) rfl zk_382 rfl hl.1 rfl (Nat.le_of_ble_eq_true rfl) (by decide) (by decide) dX11_move_8 (fun zMr1 zFr1 H locs hp Wd => ?_)
  rcases hp with ⟨M1_r1, hr1_0_0, hr1_0_1, rfl, rfl⟩
  · skip
    obtain ⟨hRa, hHa, hPa, hFa⟩ := zFc_1 hR hG hH hr1_0_0 hr1_0_1
    refine z_aload_n C0 hl 0 rfl dX11_move_11 ?_
    refine zg_8_0 C0 Wd zN0 zK0 zk_343 dX11_move_12 ?_
    refine z_iload_n C0 hl 1 rfl dX11_move_15 ?_
    refine z_invVi (As := [.int (zI x0)]) (rest := []) C0 Wd (ct_X10_placeOf l g zX ad M1_r1 zF0 1 zB_1 V zt x0 hx0 hRa hI) kv_X10_placeOf zN1 (zE_7 zK1) rfl zk_662 rfl hl.1 rfl (Nat.le_of_ble_eq_true rfl) (by decide) (by decide) dX11_move_16 (fun r3 zMr3 zFr3 H locs hrr3 hp Wd => ?_)
    rcases hp with ⟨hr3_0_0, rfl, rfl, rfl⟩ | ⟨hr3_1_0, rfl, rfl, rfl⟩
    · skip
      refine z_istore_n C0 hl [(3, .int (zI (V (72 + 4 * x0 + 0)))), (0, .ref (ad 0)), (1, .int (zI x0)), (2, .int (zI x1))] (by decide) rfl dX11_move_19 (fun ls hl => ?_)
      refine z_aload_n C0 hl 1 rfl dX11_move_20 ?_
      refine zg_8_0 C0 Wd zN0 zK0 zk_343 dX11_move_21 ?_
      refine z_iload_n C0 hl 2 rfl dX11_move_24 ?_
      refine z_iload_n C0 hl 3 rfl dX11_move_25 ?_
      refine z_invVe (As := [.int (zI x0), .int (zI x1)]) (rest := []) C0 Wd (ct_X10_go l g zX ad M1_r1 zF0 1 zB_1 V zt x0 hx0 x1 hx1 hRa hI) kv_X10_go zN1 (zE_7 zK1) rfl zk_666 rfl hl.1 rfl (Nat.le_of_ble_eq_true rfl) (by decide) (by decide) dX11_move_26 (fun r5 zMr5 zFr5 H locs hp Wd => ?_)
      obtain ⟨hftr5, hrsr5, hotr5⟩ := hp
      obtain ⟨hHb, hPb, hFb⟩ := zFc_2 hG hHa hPa hFa hotr5
      have hfb := zFt_bd (by decide) hftr5
      refine z_invSX (As := [.ref (g.2.2.2 r5)]) (rest := []) C0 Wd hst hno hlk (ct_X11_refuse l g zX ad zMr5 zFr5 r5 hfb.1 hfb.2) kv_X11_refuse zk_419 rfl hl.1 rfl (Nat.le_of_ble_eq_true rfl) (by decide) (by decide) (by decide) (by decide) (fun E M9 F9 h9 => by obtain ⟨q1, q2, rfl, rfl⟩ := h9; exact ⟨_, q1, q2, hftr5, hrsr5, hHb, hFb⟩) dX11_move_29 (z_kkv (fun zMr7 zFr7 H locs hp Wd => ?_))
      rcases hp with ⟨hr7_0_0, rfl, rfl⟩
      · skip
        refine z_aload_n C0 hl 1 rfl dX11_move_32 ?_
        refine zg_8_3 C0 Wd zN0 zK0 zk_346 dX11_move_33 ?_
        refine z_invVv (As := []) (rest := []) C0 Wd (ct_X8_keep l g zX ad zMr5 zFr5 hHb.2.1 (by rw [hHb.1]; exact hHb.2.2.1)) kv_X8_keep zN94 (zE_5 zK94) rfl zk_550 rfl hl.1 rfl (Nat.le_of_ble_eq_true rfl) (by decide) (by decide) dX11_move_36 (fun zMr9 zFr9 H locs hp Wd => ?_)
        obtain ⟨rfl, rfl⟩ := hp
        refine z_iload_n C0 hl 0 rfl dX11_move_39 ?_
        exact z_xret (z_iret C0 Wd hret hlk hrr3 (by have q := hftr5; rw [hr7_0_0] at q; obtain ⟨k1, k2, k3⟩ := zFc_3 hG hW hrsr5 hHb hPb hFb; exact ⟨q, by first | rfl | (rw [if_pos (by assumption)]; done) | (rw [if_neg (by assumption)]; done), k1, k2, k3⟩) dX11_move_40) (by decide) (by decide)
    · skip
      refine z_istore_n C0 hl [(3, .int (zI (-1))), (0, .ref (ad 0)), (1, .int (zI x0)), (2, .int (zI x1))] (by decide) rfl dX11_move_19 (fun ls hl => ?_)
      refine z_aload_n C0 hl 1 rfl dX11_move_20 ?_
      refine zg_8_0 C0 Wd zN0 zK0 zk_343 dX11_move_21 ?_
      refine z_iload_n C0 hl 2 rfl dX11_move_24 ?_
      refine z_iload_n C0 hl 3 rfl dX11_move_25 ?_
      refine z_invVe (As := [.int (zI x0), .int (zI x1)]) (rest := []) C0 Wd (ct_X10_go l g zX ad M1_r1 zF0 1 zB_1 V zt x0 hx0 x1 hx1 hRa hI) kv_X10_go zN1 (zE_7 zK1) rfl zk_666 rfl hl.1 rfl (Nat.le_of_ble_eq_true rfl) (by decide) (by decide) dX11_move_26 (fun r11 zMr11 zFr11 H locs hp Wd => ?_)
      obtain ⟨hftr11, hrsr11, hotr11⟩ := hp
      obtain ⟨hHb, hPb, hFb⟩ := zFc_2 hG hHa hPa hFa hotr11
      have hfb := zFt_bd (by decide) hftr11
      refine z_invSX (As := [.ref (g.2.2.2 r11)]) (rest := []) C0 Wd hst hno hlk (ct_X11_refuse l g zX ad zMr11 zFr11 r11 hfb.1 hfb.2) kv_X11_refuse zk_419 rfl hl.1 rfl (Nat.le_of_ble_eq_true rfl) (by decide) (by decide) (by decide) (by decide) (fun E M9 F9 h9 => by obtain ⟨q1, q2, rfl, rfl⟩ := h9; exact ⟨_, q1, q2, hftr11, hrsr11, hHb, hFb⟩) dX11_move_29 (z_kkv (fun zMr13 zFr13 H locs hp Wd => ?_))
      rcases hp with ⟨hr13_0_0, rfl, rfl⟩
      · skip
        refine z_aload_n C0 hl 1 rfl dX11_move_32 ?_
        refine zg_8_3 C0 Wd zN0 zK0 zk_346 dX11_move_33 ?_
        refine z_invVv (As := []) (rest := []) C0 Wd (ct_X8_keep l g zX ad zMr11 zFr11 hHb.2.1 (by rw [hHb.1]; exact hHb.2.2.1)) kv_X8_keep zN94 (zE_5 zK94) rfl zk_550 rfl hl.1 rfl (Nat.le_of_ble_eq_true rfl) (by decide) (by decide) dX11_move_36 (fun zMr15 zFr15 H locs hp Wd => ?_)
        obtain ⟨rfl, rfl⟩ := hp
        refine z_iload_n C0 hl 0 rfl dX11_move_39 ?_
        exact z_xret (z_iret C0 Wd hret hlk (zR_mk (by decide) (by decide)) (by have q := hftr11; rw [hr13_0_0] at q; obtain ⟨k1, k2, k3⟩ := zFc_3 hG hW hrsr11 hHb hPb hFb; exact ⟨q, by first | rfl | (rw [if_pos (by assumption)]; done) | (rw [if_neg (by assumption)]; done), k1, k2, k3⟩) dX11_move_40) (by decide) (by decide)
theorem kv_X11_setListening : zKV yX11_setListening cX11_setListening 4 (some .boolean) "DrumWarren" 2 := ⟨zk_646, zk_644, zk_645, zk_25, by decide, by decide, by decide +kernel⟩
set_option maxHeartbeats 4000000 in
set_option maxRecDepth 100000 in
theorem ct_X11_setListening (l : Launch) (g : zG) (zX : va_W) (ad : Int → Nat) (zM0 zF0 : zMem) (V : Int → Int) (zt : Int) (zw : Int) (many : Int) (U : Int → Int → Int) (x0 : Int) (hx0 : zR x0) (P : Prop) [Decidable P] (hR : zRS 1 V zM0 zF0) (hG : zGd zt V) (hH : zHi zt many U zM0 zF0) (hW : zIV zw ((zdLi x0 (P) V).2.2)) : zMx l yX11_setListening cX11_setListening 4 (some .boolean) 8 1 6 g (0, 398, zX) ad [.ref (ad 0), .int (zI x0), .int (zI (zb P))] zM0 zF0 (zPi (fun r M' F' => zFt [1] (zdLi x0 (P) V).1 0 ∧ (if zisH V x0 then V (72 + 4 * x0 + 1) else 0) = r ∧ zRS 1 ((zdLi x0 (P) V).2.2) M' F' ∧ zHi zt (zm8 many) (fun k => if k = 0 then V else U (k - 1)) M' F' ∧ zFr zM0 zF0 M' F')) (fun E M' F' => ∃ f, E = zFx f ∧ 0 < f ∧ zFt [1] (zdLi x0 (P) V).1 f ∧ zRS 1 ((zdLi x0 (P) V).2.2) M' F' ∧ zHi zt many U M' F' ∧ zFr zM0 zF0 M' F') := by
  refine zMx.of "DrumWarren" rfl (by decide +kernel) (Nat.le_of_ble_eq_true rfl) (fun {p e s m args below meth c ls} C0 Wd hl hret hlk hin hst hno => ?_)
  have hl : lv_has ls 4 [(0, .ref (ad 0)), (1, .int (zI x0)), (2, .int (zI (zb (P))))] := hl
  have hI := hG.1
  have h0b := hI.1
  have h1b := hI.2.1
  have h2b := hI.2.2.1
  have hn9 := hH.2.1
  have w0b := hW.1
  have w1b := hW.2.1
  have w2b := hW.2.2.1
  have hh9 : zisH V x0 → V (72 + 4 * x0 + 1) = 0 ∨ V (72 + 4 * x0 + 1) = 1 := fun z => (hI.2.2.2.2.2.1 x0 z.1 z.2).2.1
  refine z_aload_n C0 hl 0 rfl dX11_setListening_0 ?_
  refine zg_8_3 C0 Wd zN0 zK0 zk_346 dX11_setListening_1 ?_
  refine z_aload_n C0 hl 0 rfl dX11_setListening_4 ?_
  refine zg_8_0 C0 Wd zN0 zK0 zk_343 dX11_setListening_5 ?_
  refine z_invVv (As := [.ref (ad 1)]) (rest := []) C0 Wd (ct_X8_prepare l g zX ad zM0 zF0 1 zB_1 V zt hR hG.1 hH.2.1 (hH.2.2.2.2 _ (by omega) (by omega)) (by omega)) kv_X8_prepare zN94 (zE_5 zK94) rfl zk_382 rfl hl.1 rfl (Nat.le_of_ble_eq_true rfl) (by decide) (by decide) dX11_setListening_8 (fun zMr1 zFr1 H locs hp Wd => ?_)
  rcases hp with ⟨M1_r1, hr1_0_0, hr1_0_1, rfl, rfl⟩
  · skip
    obtain ⟨hRa, hHa, hPa, hFa⟩ := zFc_1 hR hG hH hr1_0_0 hr1_0_1
    refine z_aload_n C0 hl 0 rfl dX11_setListening_11 ?_
    refine zg_8_0 C0 Wd zN0 zK0 zk_343 dX11_setListening_12 ?_
    refine z_iload_n C0 hl 1 rfl dX11_setListening_15 ?_
    refine z_invVi (As := [.int (zI x0)]) (rest := []) C0 Wd (ct_X10_listens l g zX ad M1_r1 zF0 1 zB_1 V zt x0 hx0 hRa hI) kv_X10_listens zN1 (zE_7 zK1) rfl zk_647 rfl hl.1 rfl (Nat.le_of_ble_eq_true rfl) (by decide) (by decide) dX11_setListening_16 (fun r3 zMr3 zFr3 H locs hrr3 hp Wd => ?_)
    rcases hp with ⟨hr3_0_0, rfl, rfl, rfl⟩ | ⟨hr3_1_0, rfl, rfl, rfl⟩
    · skip
      refine z_istore_n C0 hl [(3, .int (zI (V (72 + 4 * x0 + 1)))), (0, .ref (ad 0)), (1, .int (zI x0)), (2, .int (zI (zb (P))))] (by decide) rfl dX11_setListening_19 (fun ls hl => ?_)
      refine z_aload_n C0 hl 1 rfl dX11_setListening_20 ?_
      refine zg_8_0 C0 Wd zN0 zK0 zk_343 dX11_setListening_21 ?_
      refine z_iload_n C0 hl 2 rfl dX11_setListening_24 ?_
      refine z_iload_n C0 hl 3 rfl dX11_setListening_25 ?_
      refine z_invVe (As := [.int (zI x0), .int (zI (zb (P)))]) (rest := []) C0 Wd (ct_X10_letListen l g zX ad M1_r1 zF0 1 zB_1 V zt x0 hx0 P hRa hI) kv_X10_letListen zN1 (zE_7 zK1) rfl zk_651 rfl hl.1 rfl (Nat.le_of_ble_eq_true rfl) (by decide) (by decide) dX11_setListening_26 (fun r5 zMr5 zFr5 H locs hp Wd => ?_)
      obtain ⟨hftr5, hrsr5, hotr5⟩ := hp
      obtain ⟨hHb, hPb, hFb⟩ := zFc_2 hG hHa hPa hFa hotr5
      have hfb := zFt_bd (by decide) hftr5
      refine z_invSX (As := [.ref (g.2.2.2 r5)]) (rest := []) C0 Wd hst hno hlk (ct_X11_refuse l g zX ad zMr5 zFr5 r5 hfb.1 hfb.2) kv_X11_refuse zk_419 rfl hl.1 rfl (Nat.le_of_ble_eq_true rfl) (by decide) (by decide) (by decide) (by decide) (fun E M9 F9 h9 => by obtain ⟨q1, q2, rfl, rfl⟩ := h9; exact ⟨_, q1, q2, hftr5, hrsr5, hHb, hFb⟩) dX11_setListening_29 (z_kkv (fun zMr7 zFr7 H locs hp Wd => ?_))
      rcases hp with ⟨hr7_0_0, rfl, rfl⟩
      · skip
        refine z_aload_n C0 hl 1 rfl dX11_setListening_32 ?_
        refine zg_8_3 C0 Wd zN0 zK0 zk_346 dX11_setListening_33 ?_
        refine z_invVv (As := []) (rest := []) C0 Wd (ct_X8_keep l g zX ad zMr5 zFr5 hHb.2.1 (by rw [hHb.1]; exact hHb.2.2.1)) kv_X8_keep zN94 (zE_5 zK94) rfl zk_550 rfl hl.1 rfl (Nat.le_of_ble_eq_true rfl) (by decide) (by decide) dX11_setListening_36 (fun zMr9 zFr9 H locs hp Wd => ?_)
        obtain ⟨rfl, rfl⟩ := hp
        refine z_iload_n C0 hl 0 rfl dX11_setListening_39 ?_
        exact z_xret (z_zret C0 Wd hret hlk (by omega) (by have q := hftr5; rw [hr7_0_0] at q; obtain ⟨k1, k2, k3⟩ := zFc_3 hG hW hrsr5 hHb hPb hFb; exact ⟨q, by first | rfl | (rw [if_pos (by assumption)]; done) | (rw [if_neg (by assumption)]; done), k1, k2, k3⟩) dX11_setListening_40) (by decide) (by decide)
    · skip
      refine z_istore_n C0 hl [(3, .int (zI 0)), (0, .ref (ad 0)), (1, .int (zI x0)), (2, .int (zI (zb (P))))] (by decide) rfl dX11_setListening_19 (fun ls hl => ?_)
      refine z_aload_n C0 hl 1 rfl dX11_setListening_20 ?_
      refine zg_8_0 C0 Wd zN0 zK0 zk_343 dX11_setListening_21 ?_
      refine z_iload_n C0 hl 2 rfl dX11_setListening_24 ?_
      refine z_iload_n C0 hl 3 rfl dX11_setListening_25 ?_
      refine z_invVe (As := [.int (zI x0), .int (zI (zb (P)))]) (rest := []) C0 Wd (ct_X10_letListen l g zX ad M1_r1 zF0 1 zB_1 V zt x0 hx0 P hRa hI) kv_X10_letListen zN1 (zE_7 zK1) rfl zk_651 rfl hl.1 rfl (Nat.le_of_ble_eq_true rfl) (by decide) (by decide) dX11_setListening_26 (fun r11 zMr11 zFr11 H locs hp Wd => ?_)
      obtain ⟨hftr11, hrsr11, hotr11⟩ := hp
      obtain ⟨hHb, hPb, hFb⟩ := zFc_2 hG hHa hPa hFa hotr11
      have hfb := zFt_bd (by decide) hftr11
      refine z_invSX (As := [.ref (g.2.2.2 r11)]) (rest := []) C0 Wd hst hno hlk (ct_X11_refuse l g zX ad zMr11 zFr11 r11 hfb.1 hfb.2) kv_X11_refuse zk_419 rfl hl.1 rfl (Nat.le_of_ble_eq_true rfl) (by decide) (by decide) (by decide) (by decide) (fun E M9 F9 h9 => by obtain ⟨q1, q2, rfl, rfl⟩ := h9; exact ⟨_, q1, q2, hftr11, hrsr11, hHb, hFb⟩) dX11_setListening_29 (z_kkv (fun zMr13 zFr13 H locs hp Wd => ?_))
      rcases hp with ⟨hr13_0_0, rfl, rfl⟩
      · skip
        refine z_aload_n C0 hl 1 rfl dX11_setListening_32 ?_
        refine zg_8_3 C0 Wd zN0 zK0 zk_346 dX11_setListening_33 ?_
        refine z_invVv (As := []) (rest := []) C0 Wd (ct_X8_keep l g zX ad zMr11 zFr11 hHb.2.1 (by rw [hHb.1]; exact hHb.2.2.1)) kv_X8_keep zN94 (zE_5 zK94) rfl zk_550 rfl hl.1 rfl (Nat.le_of_ble_eq_true rfl) (by decide) (by decide) dX11_setListening_36 (fun zMr15 zFr15 H locs hp Wd => ?_)
        obtain ⟨rfl, rfl⟩ := hp
        refine z_iload_n C0 hl 0 rfl dX11_setListening_39 ?_
        exact z_xret (z_zret C0 Wd hret hlk (by decide) (by have q := hftr11; rw [hr13_0_0] at q; obtain ⟨k1, k2, k3⟩ := zFc_3 hG hW hrsr11 hHb hPb hFb; exact ⟨q, by first | rfl | (rw [if_pos (by assumption)]; done) | (rw [if_neg (by assumption)]; done), k1, k2, k3⟩) dX11_setListening_40) (by decide) (by decide)
theorem kv_X11_say : zKV yX11_say cX11_say 5 (some .int) "DrumWarren" 3 := ⟨zk_627, zk_625, zk_626, zk_25, by decide, by decide, by decide +kernel⟩
set_option maxHeartbeats 4000000 in
set_option maxRecDepth 100000 in
theorem ct_X11_say (l : Launch) (g : zG) (zX : va_W) (ad : Int → Nat) (zM0 zF0 : zMem) (V : Int → Int) (zt : Int) (zw : Int) (many : Int) (U : Int → Int → Int) (x0 : Int) (hx0 : zR x0) (x1 : Int) (hx1 : zR x1) (x2 : Int) (hx2 : zR x2) (hR : zRS 1 V zM0 zF0) (hG : zGd zt V) (hH : zHi zt many U zM0 zF0) (h3 : V 3 ≤ 100000000) (hW : zIV zw ((zdSay x0 x1 x2 V).2.2)) : zMx l yX11_say cX11_say 5 (some .int) 8 1 6 g (0, 398, zX) ad [.ref (ad 0), .int (zI x0), .int (zI x1), .int (zI x2)] zM0 zF0 (zPi (fun r M' F' => zFt [1, 3, 4] (zdSay x0 x1 x2 V).1 0 ∧ (V 3) = r ∧ zRS 1 ((zdSay x0 x1 x2 V).2.2) M' F' ∧ zHi zt (zm8 many) (fun k => if k = 0 then V else U (k - 1)) M' F' ∧ zFr zM0 zF0 M' F')) (fun E M' F' => ∃ f, E = zFx f ∧ 0 < f ∧ zFt [1, 3, 4] (zdSay x0 x1 x2 V).1 f ∧ zRS 1 ((zdSay x0 x1 x2 V).2.2) M' F' ∧ zHi zt many U M' F' ∧ zFr zM0 zF0 M' F') := by
  refine zMx.of "DrumWarren" rfl (by decide +kernel) (Nat.le_of_ble_eq_true rfl) (fun {p e s m args below meth c ls} C0 Wd hl hret hlk hin hst hno => ?_)
  have hl : lv_has ls 5 [(0, .ref (ad 0)), (1, .int (zI x0)), (2, .int (zI x1)), (3, .int (zI x2))] := hl
  have hI := hG.1
  have h0b := hI.1
  have h1b := hI.2.1
  have h2b := hI.2.2.1
  have hn9 := hH.2.1
  have w0b := hW.1
  have w1b := hW.2.1
  have w2b := hW.2.2.1
  have h3b := hI.2.2.2.1 3 (by decide) (by decide)
  refine z_aload_n C0 hl 0 rfl dX11_say_0 ?_
  refine zg_8_3 C0 Wd zN0 zK0 zk_346 dX11_say_1 ?_
  refine z_aload_n C0 hl 0 rfl dX11_say_4 ?_
  refine zg_8_0 C0 Wd zN0 zK0 zk_343 dX11_say_5 ?_
  refine z_invVv (As := [.ref (ad 1)]) (rest := []) C0 Wd (ct_X8_prepare l g zX ad zM0 zF0 1 zB_1 V zt hR hG.1 hH.2.1 (hH.2.2.2.2 _ (by omega) (by omega)) (by omega)) kv_X8_prepare zN94 (zE_5 zK94) rfl zk_382 rfl hl.1 rfl (Nat.le_of_ble_eq_true rfl) (by decide) (by decide) dX11_say_8 (fun zMr1 zFr1 H locs hp Wd => ?_)
  rcases hp with ⟨M1_r1, hr1_0_0, hr1_0_1, rfl, rfl⟩
  · skip
    obtain ⟨hRa, hHa, hPa, hFa⟩ := zFc_1 hR hG hH hr1_0_0 hr1_0_1
    refine z_aload_n C0 hl 0 rfl dX11_say_11 ?_
    refine zg_8_0 C0 Wd zN0 zK0 zk_343 dX11_say_12 ?_
    refine zg_7_5 C0 Wd zN1 zK1 zk_203 dX11_say_15 ?_
    obtain ⟨he4, hz3⟩ : (M1_r1 1 5) = (V 3) ∧ zR (V 3) := (fun q => ⟨q, q ▸ Wd.rm _ _⟩) hRa.c5
    refine z_top (congrArg zI he4) ?_
    clear he4
    refine z_istore C0 hl [(4, .int (zI (V 3))), (0, .ref (ad 0)), (1, .int (zI x0)), (2, .int (zI x1)), (3, .int (zI x2))] (by decide) rfl dX11_say_18 (fun ls hl => ?_)
    refine z_aload_n C0 hl 1 rfl dX11_say_20 ?_
    refine zg_8_0 C0 Wd zN0 zK0 zk_343 dX11_say_21 ?_
    refine z_iload_n C0 hl 2 rfl dX11_say_24 ?_
    refine z_iload_n C0 hl 3 rfl dX11_say_25 ?_
    refine z_iload_n C0 hl 4 rfl dX11_say_26 ?_
    refine z_invVe (As := [.int (zI x0), .int (zI x1), .int (zI x2)]) (rest := []) C0 Wd (ct_X10_addMessage l g zX ad M1_r1 zF0 1 zB_1 V zt x0 hx0 x1 hx1 x2 hx2 hRa hI (by omega)) kv_X10_addMessage zN1 (zE_7 zK1) rfl zk_628 rfl hl.1 rfl (Nat.le_of_ble_eq_true rfl) (by decide) (by decide) dX11_say_27 (fun r5 zMr5 zFr5 H locs hp Wd => ?_)
    obtain ⟨hftr5, hrsr5, hotr5⟩ := hp
    obtain ⟨hHb, hPb, hFb⟩ := zFc_2 hG hHa hPa hFa hotr5
    have hfb := zFt_bd (by decide) hftr5
    refine z_invSX (As := [.ref (g.2.2.2 r5)]) (rest := []) C0 Wd hst hno hlk (ct_X11_refuse l g zX ad zMr5 zFr5 r5 hfb.1 hfb.2) kv_X11_refuse zk_419 rfl hl.1 rfl (Nat.le_of_ble_eq_true rfl) (by decide) (by decide) (by decide) (by decide) (fun E M9 F9 h9 => by obtain ⟨q1, q2, rfl, rfl⟩ := h9; exact ⟨_, q1, q2, hftr5, hrsr5, hHb, hFb⟩) dX11_say_30 (z_kkv (fun zMr7 zFr7 H locs hp Wd => ?_))
    rcases hp with ⟨hr7_0_0, rfl, rfl⟩
    · skip
      refine z_aload_n C0 hl 1 rfl dX11_say_33 ?_
      refine zg_8_3 C0 Wd zN0 zK0 zk_346 dX11_say_34 ?_
      refine z_invVv (As := []) (rest := []) C0 Wd (ct_X8_keep l g zX ad zMr5 zFr5 hHb.2.1 (by rw [hHb.1]; exact hHb.2.2.1)) kv_X8_keep zN94 (zE_5 zK94) rfl zk_550 rfl hl.1 rfl (Nat.le_of_ble_eq_true rfl) (by decide) (by decide) dX11_say_37 (fun zMr9 zFr9 H locs hp Wd => ?_)
      obtain ⟨rfl, rfl⟩ := hp
      refine z_iload C0 hl 0 rfl dX11_say_40 ?_
      exact z_xret (z_iret C0 Wd hret hlk hz3 (by have q := hftr5; rw [hr7_0_0] at q; obtain ⟨k1, k2, k3⟩ := zFc_3 hG hW hrsr5 hHb hPb hFb; exact ⟨q, by first | rfl | (simp only [zb]; done), k1, k2, k3⟩) dX11_say_42) (by decide) (by decide)
theorem kv_X11_forget : zKV yX11_forget cX11_forget 2 (some .int) "DrumWarren" 1 := ⟨zk_1515, zk_1513, zk_1514, zk_25, by decide, by decide, by decide +kernel⟩
set_option maxHeartbeats 4000000 in
set_option maxRecDepth 100000 in
theorem ct_X11_forget (l : Launch) (g : zG) (zX : va_W) (ad : Int → Nat) (zM0 zF0 : zMem) (V : Int → Int) (zt : Int) (zw : Int) (many : Int) (U : Int → Int → Int) (x0 : Int) (hx0 : zR x0) (hR : zRS 1 V zM0 zF0) (hG : zGd zt V) (hH : zHi zt many U zM0 zF0) (hW : zIV zw ((zdFo x0 V).2.2)) : zMx l yX11_forget cX11_forget 2 (some .int) 8 1 6 g (0, 398, zX) ad [.ref (ad 0), .int (zI x0)] zM0 zF0 (zPi (fun r M' F' => zFt [2, 4] (zdFo x0 V).1 0 ∧ ((zdFo x0 V).2.2 2) = r ∧ zRS 1 ((zdFo x0 V).2.2) M' F' ∧ zHi zt (zm8 many) (fun k => if k = 0 then V else U (k - 1)) M' F' ∧ zFr zM0 zF0 M' F')) (fun E M' F' => ∃ f, E = zFx f ∧ 0 < f ∧ zFt [2, 4] (zdFo x0 V).1 f ∧ zRS 1 ((zdFo x0 V).2.2) M' F' ∧ zHi zt many U M' F' ∧ zFr zM0 zF0 M' F') := by
  refine zMx.of "DrumWarren" rfl (by decide +kernel) (Nat.le_of_ble_eq_true rfl) (fun {p e s m args below meth c ls} C0 Wd hl hret hlk hin hst hno => ?_)
  have hl : lv_has ls 2 [(0, .ref (ad 0)), (1, .int (zI x0))] := hl
  have hI := hG.1
  have h0b := hI.1
  have h1b := hI.2.1
  have h2b := hI.2.2.1
  have hn9 := hH.2.1
  have w0b := hW.1
  have w1b := hW.2.1
  have w2b := hW.2.2.1
  refine z_aload_n C0 hl 0 rfl dX11_forget_0 ?_
  refine zg_8_3 C0 Wd zN0 zK0 zk_346 dX11_forget_1 ?_
  refine z_aload_n C0 hl 0 rfl dX11_forget_4 ?_
  refine zg_8_0 C0 Wd zN0 zK0 zk_343 dX11_forget_5 ?_
  refine z_invVv (As := [.ref (ad 1)]) (rest := []) C0 Wd (ct_X8_prepare l g zX ad zM0 zF0 1 zB_1 V zt hR hG.1 hH.2.1 (hH.2.2.2.2 _ (by omega) (by omega)) (by omega)) kv_X8_prepare zN94 (zE_5 zK94) rfl zk_382 rfl hl.1 rfl (Nat.le_of_ble_eq_true rfl) (by decide) (by decide) dX11_forget_8 (fun zMr1 zFr1 H locs hp Wd => ?_)
  rcases hp with ⟨M1_r1, hr1_0_0, hr1_0_1, rfl, rfl⟩
  · skip
    obtain ⟨hRa, hHa, hPa, hFa⟩ := zFc_1 hR hG hH hr1_0_0 hr1_0_1
    refine z_aload_n C0 hl 0 rfl dX11_forget_11 ?_
    refine zg_8_0 C0 Wd zN0 zK0 zk_343 dX11_forget_12 ?_
    refine z_iload_n C0 hl 1 rfl dX11_forget_15 ?_
    refine z_invVe (As := [.int (zI x0)]) (rest := []) C0 Wd (ct_X10_dropMessage l g zX ad M1_r1 zF0 1 zB_1 V zt x0 hx0 hRa hI hG.2.2.2.2.2.2.2.1) kv_X10_dropMessage zN1 (zE_7 zK1) rfl zk_1516 rfl hl.1 rfl (Nat.le_of_ble_eq_true rfl) (by decide) (by decide) dX11_forget_16 (fun r3 zMr3 zFr3 H locs hp Wd => ?_)
    obtain ⟨hftr3, hrsr3, hotr3⟩ := hp
    obtain ⟨hHb, hPb, hFb⟩ := zFc_2 hG hHa hPa hFa hotr3
    have hfb := zFt_bd (by decide) hftr3
    refine z_invSX (As := [.ref (g.2.2.2 r3)]) (rest := []) C0 Wd hst hno hlk (ct_X11_refuse l g zX ad zMr3 zFr3 r3 hfb.1 hfb.2) kv_X11_refuse zk_419 rfl hl.1 rfl (Nat.le_of_ble_eq_true rfl) (by decide) (by decide) (by decide) (by decide) (fun E M9 F9 h9 => by obtain ⟨q1, q2, rfl, rfl⟩ := h9; exact ⟨_, q1, q2, hftr3, hrsr3, hHb, hFb⟩) dX11_forget_19 (z_kkv (fun zMr5 zFr5 H locs hp Wd => ?_))
    rcases hp with ⟨hr5_0_0, rfl, rfl⟩
    · skip
      refine z_aload_n C0 hl 0 rfl dX11_forget_22 ?_
      refine zg_8_3 C0 Wd zN0 zK0 zk_346 dX11_forget_23 ?_
      refine z_invVv (As := []) (rest := []) C0 Wd (ct_X8_keep l g zX ad zMr3 zFr3 hHb.2.1 (by rw [hHb.1]; exact hHb.2.2.1)) kv_X8_keep zN94 (zE_5 zK94) rfl zk_550 rfl hl.1 rfl (Nat.le_of_ble_eq_true rfl) (by decide) (by decide) dX11_forget_26 (fun zMr7 zFr7 H locs hp Wd => ?_)
      obtain ⟨rfl, rfl⟩ := hp
      refine z_aload_n C0 hl 0 rfl dX11_forget_29 ?_
      refine zg_8_0 C0 Wd zN0 zK0 zk_343 dX11_forget_30 ?_
      refine zg_7_4 C0 Wd zN1 zK1 zk_201 dX11_forget_33 ?_
      obtain ⟨he10, hz9⟩ : ((zu (zu zMr3 94 1 (znx (zMr3 94 1))) 94 2 (zm8 (zMr3 94 2))) 1 4) = (((zdFo x0 V).2.2) 2) ∧ zR (((zdFo x0 V).2.2) 2) := (fun q => ⟨q, q ▸ Wd.rm _ _⟩) ((zu_ne (by omega)).trans ((zu_ne (by omega)).trans hrsr3.c4))
      refine z_top (congrArg zI he10) ?_
      clear he10
      exact z_xret (z_iret C0 Wd hret hlk hz9 (by have q := hftr3; rw [hr5_0_0] at q; obtain ⟨k1, k2, k3⟩ := zFc_3 hG hW hrsr3 hHb hPb hFb; exact ⟨q, by first | rfl | (simp only [zb]; done), k1, k2, k3⟩) dX11_forget_36) (by decide) (by decide)
theorem kv_X11_passTicks : zKV yX11_passTicks cX11_passTicks 3 (some .int) "DrumWarren" 1 := ⟨zk_680, zk_678, zk_679, zk_25, by decide, by decide, by decide +kernel⟩
set_option maxHeartbeats 4000000 in
set_option maxRecDepth 100000 in
theorem ct_X11_passTicks (l : Launch) (g : zG) (zX : va_W) (ad : Int → Nat) (zM0 zF0 : zMem) (V : Int → Int) (zt : Int) (zw : Int) (many : Int) (U : Int → Int → Int) (x0 : Int) (hx0 : zR x0) (hR : zRS 1 V zM0 zF0) (hG : zGd zt V) (hH : zHi zt many U zM0 zF0) (ht : zt ≤ 70000000) (hzw : zw ≤ 100000000) (hW : zIV zw ((zdPT x0 V).2.2)) : zMx l yX11_passTicks cX11_passTicks 3 (some .int) 8 1 6 g (0, 398, zX) ad [.ref (ad 0), .int (zI x0)] zM0 zF0 (zPi (fun r M' F' => zFt [3] (zdPT x0 V).1 0 ∧ ((zdPT x0 V).2.2 6 - V 6) = r ∧ zRS 1 ((zdPT x0 V).2.2) M' F' ∧ zHi zt (zm8 many) (fun k => if k = 0 then V else U (k - 1)) M' F' ∧ zFr zM0 zF0 M' F')) (fun E M' F' => ∃ f, E = zFx f ∧ 0 < f ∧ zFt [3] (zdPT x0 V).1 f ∧ zRS 1 ((zdPT x0 V).2.2) M' F' ∧ zHi zt many U M' F' ∧ zFr zM0 zF0 M' F') := by
  refine zMx.of "DrumWarren" rfl (by decide +kernel) (Nat.le_of_ble_eq_true rfl) (fun {p e s m args below meth c ls} C0 Wd hl hret hlk hin hst hno => ?_)
  have hl : lv_has ls 3 [(0, .ref (ad 0)), (1, .int (zI x0))] := hl
  have hI := hG.1
  have h0b := hI.1
  have h1b := hI.2.1
  have h2b := hI.2.2.1
  have hn9 := hH.2.1
  have w0b := hW.1
  have w1b := hW.2.1
  have w2b := hW.2.2.1
  have h6b := hI.2.2.2.1 6 (by decide) (by decide)
  have w6b := hW.2.2.2.1 6 (by decide) (by decide)
  refine z_aload_n C0 hl 0 rfl dX11_passTicks_0 ?_
  refine zg_8_3 C0 Wd zN0 zK0 zk_346 dX11_passTicks_1 ?_
  refine z_aload_n C0 hl 0 rfl dX11_passTicks_4 ?_
  refine zg_8_0 C0 Wd zN0 zK0 zk_343 dX11_passTicks_5 ?_
  refine z_invVv (As := [.ref (ad 1)]) (rest := []) C0 Wd (ct_X8_prepare l g zX ad zM0 zF0 1 zB_1 V zt hR hG.1 hH.2.1 (hH.2.2.2.2 _ (by omega) (by omega)) (by omega)) kv_X8_prepare zN94 (zE_5 zK94) rfl zk_382 rfl hl.1 rfl (Nat.le_of_ble_eq_true rfl) (by decide) (by decide) dX11_passTicks_8 (fun zMr1 zFr1 H locs hp Wd => ?_)
  rcases hp with ⟨M1_r1, hr1_0_0, hr1_0_1, rfl, rfl⟩
  · skip
    obtain ⟨hRa, hHa, hPa, hFa⟩ := zFc_1 hR hG hH hr1_0_0 hr1_0_1
    refine z_aload_n C0 hl 0 rfl dX11_passTicks_11 ?_
    refine zg_8_0 C0 Wd zN0 zK0 zk_343 dX11_passTicks_12 ?_
    refine zg_7_9 C0 Wd zN1 zK1 zk_211 dX11_passTicks_15 ?_
    obtain ⟨he4, hz3⟩ : (M1_r1 1 9) = (V 6) ∧ zR (V 6) := (fun q => ⟨q, q ▸ Wd.rm _ _⟩) hRa.c9
    refine z_top (congrArg zI he4) ?_
    clear he4
    refine z_istore_n C0 hl [(2, .int (zI (V 6))), (0, .ref (ad 0)), (1, .int (zI x0))] (by decide) rfl dX11_passTicks_18 (fun ls hl => ?_)
    refine z_aload_n C0 hl 1 rfl dX11_passTicks_19 ?_
    refine zg_8_0 C0 Wd zN0 zK0 zk_343 dX11_passTicks_20 ?_
    refine z_iload_n C0 hl 2 rfl dX11_passTicks_23 ?_
    refine z_invVe (As := [.int (zI x0)]) (rest := []) C0 Wd (ct_X10_letTicksPass l g zX ad M1_r1 zF0 1 zB_1 V zt x0 hx0 hRa hI hG.2.1 hG.2.2 (by omega)) kv_X10_letTicksPass zN1 (zE_7 zK1) rfl zk_681 rfl hl.1 rfl (Nat.le_of_ble_eq_true rfl) (by decide) (by decide) dX11_passTicks_24 (fun r5 zMr5 zFr5 H locs hp Wd => ?_)
    obtain ⟨hftr5, hrsr5, hotr5⟩ := hp
    obtain ⟨hHb, hPb, hFb⟩ := zFc_2 hG hHa hPa hFa hotr5
    have hfb := zFt_bd (by decide) hftr5
    refine z_invSX (As := [.ref (g.2.2.2 r5)]) (rest := []) C0 Wd hst hno hlk (ct_X11_refuse l g zX ad zMr5 zFr5 r5 hfb.1 hfb.2) kv_X11_refuse zk_419 rfl hl.1 rfl (Nat.le_of_ble_eq_true rfl) (by decide) (by decide) (by decide) (by decide) (fun E M9 F9 h9 => by obtain ⟨q1, q2, rfl, rfl⟩ := h9; exact ⟨_, q1, q2, hftr5, hrsr5, hHb, hFb⟩) dX11_passTicks_27 (z_kkv (fun zMr7 zFr7 H locs hp Wd => ?_))
    rcases hp with ⟨hr7_0_0, rfl, rfl⟩
    · skip
      refine z_aload_n C0 hl 1 rfl dX11_passTicks_30 ?_
      refine zg_8_3 C0 Wd zN0 zK0 zk_346 dX11_passTicks_31 ?_
      refine z_invVv (As := []) (rest := []) C0 Wd (ct_X8_keep l g zX ad zMr5 zFr5 hHb.2.1 (by rw [hHb.1]; exact hHb.2.2.1)) kv_X8_keep zN94 (zE_5 zK94) rfl zk_550 rfl hl.1 rfl (Nat.le_of_ble_eq_true rfl) (by decide) (by decide) dX11_passTicks_34 (fun zMr9 zFr9 H locs hp Wd => ?_)
      obtain ⟨rfl, rfl⟩ := hp
      refine z_aload_n C0 hl 1 rfl dX11_passTicks_37 ?_
      refine zg_8_0 C0 Wd zN0 zK0 zk_343 dX11_passTicks_38 ?_
      refine zg_7_9 C0 Wd zN1 zK1 zk_211 dX11_passTicks_41 ?_
      obtain ⟨he12, hz11⟩ : ((zu (zu zMr5 94 1 (znx (zMr5 94 1))) 94 2 (zm8 (zMr5 94 2))) 1 9) = (((zdPT x0 V).2.2) 6) ∧ zR (((zdPT x0 V).2.2) 6) := (fun q => ⟨q, q ▸ Wd.rm _ _⟩) ((zu_ne (by omega)).trans ((zu_ne (by omega)).trans hrsr5.c9))
      refine z_top (congrArg zI he12) ?_
      clear he12
      refine z_iload_n C0 hl 0 rfl dX11_passTicks_44 ?_
      refine z_isub C0 dX11_passTicks_45 ?_
      exact z_xret (z_iret C0 Wd hret hlk (by have q0 := hz11.1; have p0 := hz11.2; have q1 := hz3.1; have p1 := hz3.2; exact zR_mk (by omega) (by omega)) (by have q := hftr5; rw [hr7_0_0] at q; obtain ⟨k1, k2, k3⟩ := zFc_3 hG hW hrsr5 hHb hPb hFb; exact ⟨q, by first | rfl | (simp only [zb]; done), k1, k2, k3⟩) dX11_passTicks_46) (by decide) (by decide)
