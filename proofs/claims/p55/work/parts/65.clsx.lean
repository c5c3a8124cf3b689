/-! the class: changes -/
theorem kv_X11_addChamber : zKV yX11_addChamber cX11_addChamber 1 (some .int) "DrumWarren" 0 := ⟨zk_381, zk_379, zk_380, zk_25, by decide, by decide, by decide +kernel⟩
set_option maxHeartbeats 4000000 in
set_option maxRecDepth 100000 in
theorem ct_X11_addChamber (l : Launch) (g : zG) (zX : va_W) (ad : Int → Nat) (zM0 zF0 : zMem) (V : Int → Int) (zt : Int) (zw : Int) (many : Int) (U : Int → Int → Int) (hR : zRS 1 V zM0 zF0) (hG : zGd zt V) (hH : zHi zt many U zM0 zF0) (hW : zIV zw ((zdAC V).2.2)) : zMx l yX11_addChamber cX11_addChamber 1 (some .int) 8 1 6 g (0, 398, zX) ad [.ref (ad 0)] zM0 zF0 (zPi (fun r M' F' => zFt [4] (zdAC V).1 0 ∧ ((zdAC V).2.2 0 - 1) = r ∧ zRS 1 ((zdAC V).2.2) M' F' ∧ zHi zt (zm8 many) (fun k => if k = 0 then V else U (k - 1)) M' F' ∧ zFr zM0 zF0 M' F')) (fun E M' F' => ∃ f, E = zFx f ∧ 0 < f ∧ zFt [4] (zdAC V).1 f ∧ zRS 1 ((zdAC V).2.2) M' F' ∧ zHi zt many U M' F' ∧ zFr zM0 zF0 M' F') := by
  refine zMx.of "DrumWarren" rfl (by decide +kernel) (Nat.le_of_ble_eq_true rfl) (fun {p e s m args below meth c ls} C0 Wd hl hret hlk hin hst hno => ?_)
  have hl : lv_has ls 1 [(0, .ref (ad 0))] := hl
  have hI := hG.1
  have h0b := hI.1
  have h1b := hI.2.1
  have h2b := hI.2.2.1
  have hn9 := hH.2.1
  have w0b := hW.1
  have w1b := hW.2.1
  have w2b := hW.2.2.1
  refine z_aload_n C0 hl 0 rfl dX11_addChamber_0 ?_
  refine zg_8_3 C0 Wd zN0 zK0 zk_346 dX11_addChamber_1 ?_
  refine z_aload_n C0 hl 0 rfl dX11_addChamber_4 ?_
  refine zg_8_0 C0 Wd zN0 zK0 zk_343 dX11_addChamber_5 ?_
  refine z_invVv (As := [.ref (ad 1)]) (rest := []) C0 Wd (ct_X8_prepare l g zX ad zM0 zF0 1 zB_1 V zt hR hG.1 hH.2.1 (hH.2.2.2.2 _ (by omega) (by omega)) (by omega)) kv_X8_prepare zN94 (zE_5 zK94) rfl zk_382 rfl hl.1 rfl (Nat.le_of_ble_eq_true rfl) (by decide) (by decide) dX11_addChamber_8 (fun zMr1 zFr1 H locs hp Wd => ?_)
  rcases hp with ⟨M1_r1, hr1_0_0, hr1_0_1, rfl, rfl⟩
  · skip
    obtain ⟨hRa, hHa, hPa, hFa⟩ := zFc_1 hR hG hH hr1_0_0 hr1_0_1
    refine z_aload_n C0 hl 0 rfl dX11_addChamber_11 ?_
    refine zg_8_0 C0 Wd zN0 zK0 zk_343 dX11_addChamber_12 ?_
    refine zg_7_0 C0 Wd zN1 zK1 zk_194 dX11_addChamber_15 ?_
    refine z_rf (show (1 + 1) = 2 by decide) ?_
    refine z_invVe (As := []) (rest := []) C0 Wd (ct_X2_digChamber l g zX ad M1_r1 zF0 1 zB_1 V zt hRa hI) kv_X2_digChamber zN2 (zE_1 zK2) rfl zk_411 rfl hl.1 rfl (Nat.le_of_ble_eq_true rfl) (by decide) (by decide) dX11_addChamber_18 (fun r3 zMr3 zFr3 H locs hp Wd => ?_)
    obtain ⟨hftr3, hrsr3, hotr3⟩ := hp
    obtain ⟨hHb, hPb, hFb⟩ := zFc_2 hG hHa hPa hFa hotr3
    have hfb := zFt_bd (by decide) hftr3
    refine z_invSX (As := [.ref (g.2.2.2 r3)]) (rest := []) C0 Wd hst hno hlk (ct_X11_refuse l g zX ad zMr3 zFr3 r3 hfb.1 hfb.2) kv_X11_refuse zk_419 rfl hl.1 rfl (Nat.le_of_ble_eq_true rfl) (by decide) (by decide) (by decide) (by decide) (fun E M9 F9 h9 => by obtain ⟨q1, q2, rfl, rfl⟩ := h9; exact ⟨_, q1, q2, hftr3, hrsr3, hHb, hFb⟩) dX11_addChamber_21 (z_kkv (fun zMr5 zFr5 H locs hp Wd => ?_))
    rcases hp with ⟨hr5_0_0, rfl, rfl⟩
    · skip
      refine z_aload_n C0 hl 0 rfl dX11_addChamber_24 ?_
      refine zg_8_3 C0 Wd zN0 zK0 zk_346 dX11_addChamber_25 ?_
      refine z_invVv (As := []) (rest := []) C0 Wd (ct_X8_keep l g zX ad zMr3 zFr3 hHb.2.1 (by rw [hHb.1]; exact hHb.2.2.1)) kv_X8_keep zN94 (zE_5 zK94) rfl zk_550 rfl hl.1 rfl (Nat.le_of_ble_eq_true rfl) (by decide) (by decide) dX11_addChamber_28 (fun zMr7 zFr7 H locs hp Wd => ?_)
      obtain ⟨rfl, rfl⟩ := hp
      refine z_aload_n C0 hl 0 rfl dX11_addChamber_31 ?_
      refine zg_8_0 C0 Wd zN0 zK0 zk_343 dX11_addChamber_32 ?_
      refine zg_7_0 C0 Wd zN1 zK1 zk_194 dX11_addChamber_35 ?_
      refine z_rf (show (1 + 1) = 2 by decide) ?_
      refine zg_1_0 C0 Wd zN2 zK2 zk_94 dX11_addChamber_38 ?_
      obtain ⟨he10, hz9⟩ : ((zu (zu zMr3 94 1 (znx (zMr3 94 1))) 94 2 (zm8 (zMr3 94 2))) 2 0) = (((zdAC V).2.2) 0) ∧ zR (((zdAC V).2.2) 0) := (fun q => ⟨q, q ▸ Wd.rm _ _⟩) ((zu_ne (by omega)).trans ((zu_ne (by omega)).trans hrsr3.c0))
      refine z_top (congrArg zI he10) ?_
      clear he10
      refine z_iconst C0 dX11_addChamber_41 ?_
      refine z_isub C0 dX11_addChamber_42 ?_
      exact z_xret (z_iret C0 Wd hret hlk (by have q0 := hz9.1; have p0 := hz9.2; exact zR_mk (by omega) (by omega)) (by have q := hftr3; rw [hr5_0_0] at q; obtain ⟨k1, k2, k3⟩ := zFc_3 hG hW hrsr3 hHb hPb hFb; exact ⟨q, by first | rfl | (simp only [zb]; done), k1, k2, k3⟩) dX11_addChamber_43) (by decide) (by decide)
theorem kv_X11_addTunnel : zKV yX11_addTunnel cX11_addTunnel 4 (some .int) "DrumWarren" 3 := ⟨zk_585, zk_583, zk_584, zk_25, by decide, by decide, by decide +kernel⟩
set_option maxHeartbeats 4000000 in
set_option maxRecDepth 100000 in
theorem ct_X11_addTunnel (l : Launch) (g : zG) (zX : va_W) (ad : Int → Nat) (zM0 zF0 : zMem) (V : Int → Int) (zt : Int) (zw : Int) (many : Int) (U : Int → Int → Int) (x0 : Int) (hx0 : zR x0) (x1 : Int) (hx1 : zR x1) (x2 : Int) (hx2 : zR x2) (hR : zRS 1 V zM0 zF0) (hG : zGd zt V) (hH : zHi zt many U zM0 zF0) (hN : zTn V) (hW : zIV zw ((zdAT x0 x1 x2 V).2.2)) : zMx l yX11_addTunnel cX11_addTunnel 4 (some .int) 8 1 6 g (0, 398, zX) ad [.ref (ad 0), .int (zI x0), .int (zI x1), .int (zI x2)] zM0 zF0 (zPi (fun r M' F' => zFt [1, 3, 4] (zdAT x0 x1 x2 V).1 0 ∧ zTu ((zdAT x0 x1 x2 V).2.2) = r ∧ zRS 1 ((zdAT x0 x1 x2 V).2.2) M' F' ∧ zHi zt (zm8 many) (fun k => if k = 0 then V else U (k - 1)) M' F' ∧ zFr zM0 zF0 M' F')) (fun E M' F' => ∃ f, E = zFx f ∧ 0 < f ∧ zFt [1, 3, 4] (zdAT x0 x1 x2 V).1 f ∧ zRS 1 ((zdAT x0 x1 x2 V).2.2) M' F' ∧ zHi zt many U M' F' ∧ zFr zM0 zF0 M' F') := by
  refine zMx.of "DrumWarren" rfl (by decide +kernel) (Nat.le_of_ble_eq_true rfl) (fun {p e s m args below meth c ls} C0 Wd hl hret hlk hin hst hno => ?_)
  have hl : lv_has ls 4 [(0, .ref (ad 0)), (1, .int (zI x0)), (2, .int (zI x1)), (3, .int (zI x2))] := hl
  have hI := hG.1
  have h0b := hI.1
  have h1b := hI.2.1
  have h2b := hI.2.2.1
  have hn9 := hH.2.1
  have w0b := hW.1
  have w1b := hW.2.1
  have w2b := hW.2.2.1
  refine z_aload_n C0 hl 0 rfl dX11_addTunnel_0 ?_
  refine zg_8_3 C0 Wd zN0 zK0 zk_346 dX11_addTunnel_1 ?_
  refine z_aload_n C0 hl 0 rfl dX11_addTunnel_4 ?_
  refine zg_8_0 C0 Wd zN0 zK0 zk_343 dX11_addTunnel_5 ?_
  refine z_invVv (As := [.ref (ad 1)]) (rest := []) C0 Wd (ct_X8_prepare l g zX ad zM0 zF0 1 zB_1 V zt hR hG.1 hH.2.1 (hH.2.2.2.2 _ (by omega) (by omega)) (by omega)) kv_X8_prepare zN94 (zE_5 zK94) rfl zk_382 rfl hl.1 rfl (Nat.le_of_ble_eq_true rfl) (by decide) (by decide) dX11_addTunnel_8 (fun zMr1 zFr1 H locs hp Wd => ?_)
  rcases hp with ⟨M1_r1, hr1_0_0, hr1_0_1, rfl, rfl⟩
  · skip
    obtain ⟨hRa, hHa, hPa, hFa⟩ := zFc_1 hR hG hH hr1_0_0 hr1_0_1
    refine z_aload_n C0 hl 0 rfl dX11_addTunnel_11 ?_
    refine zg_8_0 C0 Wd zN0 zK0 zk_343 dX11_addTunnel_12 ?_
    refine zg_7_0 C0 Wd zN1 zK1 zk_194 dX11_addTunnel_15 ?_
    refine z_rf (show (1 + 1) = 2 by decide) ?_
    refine z_iload_n C0 hl 1 rfl dX11_addTunnel_18 ?_
    refine z_iload_n C0 hl 2 rfl dX11_addTunnel_19 ?_
    refine z_iload_n C0 hl 3 rfl dX11_addTunnel_20 ?_
    refine z_invVe (As := [.int (zI x0), .int (zI x1), .int (zI x2)]) (rest := []) C0 Wd (ct_X2_digTunnel l g zX ad M1_r1 zF0 1 zB_1 V zt x0 hx0 x1 hx1 x2 hx2 hRa hI hN) kv_X2_digTunnel zN2 (zE_1 zK2) rfl zk_586 rfl hl.1 rfl (Nat.le_of_ble_eq_true rfl) (by decide) (by decide) dX11_addTunnel_21 (fun r3 zMr3 zFr3 H locs hp Wd => ?_)
    obtain ⟨hftr3, hrsr3, hotr3⟩ := hp
    obtain ⟨hHb, hPb, hFb⟩ := zFc_2 hG hHa hPa hFa hotr3
    have hfb := zFt_bd (by decide) hftr3
    refine z_invSX (As := [.ref (g.2.2.2 r3)]) (rest := []) C0 Wd hst hno hlk (ct_X11_refuse l g zX ad zMr3 zFr3 r3 hfb.1 hfb.2) kv_X11_refuse zk_419 rfl hl.1 rfl (Nat.le_of_ble_eq_true rfl) (by decide) (by decide) (by decide) (by decide) (fun E M9 F9 h9 => by obtain ⟨q1, q2, rfl, rfl⟩ := h9; exact ⟨_, q1, q2, hftr3, hrsr3, hHb, hFb⟩) dX11_addTunnel_24 (z_kkv (fun zMr5 zFr5 H locs hp Wd => ?_))
    rcases hp with ⟨hr5_0_0, rfl, rfl⟩
    · skip
      refine z_aload_n C0 hl 0 rfl dX11_addTunnel_27 ?_
      refine zg_8_3 C0 Wd zN0 zK0 zk_346 dX11_addTunnel_28 ?_
      refine z_invVv (As := []) (rest := []) C0 Wd (ct_X8_keep l g zX ad zMr3 zFr3 hHb.2.1 (by rw [hHb.1]; exact hHb.2.2.1)) kv_X8_keep zN94 (zE_5 zK94) rfl zk_550 rfl hl.1 rfl (Nat.le_of_ble_eq_true rfl) (by decide) (by decide) dX11_addTunnel_31 (fun zMr7 zFr7 H locs hp Wd => ?_)
      obtain ⟨rfl, rfl⟩ := hp
      refine z_aload_n C0 hl 0 rfl dX11_addTunnel_34 ?_
      refine zg_8_0 C0 Wd zN0 zK0 zk_343 dX11_addTunnel_35 ?_
      refine zg_7_0 C0 Wd zN1 zK1 zk_194 dX11_addTunnel_38 ?_
      refine z_rf (show (1 + 1) = 2 by decide) ?_
      refine zg_1_1 C0 Wd zN2 zK2 zk_97 dX11_addTunnel_41 ?_
      obtain ⟨he10, hz9⟩ : ((zu (zu zMr3 94 1 (znx (zMr3 94 1))) 94 2 (zm8 (zMr3 94 2))) 2 1) = (zTu ((zdAT x0 x1 x2 V).2.2)) ∧ zR (zTu ((zdAT x0 x1 x2 V).2.2)) := (fun q => ⟨q, q ▸ Wd.rm _ _⟩) ((zu_ne (by omega)).trans ((zu_ne (by omega)).trans hrsr3.c1))
      refine z_top (congrArg zI he10) ?_
      clear he10
      exact z_xret (z_iret C0 Wd hret hlk hz9 (by have q := hftr3; rw [hr5_0_0] at q; obtain ⟨k1, k2, k3⟩ := zFc_3 hG hW hrsr3 hHb hPb hFb; exact ⟨q, by first | rfl | (simp only [zb]; done), k1, k2, k3⟩) dX11_addTunnel_44) (by decide) (by decide)
theorem kv_X11_addHare : zKV yX11_addHare cX11_addHare 2 (some .int) "DrumWarren" 1 := ⟨zk_612, zk_610, zk_611, zk_25, by decide, by decide, by decide +kernel⟩
set_option maxHeartbeats 4000000 in
set_option maxRecDepth 100000 in
theorem ct_X11_addHare (l : Launch) (g : zG) (zX : va_W) (ad : Int → Nat) (zM0 zF0 : zMem) (V : Int → Int) (zt : Int) (zw : Int) (many : Int) (U : Int → Int → Int) (x0 : Int) (hx0 : zR x0) (hR : zRS 1 V zM0 zF0) (hG : zGd zt V) (hH : zHi zt many U zM0 zF0) (hW : zIV zw ((zdAH x0 V).2.2)) : zMx l yX11_addHare cX11_addHare 2 (some .int) 8 1 6 g (0, 398, zX) ad [.ref (ad 0), .int (zI x0)] zM0 zF0 (zPi (fun r M' F' => zFt [1, 4] (zdAH x0 V).1 0 ∧ ((zdAH x0 V).2.2 1 - 1) = r ∧ zRS 1 ((zdAH x0 V).2.2) M' F' ∧ zHi zt (zm8 many) (fun k => if k = 0 then V else U (k - 1)) M' F' ∧ zFr zM0 zF0 M' F')) (fun E M' F' => ∃ f, E = zFx f ∧ 0 < f ∧ zFt [1, 4] (zdAH x0 V).1 f ∧ zRS 1 ((zdAH x0 V).2.2) M' F' ∧ zHi zt many U M' F' ∧ zFr zM0 zF0 M' F') := by
  refine zMx.of "DrumWarren" rfl (by decide +kernel) (Nat.le_of_ble_eq_true rfl) (fun {p e s m args below meth c ls} C0 Wd hl hret hlk hin hst hno => ?_)
  have hl : lv_has ls 2 [(0, .ref (ad 0)), (1, .int (zI x0))] := hl
  have hI := hG.1
  have h0b := hI.1
  have h1b := hI.2.1
  have h2b := hI.2.2.1
  have hn9 := hH.2.1
  have w0b := hW.1
  have w1b := hW.2.1
  have w2b := hW.2.2.1
  refine z_aload_n C0 hl 0 rfl dX11_addHare_0 ?_
  refine zg_8_3 C0 Wd zN0 zK0 zk_346 dX11_addHare_1 ?_
  refine z_aload_n C0 hl 0 rfl dX11_addHare_4 ?_
  refine zg_8_0 C0 Wd zN0 zK0 zk_343 dX11_addHare_5 ?_
  refine z_invVv (As := [.ref (ad 1)]) (rest := []) C0 Wd (ct_X8_prepare l g zX ad zM0 zF0 1 zB_1 V zt hR hG.1 hH.2.1 (hH.2.2.2.2 _ (by omega) (by omega)) (by omega)) kv_X8_prepare zN94 (zE_5 zK94) rfl zk_382 rfl hl.1 rfl (Nat.le_of_ble_eq_true rfl) (by decide) (by decide) dX11_addHare_8 (fun zMr1 zFr1 H locs hp Wd => ?_)
  rcases hp with ⟨M1_r1, hr1_0_0, hr1_0_1, rfl, rfl⟩
  · skip
    obtain ⟨hRa, hHa, hPa, hFa⟩ := zFc_1 hR hG hH hr1_0_0 hr1_0_1
    refine z_aload_n C0 hl 0 rfl dX11_addHare_11 ?_
    refine zg_8_0 C0 Wd zN0 zK0 zk_343 dX11_addHare_12 ?_
    refine z_iload_n C0 hl 1 rfl dX11_addHare_15 ?_
    refine z_invVe (As := [.int (zI x0)]) (rest := []) C0 Wd (ct_X10_settle l g zX ad M1_r1 zF0 1 zB_1 V zt x0 hx0 hRa hI) kv_X10_settle zN1 (zE_7 zK1) rfl zk_613 rfl hl.1 rfl (Nat.le_of_ble_eq_true rfl) (by decide) (by decide) dX11_addHare_16 (fun r3 zMr3 zFr3 H locs hp Wd => ?_)
    obtain ⟨hftr3, hrsr3, hotr3⟩ := hp
    obtain ⟨hHb, hPb, hFb⟩ := zFc_2 hG hHa hPa hFa hotr3
    have hfb := zFt_bd (by decide) hftr3
    refine z_invSX (As := [.ref (g.2.2.2 r3)]) (rest := []) C0 Wd hst hno hlk (ct_X11_refuse l g zX ad zMr3 zFr3 r3 hfb.1 hfb.2) kv_X11_refuse zk_419 rfl hl.1 rfl (Nat.le_of_ble_eq_true rfl) (by decide) (by decide) (by decide) (by decide) (fun E M9 F9 h9 => by obtain ⟨q1, q2, rfl, rfl⟩ := h9; exact ⟨_, q1, q2, hftr3, hrsr3, hHb, hFb⟩) dX11_addHare_19 (z_kkv (fun zMr5 zFr5 H locs hp Wd => ?_))
    rcases hp with ⟨hr5_0_0, rfl, rfl⟩
    · skip
      refine z_aload_n C0 hl 0 rfl dX11_addHare_22 ?_
      refine zg_8_3 C0 Wd zN0 zK0 zk_346 dX11_addHare_23 ?_
      refine z_invVv (As := []) (rest := []) C0 Wd (ct_X8_keep l g zX ad zMr3 zFr3 hHb.2.1 (by rw [hHb.1]; exact hHb.2.2.1)) kv_X8_keep zN94 (zE_5 zK94) rfl zk_550 rfl hl.1 rfl (Nat.le_of_ble_eq_true rfl) (by decide) (by decide) dX11_addHare_26 (fun zMr7 zFr7 H locs hp Wd => ?_)
      obtain ⟨rfl, rfl⟩ := hp
      refine z_aload_n C0 hl 0 rfl dX11_addHare_29 ?_
      refine zg_8_0 C0 Wd zN0 zK0 zk_343 dX11_addHare_30 ?_
      refine zg_7_2 C0 Wd zN1 zK1 zk_197 dX11_addHare_33 ?_
      obtain ⟨he10, hz9⟩ : ((zu (zu zMr3 94 1 (znx (zMr3 94 1))) 94 2 (zm8 (zMr3 94 2))) 1 2) = (((zdAH x0 V).2.2) 1) ∧ zR (((zdAH x0 V).2.2) 1) := (fun q => ⟨q, q ▸ Wd.rm _ _⟩) ((zu_ne (by omega)).trans ((zu_ne (by omega)).trans hrsr3.c2))
      refine z_top (congrArg zI he10) ?_
      clear he10
      refine z_iconst C0 dX11_addHare_36 ?_
      refine z_isub C0 dX11_addHare_37 ?_
      exact z_xret (z_iret C0 Wd hret hlk (by have q0 := hz9.1; have p0 := hz9.2; exact zR_mk (by omega) (by omega)) (by have q := hftr3; rw [hr5_0_0] at q; obtain ⟨k1, k2, k3⟩ := zFc_3 hG hW hrsr3 hHb hPb hFb; exact ⟨q, by first | rfl | (simp only [zb]; done), k1, k2, k3⟩) dX11_addHare_38) (by decide) (by decide)
