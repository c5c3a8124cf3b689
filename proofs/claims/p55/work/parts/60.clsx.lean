/-! the class: checks -/
theorem kv_X11_checkNumber : zKS yX11_checkNumber cX11_checkNumber 1 none 1 := ⟨zk_1445, zk_1444, zk_25, by decide, by decide, by decide +kernel⟩
set_option maxHeartbeats 4000000 in
set_option maxRecDepth 100000 in
theorem ct_X11_checkNumber (l : Launch) (g : zG) (zX : va_W) (ad : Int → Nat) (zM0 zF0 : zMem) (x0 : Int) (hx0 : zR x0) : zMx l yX11_checkNumber cX11_checkNumber 1 none 6 1 6 g (0, 398, zX) ad [.int (zI x0)] zM0 zF0 (zPv (fun M' F' => ((0 ≤ x0 ∧ x0 ≤ 15) ∧ zM0 = M' ∧ zF0 = F'))) (fun E M' F' => E = "java/lang/IllegalArgumentException" ∧ ¬ (0 ≤ x0 ∧ x0 ≤ 15) ∧ zM0 = M' ∧ zF0 = F') := by
  refine zMx.of "DrumWarren" rfl (by decide +kernel) (Nat.le_of_ble_eq_true rfl) (fun {p e s m args below meth c ls} C0 Wd hl hret hlk hin hst hno => ?_)
  have hl : lv_has ls 1 [(0, .int (zI x0))] := hl
  refine z_iload_n C0 hl 0 rfl dX11_checkNumber_0 ?_
  refine z_invSi (As := [.int (zI x0)]) (rest := []) C0 Wd (ct_X11_isNumber l g zX ad zM0 zF0 x0 hx0) kv_X11_isNumber zk_1446 rfl hl.1 rfl (Nat.le_of_ble_eq_true rfl) (by decide) (by decide) dX11_checkNumber_1 (fun r1 zMr1 zFr1 H locs hrr1 hp Wd => ?_)
  obtain ⟨rfl, rfl, rfl⟩ := hp
  refine z_if_ne_b C0 (tgt := 18) dX11_checkNumber_4 (by decide) (fun c3 => ?_) (fun c3 => ?_)
  · skip
    exact z_xret (z_vret C0 Wd hret hlk (by first | exact ⟨(by first | assumption | omega), (by first | rfl | (simp [zb, *]; done)), rfl⟩) dX11_checkNumber_18) (by decide) (by decide)
  · skip
    exact z_throwE (k := 3) C0 Wd hst hl.1 zTh_A (zc_r C0 (q := ("DrumWarren", 399, "a number is from 0 to 15", 225)) (List.mem_of_getElem? (i := 34) rfl)) hno hlk dX11_checkNumber_7 dX11_checkNumber_10 (Or.inr ⟨rfl, dX11_checkNumber_11⟩) dX11_checkNumber_14 dX11_checkNumber_17 (by decide) (by decide) (by decide) (by decide) ⟨rfl, (by first | assumption | omega), rfl, rfl⟩
theorem kv_X11_checkedWay : zKS yX11_checkedWay cX11_checkedWay 1 (some .int) 1 := ⟨zk_803, zk_802, zk_25, by decide, by decide, by decide +kernel⟩
set_option maxHeartbeats 4000000 in
set_option maxRecDepth 100000 in
theorem ct_X11_checkedWay (l : Launch) (g : zG) (zX : va_W) (ad : Int → Nat) (zM0 zF0 : zMem) (x0 : Int) (hx0 : zR x0) : zMx l yX11_checkedWay cX11_checkedWay 1 (some .int) 6 1 6 g (0, 398, zX) ad [.int (zI x0)] zM0 zF0 (zPi (fun r M' F' => ((x0 ≠ 1000) ∧ x0 = r ∧ zM0 = M' ∧ zF0 = F'))) (fun E M' F' => E = "java/util/NoSuchElementException" ∧ ¬ (x0 ≠ 1000) ∧ zM0 = M' ∧ zF0 = F') := by
  refine zMx.of "DrumWarren" rfl (by decide +kernel) (Nat.le_of_ble_eq_true rfl) (fun {p e s m args below meth c ls} C0 Wd hl hret hlk hin hst hno => ?_)
  have hl : lv_has ls 1 [(0, .int (zI x0))] := hl
  refine z_iload_n C0 hl 0 rfl dX11_checkedWay_0 ?_
  refine z_sipush C0 dX11_checkedWay_1 (by decide) ?_
  refine z_icmp_ne C0 (tgt := 18) hx0 (zR_mk (by decide) (by decide)) dX11_checkedWay_4 (by decide) (fun c1 => ?_) (fun c1 => ?_)
  · skip
    refine z_iload_n C0 hl 0 rfl dX11_checkedWay_18 ?_
    exact z_xret (z_iret C0 Wd hret hlk hx0 (by first | exact ⟨(by first | assumption | omega), (by first | rfl | omega), (by first | rfl | (simp [zb, *]; done)), rfl⟩) dX11_checkedWay_19) (by decide) (by decide)
  · skip
    exact z_throwE (k := 3) C0 Wd hst hl.1 zTh_N (zc_r C0 (q := ("DrumWarren", 401, "there is no way", 226)) (List.mem_of_getElem? (i := 35) rfl)) hno hlk dX11_checkedWay_7 dX11_checkedWay_10 (Or.inr ⟨rfl, dX11_checkedWay_11⟩) dX11_checkedWay_14 dX11_checkedWay_17 (by decide) (by decide) (by decide) (by decide) ⟨rfl, (by first | assumption | omega), rfl, rfl⟩
theorem kv_X11_checkChamber : zKV yX11_checkChamber cX11_checkChamber 2 none "DrumWarren" 1 := ⟨zk_788, zk_787, zk_11, zk_25, by decide, by decide, by decide +kernel⟩
set_option maxHeartbeats 4000000 in
set_option maxRecDepth 100000 in
theorem ct_X11_checkChamber (l : Launch) (g : zG) (zX : va_W) (ad : Int → Nat) (zM0 zF0 : zMem) (V : Int → Int) (zt : Int) (x0 : Int) (hx0 : zR x0) (hR : zRS 1 V zM0 zF0) (hI : zIV zt V) : zMx l yX11_checkChamber cX11_checkChamber 2 none 6 1 6 g (0, 398, zX) ad [.ref (ad 0), .int (zI x0)] zM0 zF0 (zPv (fun M' F' => ((0 ≤ x0 ∧ x0 < V 0) ∧ zM0 = M' ∧ zF0 = F'))) (fun E M' F' => E = "java/lang/IndexOutOfBoundsException" ∧ ¬ (0 ≤ x0 ∧ x0 < V 0) ∧ zM0 = M' ∧ zF0 = F') := by
  refine zMx.of "DrumWarren" rfl (by decide +kernel) (Nat.le_of_ble_eq_true rfl) (fun {p e s m args below meth c ls} C0 Wd hl hret hlk hin hst hno => ?_)
  have hl : lv_has ls 2 [(0, .ref (ad 0)), (1, .int (zI x0))] := hl
  have h0b := hI.1
  have h1b := hI.2.1
  have h2b := hI.2.2.1
  refine z_aload_n C0 hl 0 rfl dX11_checkChamber_0 ?_
  refine zg_8_0 C0 Wd zN0 zK0 zk_343 dX11_checkChamber_1 ?_
  refine zg_7_0 C0 Wd zN1 zK1 zk_194 dX11_checkChamber_4 ?_
  refine z_rf (show (1 + 1) = 2 by decide) ?_
  refine z_iload_n C0 hl 1 rfl dX11_checkChamber_7 ?_
  refine z_invVi (As := [.int (zI x0)]) (rest := []) C0 Wd (ct_X2_has l g zX ad zM0 zF0 1 zB_1 V x0 hx0 hR.B) kv_X2_has zN2 (zE_1 zK2) rfl zk_789 rfl hl.1 rfl (Nat.le_of_ble_eq_true rfl) (by decide) (by decide) dX11_checkChamber_8 (fun r1 zMr1 zFr1 H locs hrr1 hp Wd => ?_)
  obtain ⟨rfl, rfl, rfl⟩ := hp
  refine z_if_ne_b C0 (tgt := 25) dX11_checkChamber_11 (by decide) (fun c3 => ?_) (fun c3 => ?_)
  · skip
    exact z_xret (z_vret C0 Wd hret hlk (by first | exact ⟨(by first | assumption | omega), (by first | rfl | (simp [zb, *]; done)), rfl⟩) dX11_checkChamber_25) (by decide) (by decide)
  · skip
    exact z_throwE (k := 3) C0 Wd hst hl.1 zTh_I (zc_r C0 (q := ("DrumWarren", 389, "no such chamber", 223)) (List.mem_of_getElem? (i := 32) rfl)) hno hlk dX11_checkChamber_14 dX11_checkChamber_17 (Or.inr ⟨rfl, dX11_checkChamber_18⟩) dX11_checkChamber_21 dX11_checkChamber_24 (by decide) (by decide) (by decide) (by decide) ⟨rfl, (by first | assumption | omega), rfl, rfl⟩
theorem kv_X11_checkHare : zKV yX11_checkHare cX11_checkHare 2 none "DrumWarren" 1 := ⟨zk_932, zk_931, zk_15, zk_25, by decide, by decide, by decide +kernel⟩
set_option maxHeartbeats 4000000 in
set_option maxRecDepth 100000 in
theorem ct_X11_checkHare (l : Launch) (g : zG) (zX : va_W) (ad : Int → Nat) (zM0 zF0 : zMem) (V : Int → Int) (zt : Int) (x0 : Int) (hx0 : zR x0) (hR : zRS 1 V zM0 zF0) (hI : zIV zt V) : zMx l yX11_checkHare cX11_checkHare 2 none 6 1 6 g (0, 398, zX) ad [.ref (ad 0), .int (zI x0)] zM0 zF0 (zPv (fun M' F' => ((0 ≤ x0 ∧ x0 < V 1) ∧ zM0 = M' ∧ zF0 = F'))) (fun E M' F' => E = "java/lang/IndexOutOfBoundsException" ∧ ¬ (0 ≤ x0 ∧ x0 < V 1) ∧ zM0 = M' ∧ zF0 = F') := by
  refine zMx.of "DrumWarren" rfl (by decide +kernel) (Nat.le_of_ble_eq_true rfl) (fun {p e s m args below meth c ls} C0 Wd hl hret hlk hin hst hno => ?_)
  have hl : lv_has ls 2 [(0, .ref (ad 0)), (1, .int (zI x0))] := hl
  have h0b := hI.1
  have h1b := hI.2.1
  have h2b := hI.2.2.1
  refine z_aload_n C0 hl 0 rfl dX11_checkHare_0 ?_
  refine zg_8_0 C0 Wd zN0 zK0 zk_343 dX11_checkHare_1 ?_
  refine z_iload_n C0 hl 1 rfl dX11_checkHare_4 ?_
  refine z_invVi (As := [.int (zI x0)]) (rest := []) C0 Wd (ct_X10_hasHare l g zX ad zM0 zF0 1 zB_1 V zt x0 hx0 hR hI) kv_X10_hasHare zN1 (zE_7 zK1) rfl zk_933 rfl hl.1 rfl (Nat.le_of_ble_eq_true rfl) (by decide) (by decide) dX11_checkHare_5 (fun r1 zMr1 zFr1 H locs hrr1 hp Wd => ?_)
  obtain ⟨rfl, rfl, rfl⟩ := hp
  refine z_if_ne_b C0 (tgt := 22) dX11_checkHare_8 (by decide) (fun c3 => ?_) (fun c3 => ?_)
  · skip
    exact z_xret (z_vret C0 Wd hret hlk (by first | exact ⟨(by first | assumption | omega), (by first | rfl | (simp [zb, *]; done)), rfl⟩) dX11_checkHare_22) (by decide) (by decide)
  · skip
    exact z_throwE (k := 3) C0 Wd hst hl.1 zTh_I (zc_r C0 (q := ("DrumWarren", 394, "no such hare", 224)) (List.mem_of_getElem? (i := 33) rfl)) hno hlk dX11_checkHare_11 dX11_checkHare_14 (Or.inr ⟨rfl, dX11_checkHare_15⟩) dX11_checkHare_18 dX11_checkHare_21 (by decide) (by decide) (by decide) (by decide) ⟨rfl, (by first | assumption | omega), rfl, rfl⟩
