/-! the helpers of the law -/
def zKH (y : MethodName) (cc : ByteArray) (nL : Nat) (hh : List (Nat × Nat × Nat × Nat)) (n : Nat) : Prop :=
  Cond.codeWith y cc nL (some .int) hh ∈ zT ∧ Cond.static y ∈ zT ∧ Cond.initialized y.cls ∈ zT ∧ y.cls ≠ "java/lang/invoke/MethodHandle" ∧ y.cls ≠ "java/lang/invoke/VarHandle" ∧ (parseMethodDescriptor y.desc).map (fun d => d.parameters.length) = some n
theorem hs_addChamber : zKH yL_addChamber cL_addChamber 3 [(0, 8, 11, 13)] 2 := ⟨zk_535, zk_534, zk_64, by decide, by decide, by decide +kernel⟩
theorem ch_addChamber (l : Launch) (g : zG) (ad : Int → Nat) (M F : zMem) (P : Int → zMem → zMem → Prop) (T : String → zMem → zMem → Prop) (hM : zMx l yX11_addChamber cX11_addChamber 1 (some .int) 8 1 6 g 410 ad [.ref (ad 0)] M F (zPi P) T) (hE : ∀ E M' F', T E M' F' → E = "java/lang/IllegalStateException") : hMt l yL_addChamber cL_addChamber 3 [(0, 8, 11, 13)] 9 1 6 g ad [.ref (ad 0), .ref (ad 408)] M F (zPi (fun k M' F' => (k = 0 ∧ ∃ r M1, zR r ∧ P r M1 F' ∧ M' = zu M1 408 0 r) ∨ (k = 1 ∧ T "java/lang/IllegalStateException" M' F'))) := by
  refine hMt.of "DrumWarrenLaw" rfl (by decide +kernel) (Nat.le_of_ble_eq_true rfl) (fun {p e s m args below meth c ls} C0 Wd hl hret hlk hst htab => ?_)
  have hl : lv_has ls 3 [(0, .ref (ad 0)), (1, .ref (ad 408))] := hl
  refine z_aload_n C0 hl 1 rfl dL_addChamber_0 ?_
  refine z_iconst C0 dL_addChamber_1 ?_
  refine z_aload_n C0 hl 0 rfl dL_addChamber_2 ?_
  refine z_invVH (As := []) (rest := [.int (zI 0), .ref (ad 408)]) C0 Wd hst hM kv_X11_addChamber zN0 (zE_8 zK0) rfl zk_537 rfl hl.1 rfl (Nat.le_of_ble_eq_true rfl) (by decide) (by decide) dL_addChamber_3 (fun v M1 F1 H locs hp Wd => ?_) (fun E M1 F1 H locs q ce hp Wd hce hcv hcl => ?_)
  · obtain ⟨r, rfl, hr, hp⟩ := hp
    refine z_i2l C0 hr dL_addChamber_6 ?_
    refine z_last C0 Wd zN408 zK408 zL408 (by decide) (by decide) (by decide) hr dL_addChamber_7 (fun H locs Wd => ?_)
    refine z_goto C0 (tgt := 14) dL_addChamber_8 (by decide) ?_
    refine z_iconst C0 dL_addChamber_14 ?_
    exact z_iret C0 Wd hret hlk (zR_mk (by decide) (by decide)) (Or.inl ⟨rfl, r, M1, hr, hp, rfl⟩) dL_addChamber_15
  · rcases hE E M1 F1 hp with rfl
    · refine z_catch C0 htab [] (0, 8, 11, 13) [] rfl (fun _ h => nomatch h) ⟨by decide, by decide⟩ (by decide) zk_536 (List.mem_of_getElem? (i := 3) rfl) hce hcv hcl ?_
      refine z_astore_n C0 hl [(2, .ref q), (0, .ref (ad 0)), (1, .ref (ad 408))] (by decide) rfl dL_addChamber_11 (fun ls hl => ?_)
      refine z_iconst C0 dL_addChamber_12 ?_
      exact z_iret C0 Wd hret hlk (zR_mk (by decide) (by decide)) (Or.inr (⟨rfl, hp⟩)) dL_addChamber_13
theorem hs_addTunnel : zKH yL_addTunnel cL_addTunnel 6 [(0, 12, 15, 19), (0, 12, 19, 21), (0, 12, 23, 13)] 5 := ⟨zk_694, zk_693, zk_64, by decide, by decide, by decide +kernel⟩
theorem ch_addTunnel (l : Launch) (g : zG) (ad : Int → Nat) (M F : zMem) (x0 : Int) (x1 : Int) (x2 : Int) (P : Int → zMem → zMem → Prop) (T : String → zMem → zMem → Prop) (hM : zMx l yX11_addTunnel cX11_addTunnel 4 (some .int) 8 1 6 g 410 ad [.ref (ad 0), .int (zI x0), .int (zI x1), .int (zI x2)] M F (zPi P) T) (hE : ∀ E M' F', T E M' F' → E = "java/lang/IndexOutOfBoundsException" ∨ E = "java/lang/IllegalArgumentException" ∨ E = "java/lang/IllegalStateException") : hMt l yL_addTunnel cL_addTunnel 6 [(0, 12, 15, 19), (0, 12, 19, 21), (0, 12, 23, 13)] 9 1 6 g ad [.ref (ad 0), .int (zI x0), .int (zI x1), .int (zI x2), .ref (ad 408)] M F (zPi (fun k M' F' => (k = 0 ∧ ∃ r M1, zR r ∧ P r M1 F' ∧ M' = zu M1 408 0 r) ∨ (k = 1 ∧ T "java/lang/IndexOutOfBoundsException" M' F') ∨ (k = 2 ∧ T "java/lang/IllegalArgumentException" M' F') ∨ (k = 3 ∧ T "java/lang/IllegalStateException" M' F'))) := by
  refine hMt.of "DrumWarrenLaw" rfl (by decide +kernel) (Nat.le_of_ble_eq_true rfl) (fun {p e s m args below meth c ls} C0 Wd hl hret hlk hst htab => ?_)
  have hl : lv_has ls 6 [(0, .ref (ad 0)), (1, .int (zI x0)), (2, .int (zI x1)), (3, .int (zI x2)), (4, .ref (ad 408))] := hl
  refine z_aload C0 hl 4 rfl dL_addTunnel_0 ?_
  refine z_iconst C0 dL_addTunnel_2 ?_
  refine z_aload_n C0 hl 0 rfl dL_addTunnel_3 ?_
  refine z_iload_n C0 hl 1 rfl dL_addTunnel_4 ?_
  refine z_iload_n C0 hl 2 rfl dL_addTunnel_5 ?_
  refine z_iload_n C0 hl 3 rfl dL_addTunnel_6 ?_
  refine z_invVH (As := [.int (zI x0), .int (zI x1), .int (zI x2)]) (rest := [.int (zI 0), .ref (ad 408)]) C0 Wd hst hM kv_X11_addTunnel zN0 (zE_8 zK0) rfl zk_717 rfl hl.1 rfl (Nat.le_of_ble_eq_true rfl) (by decide) (by decide) dL_addTunnel_7 (fun v M1 F1 H locs hp Wd => ?_) (fun E M1 F1 H locs q ce hp Wd hce hcv hcl => ?_)
  · obtain ⟨r, rfl, hr, hp⟩ := hp
    refine z_i2l C0 hr dL_addTunnel_10 ?_
    refine z_last C0 Wd zN408 zK408 zL408 (by decide) (by decide) (by decide) hr dL_addTunnel_11 (fun H locs Wd => ?_)
    refine z_goto C0 (tgt := 27) dL_addTunnel_12 (by decide) ?_
    refine z_iconst C0 dL_addTunnel_27 ?_
    exact z_iret C0 Wd hret hlk (zR_mk (by decide) (by decide)) (Or.inl ⟨rfl, r, M1, hr, hp, rfl⟩) dL_addTunnel_28
  · rcases hE E M1 F1 hp with rfl | rfl | rfl
    · refine z_catch C0 htab [] (0, 12, 15, 19) [(0, 12, 19, 21), (0, 12, 23, 13)] rfl (fun _ h => nomatch h) ⟨by decide, by decide⟩ (by decide) zk_695 (List.mem_of_getElem? (i := 0) rfl) hce hcv hcl ?_
      refine z_astore C0 hl [(5, .ref q), (0, .ref (ad 0)), (1, .int (zI x0)), (2, .int (zI x1)), (3, .int (zI x2)), (4, .ref (ad 408))] (by decide) rfl dL_addTunnel_15 (fun ls hl => ?_)
      refine z_iconst C0 dL_addTunnel_17 ?_
      exact z_iret C0 Wd hret hlk (zR_mk (by decide) (by decide)) (Or.inr (Or.inl ⟨rfl, hp⟩)) dL_addTunnel_18
    · refine z_catch C0 htab [(0, 12, 15, 19)] (0, 12, 19, 21) [(0, 12, 23, 13)] rfl (by intro z hz; simp only [List.mem_cons, List.not_mem_nil, or_false] at hz; rcases hz with rfl <;> first | exact ⟨by decide, "java/lang/IndexOutOfBoundsException", zk_695, List.mem_of_getElem? (i := 10) rfl⟩) ⟨by decide, by decide⟩ (by decide) zk_716 (List.mem_of_getElem? (i := 2) rfl) hce hcv hcl ?_
      refine z_astore C0 hl [(5, .ref q), (0, .ref (ad 0)), (1, .int (zI x0)), (2, .int (zI x1)), (3, .int (zI x2)), (4, .ref (ad 408))] (by decide) rfl dL_addTunnel_19 (fun ls hl => ?_)
      refine z_iconst C0 dL_addTunnel_21 ?_
      exact z_iret C0 Wd hret hlk (zR_mk (by decide) (by decide)) (Or.inr (Or.inr (Or.inl ⟨rfl, hp⟩))) dL_addTunnel_22
    · refine z_catch C0 htab [(0, 12, 15, 19), (0, 12, 19, 21)] (0, 12, 23, 13) [] rfl (by intro z hz; simp only [List.mem_cons, List.not_mem_nil, or_false] at hz; rcases hz with rfl | rfl <;> first | exact ⟨by decide, "java/lang/IndexOutOfBoundsException", zk_695, List.mem_of_getElem? (i := 15) rfl⟩ | exact ⟨by decide, "java/lang/IllegalArgumentException", zk_716, List.mem_of_getElem? (i := 17) rfl⟩) ⟨by decide, by decide⟩ (by decide) zk_536 (List.mem_of_getElem? (i := 3) rfl) hce hcv hcl ?_
      refine z_astore C0 hl [(5, .ref q), (0, .ref (ad 0)), (1, .int (zI x0)), (2, .int (zI x1)), (3, .int (zI x2)), (4, .ref (ad 408))] (by decide) rfl dL_addTunnel_23 (fun ls hl => ?_)
      refine z_iconst C0 dL_addTunnel_25 ?_
      exact z_iret C0 Wd hret hlk (zR_mk (by decide) (by decide)) (Or.inr (Or.inr (Or.inr (⟨rfl, hp⟩)))) dL_addTunnel_26
theorem hs_removeTunnel : zKH yL_removeTunnel cL_removeTunnel 5 [(0, 10, 13, 19), (0, 10, 17, 27)] 4 := ⟨zk_735, zk_734, zk_64, by decide, by decide, by decide +kernel⟩
theorem ch_removeTunnel (l : Launch) (g : zG) (ad : Int → Nat) (M F : zMem) (x0 : Int) (x1 : Int) (P : Int → zMem → zMem → Prop) (T : String → zMem → zMem → Prop) (hM : zMx l yX11_removeTunnel cX11_removeTunnel 4 (some .int) 8 1 6 g 410 ad [.ref (ad 0), .int (zI x0), .int (zI x1)] M F (zPi P) T) (hE : ∀ E M' F', T E M' F' → E = "java/lang/IndexOutOfBoundsException" ∨ E = "java/util/NoSuchElementException") : hMt l yL_removeTunnel cL_removeTunnel 5 [(0, 10, 13, 19), (0, 10, 17, 27)] 9 1 6 g ad [.ref (ad 0), .int (zI x0), .int (zI x1), .ref (ad 408)] M F (zPi (fun k M' F' => (k = 0 ∧ ∃ r M1, zR r ∧ P r M1 F' ∧ M' = zu M1 408 0 r) ∨ (k = 1 ∧ T "java/lang/IndexOutOfBoundsException" M' F') ∨ (k = 2 ∧ T "java/util/NoSuchElementException" M' F'))) := by
  refine hMt.of "DrumWarrenLaw" rfl (by decide +kernel) (Nat.le_of_ble_eq_true rfl) (fun {p e s m args below meth c ls} C0 Wd hl hret hlk hst htab => ?_)
  have hl : lv_has ls 5 [(0, .ref (ad 0)), (1, .int (zI x0)), (2, .int (zI x1)), (3, .ref (ad 408))] := hl
  refine z_aload_n C0 hl 3 rfl dL_removeTunnel_0 ?_
  refine z_iconst C0 dL_removeTunnel_1 ?_
  refine z_aload_n C0 hl 0 rfl dL_removeTunnel_2 ?_
  refine z_iload_n C0 hl 1 rfl dL_removeTunnel_3 ?_
  refine z_iload_n C0 hl 2 rfl dL_removeTunnel_4 ?_
  refine z_invVH (As := [.int (zI x0), .int (zI x1)]) (rest := [.int (zI 0), .ref (ad 408)]) C0 Wd hst hM kv_X11_removeTunnel zN0 (zE_8 zK0) rfl zk_737 rfl hl.1 rfl (Nat.le_of_ble_eq_true rfl) (by decide) (by decide) dL_removeTunnel_5 (fun v M1 F1 H locs hp Wd => ?_) (fun E M1 F1 H locs q ce hp Wd hce hcv hcl => ?_)
  · obtain ⟨r, rfl, hr, hp⟩ := hp
    refine z_i2l C0 hr dL_removeTunnel_8 ?_
    refine z_last C0 Wd zN408 zK408 zL408 (by decide) (by decide) (by decide) hr dL_removeTunnel_9 (fun H locs Wd => ?_)
    refine z_goto C0 (tgt := 21) dL_removeTunnel_10 (by decide) ?_
    refine z_iconst C0 dL_removeTunnel_21 ?_
    exact z_iret C0 Wd hret hlk (zR_mk (by decide) (by decide)) (Or.inl ⟨rfl, r, M1, hr, hp, rfl⟩) dL_removeTunnel_22
  · rcases hE E M1 F1 hp with rfl | rfl
    · refine z_catch C0 htab [] (0, 10, 13, 19) [(0, 10, 17, 27)] rfl (fun _ h => nomatch h) ⟨by decide, by decide⟩ (by decide) zk_695 (List.mem_of_getElem? (i := 0) rfl) hce hcv hcl ?_
      refine z_astore C0 hl [(4, .ref q), (0, .ref (ad 0)), (1, .int (zI x0)), (2, .int (zI x1)), (3, .ref (ad 408))] (by decide) rfl dL_removeTunnel_13 (fun ls hl => ?_)
      refine z_iconst C0 dL_removeTunnel_15 ?_
      exact z_iret C0 Wd hret hlk (zR_mk (by decide) (by decide)) (Or.inr (Or.inl ⟨rfl, hp⟩)) dL_removeTunnel_16
    · refine z_catch C0 htab [(0, 10, 13, 19)] (0, 10, 17, 27) [] rfl (by intro z hz; simp only [List.mem_cons, List.not_mem_nil, or_false] at hz; rcases hz with rfl <;> first | exact ⟨by decide, "java/lang/IndexOutOfBoundsException", zk_695, List.mem_of_getElem? (i := 5) rfl⟩) ⟨by decide, by decide⟩ (by decide) zk_736 (List.mem_of_getElem? (i := 1) rfl) hce hcv hcl ?_
      refine z_astore C0 hl [(4, .ref q), (0, .ref (ad 0)), (1, .int (zI x0)), (2, .int (zI x1)), (3, .ref (ad 408))] (by decide) rfl dL_removeTunnel_17 (fun ls hl => ?_)
      refine z_iconst C0 dL_removeTunnel_19 ?_
      exact z_iret C0 Wd hret hlk (zR_mk (by decide) (by decide)) (Or.inr (Or.inr (⟨rfl, hp⟩))) dL_removeTunnel_20
theorem hs_tunnelDelay : zKH yL_tunnelDelay cL_tunnelDelay 5 [(0, 10, 13, 19), (0, 10, 17, 27)] 4 := ⟨zk_750, zk_749, zk_64, by decide, by decide, by decide +kernel⟩
theorem ch_tunnelDelay (l : Launch) (g : zG) (ad : Int → Nat) (M F : zMem) (x0 : Int) (x1 : Int) (P : Int → zMem → zMem → Prop) (T : String → zMem → zMem → Prop) (hM : zMx l yX11_tunnelDelay cX11_tunnelDelay 4 (some .int) 8 3 18 g 410 ad [.ref (ad 0), .int (zI x0), .int (zI x1)] M F (zPi P) T) (hE : ∀ E M' F', T E M' F' → E = "java/lang/IndexOutOfBoundsException" ∨ E = "java/util/NoSuchElementException") : hMt l yL_tunnelDelay cL_tunnelDelay 5 [(0, 10, 13, 19), (0, 10, 17, 27)] 9 3 18 g ad [.ref (ad 0), .int (zI x0), .int (zI x1), .ref (ad 408)] M F (zPi (fun k M' F' => (k = 0 ∧ ∃ r M1, zR r ∧ P r M1 F' ∧ M' = zu M1 408 0 r) ∨ (k = 1 ∧ T "java/lang/IndexOutOfBoundsException" M' F') ∨ (k = 2 ∧ T "java/util/NoSuchElementException" M' F'))) := by
  refine hMt.of "DrumWarrenLaw" rfl (by decide +kernel) (Nat.le_of_ble_eq_true rfl) (fun {p e s m args below meth c ls} C0 Wd hl hret hlk hst htab => ?_)
  have hl : lv_has ls 5 [(0, .ref (ad 0)), (1, .int (zI x0)), (2, .int (zI x1)), (3, .ref (ad 408))] := hl
  refine z_aload_n C0 hl 3 rfl dL_tunnelDelay_0 ?_
  refine z_iconst C0 dL_tunnelDelay_1 ?_
  refine z_aload_n C0 hl 0 rfl dL_tunnelDelay_2 ?_
  refine z_iload_n C0 hl 1 rfl dL_tunnelDelay_3 ?_
  refine z_iload_n C0 hl 2 rfl dL_tunnelDelay_4 ?_
  refine z_invVH (As := [.int (zI x0), .int (zI x1)]) (rest := [.int (zI 0), .ref (ad 408)]) C0 Wd hst hM kv_X11_tunnelDelay zN0 (zE_8 zK0) rfl zk_751 rfl hl.1 rfl (Nat.le_of_ble_eq_true rfl) (by decide) (by decide) dL_tunnelDelay_5 (fun v M1 F1 H locs hp Wd => ?_) (fun E M1 F1 H locs q ce hp Wd hce hcv hcl => ?_)
  · obtain ⟨r, rfl, hr, hp⟩ := hp
    refine z_i2l C0 hr dL_tunnelDelay_8 ?_
    refine z_last C0 Wd zN408 zK408 zL408 (by decide) (by decide) (by decide) hr dL_tunnelDelay_9 (fun H locs Wd => ?_)
    refine z_goto C0 (tgt := 21) dL_tunnelDelay_10 (by decide) ?_
    refine z_iconst C0 dL_tunnelDelay_21 ?_
    exact z_iret C0 Wd hret hlk (zR_mk (by decide) (by decide)) (Or.inl ⟨rfl, r, M1, hr, hp, rfl⟩) dL_tunnelDelay_22
  · rcases hE E M1 F1 hp with rfl | rfl
    · refine z_catch C0 htab [] (0, 10, 13, 19) [(0, 10, 17, 27)] rfl (fun _ h => nomatch h) ⟨by decide, by decide⟩ (by decide) zk_695 (List.mem_of_getElem? (i := 0) rfl) hce hcv hcl ?_
      refine z_astore C0 hl [(4, .ref q), (0, .ref (ad 0)), (1, .int (zI x0)), (2, .int (zI x1)), (3, .ref (ad 408))] (by decide) rfl dL_tunnelDelay_13 (fun ls hl => ?_)
      refine z_iconst C0 dL_tunnelDelay_15 ?_
      exact z_iret C0 Wd hret hlk (zR_mk (by decide) (by decide)) (Or.inr (Or.inl ⟨rfl, hp⟩)) dL_tunnelDelay_16
    · refine z_catch C0 htab [(0, 10, 13, 19)] (0, 10, 17, 27) [] rfl (by intro z hz; simp only [List.mem_cons, List.not_mem_nil, or_false] at hz; rcases hz with rfl <;> first | exact ⟨by decide, "java/lang/IndexOutOfBoundsException", zk_695, List.mem_of_getElem? (i := 5) rfl⟩) ⟨by decide, by decide⟩ (by decide) zk_736 (List.mem_of_getElem? (i := 1) rfl) hce hcv hcl ?_
      refine z_astore C0 hl [(4, .ref q), (0, .ref (ad 0)), (1, .int (zI x0)), (2, .int (zI x1)), (3, .ref (ad 408))] (by decide) rfl dL_tunnelDelay_17 (fun ls hl => ?_)
      refine z_iconst C0 dL_tunnelDelay_19 ?_
      exact z_iret C0 Wd hret hlk (zR_mk (by decide) (by decide)) (Or.inr (Or.inr (⟨rfl, hp⟩))) dL_tunnelDelay_20
theorem hs_shortestDelay : zKH yL_shortestDelay cL_shortestDelay 5 [(0, 10, 13, 19), (0, 10, 17, 27)] 4 := ⟨zk_764, zk_763, zk_64, by decide, by decide, by decide +kernel⟩
theorem ch_shortestDelay (l : Launch) (g : zG) (ad : Int → Nat) (M F : zMem) (x0 : Int) (x1 : Int) (P : Int → zMem → zMem → Prop) (T : String → zMem → zMem → Prop) (hM : zMx l yX11_shortestDelay cX11_shortestDelay 3 (some .int) 8 3 18 g 410 ad [.ref (ad 0), .int (zI x0), .int (zI x1)] M F (zPi P) T) (hE : ∀ E M' F', T E M' F' → E = "java/lang/IndexOutOfBoundsException" ∨ E = "java/util/NoSuchElementException") : hMt l yL_shortestDelay cL_shortestDelay 5 [(0, 10, 13, 19), (0, 10, 17, 27)] 9 3 18 g ad [.ref (ad 0), .int (zI x0), .int (zI x1), .ref (ad 408)] M F (zPi (fun k M' F' => (k = 0 ∧ ∃ r M1, zR r ∧ P r M1 F' ∧ M' = zu M1 408 0 r) ∨ (k = 1 ∧ T "java/lang/IndexOutOfBoundsException" M' F') ∨ (k = 2 ∧ T "java/util/NoSuchElementException" M' F'))) := by
  refine hMt.of "DrumWarrenLaw" rfl (by decide +kernel) (Nat.le_of_ble_eq_true rfl) (fun {p e s m args below meth c ls} C0 Wd hl hret hlk hst htab => ?_)
  have hl : lv_has ls 5 [(0, .ref (ad 0)), (1, .int (zI x0)), (2, .int (zI x1)), (3, .ref (ad 408))] := hl
  refine z_aload_n C0 hl 3 rfl dL_shortestDelay_0 ?_
  refine z_iconst C0 dL_shortestDelay_1 ?_
  refine z_aload_n C0 hl 0 rfl dL_shortestDelay_2 ?_
  refine z_iload_n C0 hl 1 rfl dL_shortestDelay_3 ?_
  refine z_iload_n C0 hl 2 rfl dL_shortestDelay_4 ?_
  refine z_invVH (As := [.int (zI x0), .int (zI x1)]) (rest := [.int (zI 0), .ref (ad 408)]) C0 Wd hst hM kv_X11_shortestDelay zN0 (zE_8 zK0) rfl zk_765 rfl hl.1 rfl (Nat.le_of_ble_eq_true rfl) (by decide) (by decide) dL_shortestDelay_5 (fun v M1 F1 H locs hp Wd => ?_) (fun E M1 F1 H locs q ce hp Wd hce hcv hcl => ?_)
  · obtain ⟨r, rfl, hr, hp⟩ := hp
    refine z_i2l C0 hr dL_shortestDelay_8 ?_
    refine z_last C0 Wd zN408 zK408 zL408 (by decide) (by decide) (by decide) hr dL_shortestDelay_9 (fun H locs Wd => ?_)
    refine z_goto C0 (tgt := 21) dL_shortestDelay_10 (by decide) ?_
    refine z_iconst C0 dL_shortestDelay_21 ?_
    exact z_iret C0 Wd hret hlk (zR_mk (by decide) (by decide)) (Or.inl ⟨rfl, r, M1, hr, hp, rfl⟩) dL_shortestDelay_22
  · rcases hE E M1 F1 hp with rfl | rfl
    · refine z_catch C0 htab [] (0, 10, 13, 19) [(0, 10, 17, 27)] rfl (fun _ h => nomatch h) ⟨by decide, by decide⟩ (by decide) zk_695 (List.mem_of_getElem? (i := 0) rfl) hce hcv hcl ?_
      refine z_astore C0 hl [(4, .ref q), (0, .ref (ad 0)), (1, .int (zI x0)), (2, .int (zI x1)), (3, .ref (ad 408))] (by decide) rfl dL_shortestDelay_13 (fun ls hl => ?_)
      refine z_iconst C0 dL_shortestDelay_15 ?_
      exact z_iret C0 Wd hret hlk (zR_mk (by decide) (by decide)) (Or.inr (Or.inl ⟨rfl, hp⟩)) dL_shortestDelay_16
    · refine z_catch C0 htab [(0, 10, 13, 19)] (0, 10, 17, 27) [] rfl (by intro z hz; simp only [List.mem_cons, List.not_mem_nil, or_false] at hz; rcases hz with rfl <;> first | exact ⟨by decide, "java/lang/IndexOutOfBoundsException", zk_695, List.mem_of_getElem? (i := 5) rfl⟩) ⟨by decide, by decide⟩ (by decide) zk_736 (List.mem_of_getElem? (i := 1) rfl) hce hcv hcl ?_
      refine z_astore C0 hl [(4, .ref q), (0, .ref (ad 0)), (1, .int (zI x0)), (2, .int (zI x1)), (3, .ref (ad 408))] (by decide) rfl dL_shortestDelay_17 (fun ls hl => ?_)
      refine z_iconst C0 dL_shortestDelay_19 ?_
      exact z_iret C0 Wd hret hlk (zR_mk (by decide) (by decide)) (Or.inr (Or.inr (⟨rfl, hp⟩))) dL_shortestDelay_20
theorem hs_shortestDelayBySearch : zKH yL_shortestDelayBySearch cL_shortestDelayBySearch 5 [(0, 10, 13, 19), (0, 10, 17, 27)] 4 := ⟨zk_776, zk_775, zk_64, by decide, by decide, by decide +kernel⟩
theorem ch_shortestDelayBySearch (l : Launch) (g : zG) (ad : Int → Nat) (M F : zMem) (x0 : Int) (x1 : Int) (P : Int → zMem → zMem → Prop) (T : String → zMem → zMem → Prop) (hM : zMx l yX11_shortestDelayBySearch cX11_shortestDelayBySearch 3 (some .int) 8 3 18 g 410 ad [.ref (ad 0), .int (zI x0), .int (zI x1)] M F (zPi P) T) (hE : ∀ E M' F', T E M' F' → E = "java/lang/IndexOutOfBoundsException" ∨ E = "java/util/NoSuchElementException") : hMt l yL_shortestDelayBySearch cL_shortestDelayBySearch 5 [(0, 10, 13, 19), (0, 10, 17, 27)] 9 3 18 g ad [.ref (ad 0), .int (zI x0), .int (zI x1), .ref (ad 408)] M F (zPi (fun k M' F' => (k = 0 ∧ ∃ r M1, zR r ∧ P r M1 F' ∧ M' = zu M1 408 0 r) ∨ (k = 1 ∧ T "java/lang/IndexOutOfBoundsException" M' F') ∨ (k = 2 ∧ T "java/util/NoSuchElementException" M' F'))) := by
  refine hMt.of "DrumWarrenLaw" rfl (by decide +kernel) (Nat.le_of_ble_eq_true rfl) (fun {p e s m args below meth c ls} C0 Wd hl hret hlk hst htab => ?_)
  have hl : lv_has ls 5 [(0, .ref (ad 0)), (1, .int (zI x0)), (2, .int (zI x1)), (3, .ref (ad 408))] := hl
  refine z_aload_n C0 hl 3 rfl dL_shortestDelayBySearch_0 ?_
  refine z_iconst C0 dL_shortestDelayBySearch_1 ?_
  refine z_aload_n C0 hl 0 rfl dL_shortestDelayBySearch_2 ?_
  refine z_iload_n C0 hl 1 rfl dL_shortestDelayBySearch_3 ?_
  refine z_iload_n C0 hl 2 rfl dL_shortestDelayBySearch_4 ?_
  refine z_invVH (As := [.int (zI x0), .int (zI x1)]) (rest := [.int (zI 0), .ref (ad 408)]) C0 Wd hst hM kv_X11_shortestDelayBySearch zN0 (zE_8 zK0) rfl zk_777 rfl hl.1 rfl (Nat.le_of_ble_eq_true rfl) (by decide) (by decide) dL_shortestDelayBySearch_5 (fun v M1 F1 H locs hp Wd => ?_) (fun E M1 F1 H locs q ce hp Wd hce hcv hcl => ?_)
  · obtain ⟨r, rfl, hr, hp⟩ := hp
    refine z_i2l C0 hr dL_shortestDelayBySearch_8 ?_
    refine z_last C0 Wd zN408 zK408 zL408 (by decide) (by decide) (by decide) hr dL_shortestDelayBySearch_9 (fun H locs Wd => ?_)
    refine z_goto C0 (tgt := 21) dL_shortestDelayBySearch_10 (by decide) ?_
    refine z_iconst C0 dL_shortestDelayBySearch_21 ?_
    exact z_iret C0 Wd hret hlk (zR_mk (by decide) (by decide)) (Or.inl ⟨rfl, r, M1, hr, hp, rfl⟩) dL_shortestDelayBySearch_22
  · rcases hE E M1 F1 hp with rfl | rfl
    · refine z_catch C0 htab [] (0, 10, 13, 19) [(0, 10, 17, 27)] rfl (fun _ h => nomatch h) ⟨by decide, by decide⟩ (by decide) zk_695 (List.mem_of_getElem? (i := 0) rfl) hce hcv hcl ?_
      refine z_astore C0 hl [(4, .ref q), (0, .ref (ad 0)), (1, .int (zI x0)), (2, .int (zI x1)), (3, .ref (ad 408))] (by decide) rfl dL_shortestDelayBySearch_13 (fun ls hl => ?_)
      refine z_iconst C0 dL_shortestDelayBySearch_15 ?_
      exact z_iret C0 Wd hret hlk (zR_mk (by decide) (by decide)) (Or.inr (Or.inl ⟨rfl, hp⟩)) dL_shortestDelayBySearch_16
    · refine z_catch C0 htab [(0, 10, 13, 19)] (0, 10, 17, 27) [] rfl (by intro z hz; simp only [List.mem_cons, List.not_mem_nil, or_false] at hz; rcases hz with rfl <;> first | exact ⟨by decide, "java/lang/IndexOutOfBoundsException", zk_695, List.mem_of_getElem? (i := 5) rfl⟩) ⟨by decide, by decide⟩ (by decide) zk_736 (List.mem_of_getElem? (i := 1) rfl) hce hcv hcl ?_
      refine z_astore C0 hl [(4, .ref q), (0, .ref (ad 0)), (1, .int (zI x0)), (2, .int (zI x1)), (3, .ref (ad 408))] (by decide) rfl dL_shortestDelayBySearch_17 (fun ls hl => ?_)
      refine z_iconst C0 dL_shortestDelayBySearch_19 ?_
      exact z_iret C0 Wd hret hlk (zR_mk (by decide) (by decide)) (Or.inr (Or.inr (⟨rfl, hp⟩))) dL_shortestDelayBySearch_20
theorem hs_loudness : zKH yL_loudness cL_loudness 5 [(0, 10, 13, 19)] 4 := ⟨zk_784, zk_783, zk_64, by decide, by decide, by decide +kernel⟩
theorem ch_loudness (l : Launch) (g : zG) (ad : Int → Nat) (M F : zMem) (x0 : Int) (x1 : Int) (P : UInt32 → zMem → zMem → Prop) (T : String → zMem → zMem → Prop) (hM : zMx l yX11_loudness cX11_loudness 3 (some .float) 8 2 12 g 410 ad [.ref (ad 0), .int (zI x0), .int (zI x1)] M F (zPf P) T) (hE : ∀ E M' F', T E M' F' → E = "java/lang/IndexOutOfBoundsException") (hN : ∀ r M' F', P r M' F' → vf_n64 (FP.f2d r)) : hMt l yL_loudness cL_loudness 5 [(0, 10, 13, 19)] 9 2 12 g ad [.ref (ad 0), .int (zI x0), .int (zI x1), .ref (ad 409)] M F (zPi (fun k M' F' => (k = 0 ∧ ∃ r F1, P r M' F1 ∧ F' = zu F1 409 0 (dbi (FP.f2d r))) ∨ (k = 1 ∧ T "java/lang/IndexOutOfBoundsException" M' F'))) := by
  refine hMt.of "DrumWarrenLaw" rfl (by decide +kernel) (Nat.le_of_ble_eq_true rfl) (fun {p e s m args below meth c ls} C0 Wd hl hret hlk hst htab => ?_)
  have hl : lv_has ls 5 [(0, .ref (ad 0)), (1, .int (zI x0)), (2, .int (zI x1)), (3, .ref (ad 409))] := hl
  refine z_aload_n C0 hl 3 rfl dL_loudness_0 ?_
  refine z_iconst C0 dL_loudness_1 ?_
  refine z_aload_n C0 hl 0 rfl dL_loudness_2 ?_
  refine z_iload_n C0 hl 1 rfl dL_loudness_3 ?_
  refine z_iload_n C0 hl 2 rfl dL_loudness_4 ?_
  refine z_invVH (As := [.int (zI x0), .int (zI x1)]) (rest := [.int (zI 0), .ref (ad 409)]) C0 Wd hst hM kv_X11_loudness zN0 (zE_8 zK0) rfl zk_785 rfl hl.1 rfl (Nat.le_of_ble_eq_true rfl) (by decide) (by decide) dL_loudness_5 (fun v M1 F1 H locs hp Wd => ?_) (fun E M1 F1 H locs q ce hp Wd hce hcv hcl => ?_)
  · obtain ⟨r, rfl, hp⟩ := hp
    refine z_f2d C0 (hN r M1 F1 hp) dL_loudness_8 ?_
    refine z_dast C0 Wd zN409 zK409 zL409 (by decide) (by decide) (by decide) dL_loudness_9 (fun H locs Wd => ?_)
    refine z_goto C0 (tgt := 17) dL_loudness_10 (by decide) ?_
    refine z_iconst C0 dL_loudness_17 ?_
    exact z_iret C0 Wd hret hlk (zR_mk (by decide) (by decide)) (Or.inl ⟨rfl, r, F1, hp, rfl⟩) dL_loudness_18
  · rcases hE E M1 F1 hp with rfl
    · refine z_catch C0 htab [] (0, 10, 13, 19) [] rfl (fun _ h => nomatch h) ⟨by decide, by decide⟩ (by decide) zk_695 (List.mem_of_getElem? (i := 0) rfl) hce hcv hcl ?_
      refine z_astore C0 hl [(4, .ref q), (0, .ref (ad 0)), (1, .int (zI x0)), (2, .int (zI x1)), (3, .ref (ad 409))] (by decide) rfl dL_loudness_13 (fun ls hl => ?_)
      refine z_iconst C0 dL_loudness_15 ?_
      exact z_iret C0 Wd hret hlk (zR_mk (by decide) (by decide)) (Or.inr (⟨rfl, hp⟩)) dL_loudness_16
theorem hs_loudnessBits : zKH yL_loudnessBits cL_loudnessBits 5 [(0, 10, 13, 19)] 4 := ⟨zk_794, zk_793, zk_64, by decide, by decide, by decide +kernel⟩
theorem ch_loudnessBits (l : Launch) (g : zG) (ad : Int → Nat) (M F : zMem) (x0 : Int) (x1 : Int) (P : Int → zMem → zMem → Prop) (T : String → zMem → zMem → Prop) (hM : zMx l yX11_loudnessBits cX11_loudnessBits 3 (some .int) 8 2 12 g 410 ad [.ref (ad 0), .int (zI x0), .int (zI x1)] M F (zPi P) T) (hE : ∀ E M' F', T E M' F' → E = "java/lang/IndexOutOfBoundsException") : hMt l yL_loudnessBits cL_loudnessBits 5 [(0, 10, 13, 19)] 9 2 12 g ad [.ref (ad 0), .int (zI x0), .int (zI x1), .ref (ad 408)] M F (zPi (fun k M' F' => (k = 0 ∧ ∃ r M1, zR r ∧ P r M1 F' ∧ M' = zu M1 408 0 r) ∨ (k = 1 ∧ T "java/lang/IndexOutOfBoundsException" M' F'))) := by
  refine hMt.of "DrumWarrenLaw" rfl (by decide +kernel) (Nat.le_of_ble_eq_true rfl) (fun {p e s m args below meth c ls} C0 Wd hl hret hlk hst htab => ?_)
  have hl : lv_has ls 5 [(0, .ref (ad 0)), (1, .int (zI x0)), (2, .int (zI x1)), (3, .ref (ad 408))] := hl
  refine z_aload_n C0 hl 3 rfl dL_loudnessBits_0 ?_
  refine z_iconst C0 dL_loudnessBits_1 ?_
  refine z_aload_n C0 hl 0 rfl dL_loudnessBits_2 ?_
  refine z_iload_n C0 hl 1 rfl dL_loudnessBits_3 ?_
  refine z_iload_n C0 hl 2 rfl dL_loudnessBits_4 ?_
  refine z_invVH (As := [.int (zI x0), .int (zI x1)]) (rest := [.int (zI 0), .ref (ad 408)]) C0 Wd hst hM kv_X11_loudnessBits zN0 (zE_8 zK0) rfl zk_795 rfl hl.1 rfl (Nat.le_of_ble_eq_true rfl) (by decide) (by decide) dL_loudnessBits_5 (fun v M1 F1 H locs hp Wd => ?_) (fun E M1 F1 H locs q ce hp Wd hce hcv hcl => ?_)
  · obtain ⟨r, rfl, hr, hp⟩ := hp
    refine z_i2l C0 hr dL_loudnessBits_8 ?_
    refine z_last C0 Wd zN408 zK408 zL408 (by decide) (by decide) (by decide) hr dL_loudnessBits_9 (fun H locs Wd => ?_)
    refine z_goto C0 (tgt := 17) dL_loudnessBits_10 (by decide) ?_
    refine z_iconst C0 dL_loudnessBits_17 ?_
    exact z_iret C0 Wd hret hlk (zR_mk (by decide) (by decide)) (Or.inl ⟨rfl, r, M1, hr, hp, rfl⟩) dL_loudnessBits_18
  · rcases hE E M1 F1 hp with rfl
    · refine z_catch C0 htab [] (0, 10, 13, 19) [] rfl (fun _ h => nomatch h) ⟨by decide, by decide⟩ (by decide) zk_695 (List.mem_of_getElem? (i := 0) rfl) hce hcv hcl ?_
      refine z_astore C0 hl [(4, .ref q), (0, .ref (ad 0)), (1, .int (zI x0)), (2, .int (zI x1)), (3, .ref (ad 408))] (by decide) rfl dL_loudnessBits_13 (fun ls hl => ?_)
      refine z_iconst C0 dL_loudnessBits_15 ?_
      exact z_iret C0 Wd hret hlk (zR_mk (by decide) (by decide)) (Or.inr (⟨rfl, hp⟩)) dL_loudnessBits_16
theorem hs_addHare : zKH yL_addHare cL_addHare 4 [(0, 9, 12, 19), (0, 9, 15, 13)] 3 := ⟨zk_805, zk_804, zk_64, by decide, by decide, by decide +kernel⟩
theorem ch_addHare (l : Launch) (g : zG) (ad : Int → Nat) (M F : zMem) (x0 : Int) (P : Int → zMem → zMem → Prop) (T : String → zMem → zMem → Prop) (hM : zMx l yX11_addHare cX11_addHare 2 (some .int) 8 1 6 g 410 ad [.ref (ad 0), .int (zI x0)] M F (zPi P) T) (hE : ∀ E M' F', T E M' F' → E = "java/lang/IndexOutOfBoundsException" ∨ E = "java/lang/IllegalStateException") : hMt l yL_addHare cL_addHare 4 [(0, 9, 12, 19), (0, 9, 15, 13)] 9 1 6 g ad [.ref (ad 0), .int (zI x0), .ref (ad 408)] M F (zPi (fun k M' F' => (k = 0 ∧ ∃ r M1, zR r ∧ P r M1 F' ∧ M' = zu M1 408 0 r) ∨ (k = 1 ∧ T "java/lang/IndexOutOfBoundsException" M' F') ∨ (k = 2 ∧ T "java/lang/IllegalStateException" M' F'))) := by
  refine hMt.of "DrumWarrenLaw" rfl (by decide +kernel) (Nat.le_of_ble_eq_true rfl) (fun {p e s m args below meth c ls} C0 Wd hl hret hlk hst htab => ?_)
  have hl : lv_has ls 4 [(0, .ref (ad 0)), (1, .int (zI x0)), (2, .ref (ad 408))] := hl
  refine z_aload_n C0 hl 2 rfl dL_addHare_0 ?_
  refine z_iconst C0 dL_addHare_1 ?_
  refine z_aload_n C0 hl 0 rfl dL_addHare_2 ?_
  refine z_iload_n C0 hl 1 rfl dL_addHare_3 ?_
  refine z_invVH (As := [.int (zI x0)]) (rest := [.int (zI 0), .ref (ad 408)]) C0 Wd hst hM kv_X11_addHare zN0 (zE_8 zK0) rfl zk_806 rfl hl.1 rfl (Nat.le_of_ble_eq_true rfl) (by decide) (by decide) dL_addHare_4 (fun v M1 F1 H locs hp Wd => ?_) (fun E M1 F1 H locs q ce hp Wd hce hcv hcl => ?_)
  · obtain ⟨r, rfl, hr, hp⟩ := hp
    refine z_i2l C0 hr dL_addHare_7 ?_
    refine z_last C0 Wd zN408 zK408 zL408 (by decide) (by decide) (by decide) hr dL_addHare_8 (fun H locs Wd => ?_)
    refine z_goto C0 (tgt := 18) dL_addHare_9 (by decide) ?_
    refine z_iconst C0 dL_addHare_18 ?_
    exact z_iret C0 Wd hret hlk (zR_mk (by decide) (by decide)) (Or.inl ⟨rfl, r, M1, hr, hp, rfl⟩) dL_addHare_19
  · rcases hE E M1 F1 hp with rfl | rfl
    · refine z_catch C0 htab [] (0, 9, 12, 19) [(0, 9, 15, 13)] rfl (fun _ h => nomatch h) ⟨by decide, by decide⟩ (by decide) zk_695 (List.mem_of_getElem? (i := 0) rfl) hce hcv hcl ?_
      refine z_astore_n C0 hl [(3, .ref q), (0, .ref (ad 0)), (1, .int (zI x0)), (2, .ref (ad 408))] (by decide) rfl dL_addHare_12 (fun ls hl => ?_)
      refine z_iconst C0 dL_addHare_13 ?_
      exact z_iret C0 Wd hret hlk (zR_mk (by decide) (by decide)) (Or.inr (Or.inl ⟨rfl, hp⟩)) dL_addHare_14
    · refine z_catch C0 htab [(0, 9, 12, 19)] (0, 9, 15, 13) [] rfl (by intro z hz; simp only [List.mem_cons, List.not_mem_nil, or_false] at hz; rcases hz with rfl <;> first | exact ⟨by decide, "java/lang/IndexOutOfBoundsException", zk_695, List.mem_of_getElem? (i := 15) rfl⟩) ⟨by decide, by decide⟩ (by decide) zk_536 (List.mem_of_getElem? (i := 3) rfl) hce hcv hcl ?_
      refine z_astore_n C0 hl [(3, .ref q), (0, .ref (ad 0)), (1, .int (zI x0)), (2, .ref (ad 408))] (by decide) rfl dL_addHare_15 (fun ls hl => ?_)
      refine z_iconst C0 dL_addHare_16 ?_
      exact z_iret C0 Wd hret hlk (zR_mk (by decide) (by decide)) (Or.inr (Or.inr (⟨rfl, hp⟩))) dL_addHare_17
theorem hs_move : zKH yL_move cL_move 5 [(0, 10, 13, 19), (0, 10, 17, 13)] 4 := ⟨zk_820, zk_819, zk_64, by decide, by decide, by decide +kernel⟩
theorem ch_move (l : Launch) (g : zG) (ad : Int → Nat) (M F : zMem) (x0 : Int) (x1 : Int) (P : Int → zMem → zMem → Prop) (T : String → zMem → zMem → Prop) (hM : zMx l yX11_move cX11_move 4 (some .int) 8 1 6 g 410 ad [.ref (ad 0), .int (zI x0), .int (zI x1)] M F (zPi P) T) (hE : ∀ E M' F', T E M' F' → E = "java/lang/IndexOutOfBoundsException" ∨ E = "java/lang/IllegalStateException") : hMt l yL_move cL_move 5 [(0, 10, 13, 19), (0, 10, 17, 13)] 9 1 6 g ad [.ref (ad 0), .int (zI x0), .int (zI x1), .ref (ad 408)] M F (zPi (fun k M' F' => (k = 0 ∧ ∃ r M1, zR r ∧ P r M1 F' ∧ M' = zu M1 408 0 r) ∨ (k = 1 ∧ T "java/lang/IndexOutOfBoundsException" M' F') ∨ (k = 2 ∧ T "java/lang/IllegalStateException" M' F'))) := by
  refine hMt.of "DrumWarrenLaw" rfl (by decide +kernel) (Nat.le_of_ble_eq_true rfl) (fun {p e s m args below meth c ls} C0 Wd hl hret hlk hst htab => ?_)
  have hl : lv_has ls 5 [(0, .ref (ad 0)), (1, .int (zI x0)), (2, .int (zI x1)), (3, .ref (ad 408))] := hl
  refine z_aload_n C0 hl 3 rfl dL_move_0 ?_
  refine z_iconst C0 dL_move_1 ?_
  refine z_aload_n C0 hl 0 rfl dL_move_2 ?_
  refine z_iload_n C0 hl 1 rfl dL_move_3 ?_
  refine z_iload_n C0 hl 2 rfl dL_move_4 ?_
  refine z_invVH (As := [.int (zI x0), .int (zI x1)]) (rest := [.int (zI 0), .ref (ad 408)]) C0 Wd hst hM kv_X11_move zN0 (zE_8 zK0) rfl zk_821 rfl hl.1 rfl (Nat.le_of_ble_eq_true rfl) (by decide) (by decide) dL_move_5 (fun v M1 F1 H locs hp Wd => ?_) (fun E M1 F1 H locs q ce hp Wd hce hcv hcl => ?_)
  · obtain ⟨r, rfl, hr, hp⟩ := hp
    refine z_i2l C0 hr dL_move_8 ?_
    refine z_last C0 Wd zN408 zK408 zL408 (by decide) (by decide) (by decide) hr dL_move_9 (fun H locs Wd => ?_)
    refine z_goto C0 (tgt := 21) dL_move_10 (by decide) ?_
    refine z_iconst C0 dL_move_21 ?_
    exact z_iret C0 Wd hret hlk (zR_mk (by decide) (by decide)) (Or.inl ⟨rfl, r, M1, hr, hp, rfl⟩) dL_move_22
  · rcases hE E M1 F1 hp with rfl | rfl
    · refine z_catch C0 htab [] (0, 10, 13, 19) [(0, 10, 17, 13)] rfl (fun _ h => nomatch h) ⟨by decide, by decide⟩ (by decide) zk_695 (List.mem_of_getElem? (i := 0) rfl) hce hcv hcl ?_
      refine z_astore C0 hl [(4, .ref q), (0, .ref (ad 0)), (1, .int (zI x0)), (2, .int (zI x1)), (3, .ref (ad 408))] (by decide) rfl dL_move_13 (fun ls hl => ?_)
      refine z_iconst C0 dL_move_15 ?_
      exact z_iret C0 Wd hret hlk (zR_mk (by decide) (by decide)) (Or.inr (Or.inl ⟨rfl, hp⟩)) dL_move_16
    · refine z_catch C0 htab [(0, 10, 13, 19)] (0, 10, 17, 13) [] rfl (by intro z hz; simp only [List.mem_cons, List.not_mem_nil, or_false] at hz; rcases hz with rfl <;> first | exact ⟨by decide, "java/lang/IndexOutOfBoundsException", zk_695, List.mem_of_getElem? (i := 15) rfl⟩) ⟨by decide, by decide⟩ (by decide) zk_536 (List.mem_of_getElem? (i := 3) rfl) hce hcv hcl ?_
      refine z_astore C0 hl [(4, .ref q), (0, .ref (ad 0)), (1, .int (zI x0)), (2, .int (zI x1)), (3, .ref (ad 408))] (by decide) rfl dL_move_17 (fun ls hl => ?_)
      refine z_iconst C0 dL_move_19 ?_
      exact z_iret C0 Wd hret hlk (zR_mk (by decide) (by decide)) (Or.inr (Or.inr (⟨rfl, hp⟩))) dL_move_20
theorem hs_setListening : zKH yL_setListening cL_setListening 5 [(0, 17, 20, 19)] 4 := ⟨zk_836, zk_835, zk_64, by decide, by decide, by decide +kernel⟩
theorem ch_setListening (l : Launch) (g : zG) (ad : Int → Nat) (M F : zMem) (x0 : Int) (x1 : Int) (P : Int → zMem → zMem → Prop) (T : String → zMem → zMem → Prop) (hM : zMx l yX11_setListening cX11_setListening 4 (some .boolean) 8 1 6 g 410 ad [.ref (ad 0), .int (zI x0), .int (zI x1)] M F (zPi P) T) (hE : ∀ E M' F', T E M' F' → E = "java/lang/IndexOutOfBoundsException") (hB : ∀ r M' F', P r M' F' → r = 0 ∨ r = 1) : hMt l yL_setListening cL_setListening 5 [(0, 17, 20, 19)] 9 1 6 g ad [.ref (ad 0), .int (zI x0), .int (zI x1), .ref (ad 408)] M F (zPi (fun k M' F' => (k = 0 ∧ ∃ r M1, zR r ∧ P r M1 F' ∧ M' = zu M1 408 0 r) ∨ (k = 1 ∧ T "java/lang/IndexOutOfBoundsException" M' F'))) := by
  refine hMt.of "DrumWarrenLaw" rfl (by decide +kernel) (Nat.le_of_ble_eq_true rfl) (fun {p e s m args below meth c ls} C0 Wd hl hret hlk hst htab => ?_)
  have hl : lv_has ls 5 [(0, .ref (ad 0)), (1, .int (zI x0)), (2, .int (zI x1)), (3, .ref (ad 408))] := hl
  refine z_aload_n C0 hl 3 rfl dL_setListening_0 ?_
  refine z_iconst C0 dL_setListening_1 ?_
  refine z_aload_n C0 hl 0 rfl dL_setListening_2 ?_
  refine z_iload_n C0 hl 1 rfl dL_setListening_3 ?_
  refine z_iload_n C0 hl 2 rfl dL_setListening_4 ?_
  refine z_invVH (As := [.int (zI x0), .int (zI x1)]) (rest := [.int (zI 0), .ref (ad 408)]) C0 Wd hst hM kv_X11_setListening zN0 (zE_8 zK0) rfl zk_837 rfl hl.1 rfl (Nat.le_of_ble_eq_true rfl) (by decide) (by decide) dL_setListening_5 (fun v M1 F1 H locs hp Wd => ?_) (fun E M1 F1 H locs q ce hp Wd hce hcv hcl => ?_)
  · obtain ⟨r, rfl, hr, hp⟩ := hp
    rcases hB r M1 F1 hp with rfl | rfl
    · refine z_if_eq C0 (tgt := 15) (zR_mk (by decide) (by decide)) dL_setListening_8 (by decide) (fun _ => ?_) (fun h => absurd rfl h)
      refine z_lconst C0 0 dL_setListening_15 rfl ?_
      refine z_last C0 Wd zN408 zK408 zL408 (by decide) (by decide) (by decide) hr dL_setListening_16 (fun H locs Wd => ?_)
      refine z_goto C0 (tgt := 24) dL_setListening_17 (by decide) ?_
      refine z_iconst C0 dL_setListening_24 ?_
      exact z_iret C0 Wd hret hlk (zR_mk (by decide) (by decide)) (Or.inl ⟨rfl, 0, M1, hr, hp, rfl⟩) dL_setListening_25
    · refine z_if_eq C0 (tgt := 15) (zR_mk (by decide) (by decide)) dL_setListening_8 (by decide) (fun h => absurd h (by decide)) (fun _ => ?_)
      refine z_lconst C0 1 dL_setListening_11 rfl ?_
      refine z_goto C0 (tgt := 16) dL_setListening_12 (by decide) ?_
      refine z_last C0 Wd zN408 zK408 zL408 (by decide) (by decide) (by decide) hr dL_setListening_16 (fun H locs Wd => ?_)
      refine z_goto C0 (tgt := 24) dL_setListening_17 (by decide) ?_
      refine z_iconst C0 dL_setListening_24 ?_
      exact z_iret C0 Wd hret hlk (zR_mk (by decide) (by decide)) (Or.inl ⟨rfl, 1, M1, hr, hp, rfl⟩) dL_setListening_25
  · rcases hE E M1 F1 hp with rfl
    · refine z_catch C0 htab [] (0, 17, 20, 19) [] rfl (fun _ h => nomatch h) ⟨by decide, by decide⟩ (by decide) zk_695 (List.mem_of_getElem? (i := 0) rfl) hce hcv hcl ?_
      refine z_astore C0 hl [(4, .ref q), (0, .ref (ad 0)), (1, .int (zI x0)), (2, .int (zI x1)), (3, .ref (ad 408))] (by decide) rfl dL_setListening_20 (fun ls hl => ?_)
      refine z_iconst C0 dL_setListening_22 ?_
      exact z_iret C0 Wd hret hlk (zR_mk (by decide) (by decide)) (Or.inr (⟨rfl, hp⟩)) dL_setListening_23
theorem hs_chamberOf : zKH yL_chamberOf cL_chamberOf 4 [(0, 9, 12, 19)] 3 := ⟨zk_851, zk_850, zk_64, by decide, by decide, by decide +kernel⟩
theorem ch_chamberOf (l : Launch) (g : zG) (ad : Int → Nat) (M F : zMem) (x0 : Int) (P : Int → zMem → zMem → Prop) (T : String → zMem → zMem → Prop) (hM : zMx l yX11_chamberOf cX11_chamberOf 2 (some .int) 8 1 6 g 410 ad [.ref (ad 0), .int (zI x0)] M F (zPi P) T) (hE : ∀ E M' F', T E M' F' → E = "java/lang/IndexOutOfBoundsException") : hMt l yL_chamberOf cL_chamberOf 4 [(0, 9, 12, 19)] 9 1 6 g ad [.ref (ad 0), .int (zI x0), .ref (ad 408)] M F (zPi (fun k M' F' => (k = 0 ∧ ∃ r M1, zR r ∧ P r M1 F' ∧ M' = zu M1 408 0 r) ∨ (k = 1 ∧ T "java/lang/IndexOutOfBoundsException" M' F'))) := by
  refine hMt.of "DrumWarrenLaw" rfl (by decide +kernel) (Nat.le_of_ble_eq_true rfl) (fun {p e s m args below meth c ls} C0 Wd hl hret hlk hst htab => ?_)
  have hl : lv_has ls 4 [(0, .ref (ad 0)), (1, .int (zI x0)), (2, .ref (ad 408))] := hl
  refine z_aload_n C0 hl 2 rfl dL_chamberOf_0 ?_
  refine z_iconst C0 dL_chamberOf_1 ?_
  refine z_aload_n C0 hl 0 rfl dL_chamberOf_2 ?_
  refine z_iload_n C0 hl 1 rfl dL_chamberOf_3 ?_
  refine z_invVH (As := [.int (zI x0)]) (rest := [.int (zI 0), .ref (ad 408)]) C0 Wd hst hM kv_X11_chamberOf zN0 (zE_8 zK0) rfl zk_852 rfl hl.1 rfl (Nat.le_of_ble_eq_true rfl) (by decide) (by decide) dL_chamberOf_4 (fun v M1 F1 H locs hp Wd => ?_) (fun E M1 F1 H locs q ce hp Wd hce hcv hcl => ?_)
  · obtain ⟨r, rfl, hr, hp⟩ := hp
    refine z_i2l C0 hr dL_chamberOf_7 ?_
    refine z_last C0 Wd zN408 zK408 zL408 (by decide) (by decide) (by decide) hr dL_chamberOf_8 (fun H locs Wd => ?_)
    refine z_goto C0 (tgt := 15) dL_chamberOf_9 (by decide) ?_
    refine z_iconst C0 dL_chamberOf_15 ?_
    exact z_iret C0 Wd hret hlk (zR_mk (by decide) (by decide)) (Or.inl ⟨rfl, r, M1, hr, hp, rfl⟩) dL_chamberOf_16
  · rcases hE E M1 F1 hp with rfl
    · refine z_catch C0 htab [] (0, 9, 12, 19) [] rfl (fun _ h => nomatch h) ⟨by decide, by decide⟩ (by decide) zk_695 (List.mem_of_getElem? (i := 0) rfl) hce hcv hcl ?_
      refine z_astore_n C0 hl [(3, .ref q), (0, .ref (ad 0)), (1, .int (zI x0)), (2, .ref (ad 408))] (by decide) rfl dL_chamberOf_12 (fun ls hl => ?_)
      refine z_iconst C0 dL_chamberOf_13 ?_
      exact z_iret C0 Wd hret hlk (zR_mk (by decide) (by decide)) (Or.inr (⟨rfl, hp⟩)) dL_chamberOf_14
theorem hs_isListening : zKH yL_isListening cL_isListening 4 [(0, 16, 19, 19)] 3 := ⟨zk_864, zk_863, zk_64, by decide, by decide, by decide +kernel⟩
theorem ch_isListening (l : Launch) (g : zG) (ad : Int → Nat) (M F : zMem) (x0 : Int) (P : Int → zMem → zMem → Prop) (T : String → zMem → zMem → Prop) (hM : zMx l yX11_isListening cX11_isListening 2 (some .boolean) 8 1 6 g 410 ad [.ref (ad 0), .int (zI x0)] M F (zPi P) T) (hE : ∀ E M' F', T E M' F' → E = "java/lang/IndexOutOfBoundsException") (hB : ∀ r M' F', P r M' F' → r = 0 ∨ r = 1) : hMt l yL_isListening cL_isListening 4 [(0, 16, 19, 19)] 9 1 6 g ad [.ref (ad 0), .int (zI x0), .ref (ad 408)] M F (zPi (fun k M' F' => (k = 0 ∧ ∃ r M1, zR r ∧ P r M1 F' ∧ M' = zu M1 408 0 r) ∨ (k = 1 ∧ T "java/lang/IndexOutOfBoundsException" M' F'))) := by
  refine hMt.of "DrumWarrenLaw" rfl (by decide +kernel) (Nat.le_of_ble_eq_true rfl) (fun {p e s m args below meth c ls} C0 Wd hl hret hlk hst htab => ?_)
  have hl : lv_has ls 4 [(0, .ref (ad 0)), (1, .int (zI x0)), (2, .ref (ad 408))] := hl
  refine z_aload_n C0 hl 2 rfl dL_isListening_0 ?_
  refine z_iconst C0 dL_isListening_1 ?_
  refine z_aload_n C0 hl 0 rfl dL_isListening_2 ?_
  refine z_iload_n C0 hl 1 rfl dL_isListening_3 ?_
  refine z_invVH (As := [.int (zI x0)]) (rest := [.int (zI 0), .ref (ad 408)]) C0 Wd hst hM kv_X11_isListening zN0 (zE_8 zK0) rfl zk_865 rfl hl.1 rfl (Nat.le_of_ble_eq_true rfl) (by decide) (by decide) dL_isListening_4 (fun v M1 F1 H locs hp Wd => ?_) (fun E M1 F1 H locs q ce hp Wd hce hcv hcl => ?_)
  · obtain ⟨r, rfl, hr, hp⟩ := hp
    rcases hB r M1 F1 hp with rfl | rfl
    · refine z_if_eq C0 (tgt := 14) (zR_mk (by decide) (by decide)) dL_isListening_7 (by decide) (fun _ => ?_) (fun h => absurd rfl h)
      refine z_lconst C0 0 dL_isListening_14 rfl ?_
      refine z_last C0 Wd zN408 zK408 zL408 (by decide) (by decide) (by decide) hr dL_isListening_15 (fun H locs Wd => ?_)
      refine z_goto C0 (tgt := 22) dL_isListening_16 (by decide) ?_
      refine z_iconst C0 dL_isListening_22 ?_
      exact z_iret C0 Wd hret hlk (zR_mk (by decide) (by decide)) (Or.inl ⟨rfl, 0, M1, hr, hp, rfl⟩) dL_isListening_23
    · refine z_if_eq C0 (tgt := 14) (zR_mk (by decide) (by decide)) dL_isListening_7 (by decide) (fun h => absurd h (by decide)) (fun _ => ?_)
      refine z_lconst C0 1 dL_isListening_10 rfl ?_
      refine z_goto C0 (tgt := 15) dL_isListening_11 (by decide) ?_
      refine z_last C0 Wd zN408 zK408 zL408 (by decide) (by decide) (by decide) hr dL_isListening_15 (fun H locs Wd => ?_)
      refine z_goto C0 (tgt := 22) dL_isListening_16 (by decide) ?_
      refine z_iconst C0 dL_isListening_22 ?_
      exact z_iret C0 Wd hret hlk (zR_mk (by decide) (by decide)) (Or.inl ⟨rfl, 1, M1, hr, hp, rfl⟩) dL_isListening_23
  · rcases hE E M1 F1 hp with rfl
    · refine z_catch C0 htab [] (0, 16, 19, 19) [] rfl (fun _ h => nomatch h) ⟨by decide, by decide⟩ (by decide) zk_695 (List.mem_of_getElem? (i := 0) rfl) hce hcv hcl ?_
      refine z_astore_n C0 hl [(3, .ref q), (0, .ref (ad 0)), (1, .int (zI x0)), (2, .ref (ad 408))] (by decide) rfl dL_isListening_19 (fun ls hl => ?_)
      refine z_iconst C0 dL_isListening_20 ?_
      exact z_iret C0 Wd hret hlk (zR_mk (by decide) (by decide)) (Or.inr (⟨rfl, hp⟩)) dL_isListening_21
theorem hs_isDrumming : zKH yL_isDrumming cL_isDrumming 4 [(0, 16, 19, 19)] 3 := ⟨zk_871, zk_870, zk_64, by decide, by decide, by decide +kernel⟩
theorem ch_isDrumming (l : Launch) (g : zG) (ad : Int → Nat) (M F : zMem) (x0 : Int) (P : Int → zMem → zMem → Prop) (T : String → zMem → zMem → Prop) (hM : zMx l yX11_isDrumming cX11_isDrumming 2 (some .boolean) 8 1 6 g 410 ad [.ref (ad 0), .int (zI x0)] M F (zPi P) T) (hE : ∀ E M' F', T E M' F' → E = "java/lang/IndexOutOfBoundsException") (hB : ∀ r M' F', P r M' F' → r = 0 ∨ r = 1) : hMt l yL_isDrumming cL_isDrumming 4 [(0, 16, 19, 19)] 9 1 6 g ad [.ref (ad 0), .int (zI x0), .ref (ad 408)] M F (zPi (fun k M' F' => (k = 0 ∧ ∃ r M1, zR r ∧ P r M1 F' ∧ M' = zu M1 408 0 r) ∨ (k = 1 ∧ T "java/lang/IndexOutOfBoundsException" M' F'))) := by
  refine hMt.of "DrumWarrenLaw" rfl (by decide +kernel) (Nat.le_of_ble_eq_true rfl) (fun {p e s m args below meth c ls} C0 Wd hl hret hlk hst htab => ?_)
  have hl : lv_has ls 4 [(0, .ref (ad 0)), (1, .int (zI x0)), (2, .ref (ad 408))] := hl
  refine z_aload_n C0 hl 2 rfl dL_isDrumming_0 ?_
  refine z_iconst C0 dL_isDrumming_1 ?_
  refine z_aload_n C0 hl 0 rfl dL_isDrumming_2 ?_
  refine z_iload_n C0 hl 1 rfl dL_isDrumming_3 ?_
  refine z_invVH (As := [.int (zI x0)]) (rest := [.int (zI 0), .ref (ad 408)]) C0 Wd hst hM kv_X11_isDrumming zN0 (zE_8 zK0) rfl zk_872 rfl hl.1 rfl (Nat.le_of_ble_eq_true rfl) (by decide) (by decide) dL_isDrumming_4 (fun v M1 F1 H locs hp Wd => ?_) (fun E M1 F1 H locs q ce hp Wd hce hcv hcl => ?_)
  · obtain ⟨r, rfl, hr, hp⟩ := hp
    rcases hB r M1 F1 hp with rfl | rfl
    · refine z_if_eq C0 (tgt := 14) (zR_mk (by decide) (by decide)) dL_isDrumming_7 (by decide) (fun _ => ?_) (fun h => absurd rfl h)
      refine z_lconst C0 0 dL_isDrumming_14 rfl ?_
      refine z_last C0 Wd zN408 zK408 zL408 (by decide) (by decide) (by decide) hr dL_isDrumming_15 (fun H locs Wd => ?_)
      refine z_goto C0 (tgt := 22) dL_isDrumming_16 (by decide) ?_
      refine z_iconst C0 dL_isDrumming_22 ?_
      exact z_iret C0 Wd hret hlk (zR_mk (by decide) (by decide)) (Or.inl ⟨rfl, 0, M1, hr, hp, rfl⟩) dL_isDrumming_23
    · refine z_if_eq C0 (tgt := 14) (zR_mk (by decide) (by decide)) dL_isDrumming_7 (by decide) (fun h => absurd h (by decide)) (fun _ => ?_)
      refine z_lconst C0 1 dL_isDrumming_10 rfl ?_
      refine z_goto C0 (tgt := 15) dL_isDrumming_11 (by decide) ?_
      refine z_last C0 Wd zN408 zK408 zL408 (by decide) (by decide) (by decide) hr dL_isDrumming_15 (fun H locs Wd => ?_)
      refine z_goto C0 (tgt := 22) dL_isDrumming_16 (by decide) ?_
      refine z_iconst C0 dL_isDrumming_22 ?_
      exact z_iret C0 Wd hret hlk (zR_mk (by decide) (by decide)) (Or.inl ⟨rfl, 1, M1, hr, hp, rfl⟩) dL_isDrumming_23
  · rcases hE E M1 F1 hp with rfl
    · refine z_catch C0 htab [] (0, 16, 19, 19) [] rfl (fun _ h => nomatch h) ⟨by decide, by decide⟩ (by decide) zk_695 (List.mem_of_getElem? (i := 0) rfl) hce hcv hcl ?_
      refine z_astore_n C0 hl [(3, .ref q), (0, .ref (ad 0)), (1, .int (zI x0)), (2, .ref (ad 408))] (by decide) rfl dL_isDrumming_19 (fun ls hl => ?_)
      refine z_iconst C0 dL_isDrumming_20 ?_
      exact z_iret C0 Wd hret hlk (zR_mk (by decide) (by decide)) (Or.inr (⟨rfl, hp⟩)) dL_isDrumming_21
theorem hs_received : zKH yL_received cL_received 4 [(0, 9, 12, 19)] 3 := ⟨zk_879, zk_878, zk_64, by decide, by decide, by decide +kernel⟩
theorem ch_received (l : Launch) (g : zG) (ad : Int → Nat) (M F : zMem) (x0 : Int) (P : Int → zMem → zMem → Prop) (T : String → zMem → zMem → Prop) (hM : zMx l yX11_received cX11_received 2 (some .int) 8 1 6 g 410 ad [.ref (ad 0), .int (zI x0)] M F (zPi P) T) (hE : ∀ E M' F', T E M' F' → E = "java/lang/IndexOutOfBoundsException") : hMt l yL_received cL_received 4 [(0, 9, 12, 19)] 9 1 6 g ad [.ref (ad 0), .int (zI x0), .ref (ad 408)] M F (zPi (fun k M' F' => (k = 0 ∧ ∃ r M1, zR r ∧ P r M1 F' ∧ M' = zu M1 408 0 r) ∨ (k = 1 ∧ T "java/lang/IndexOutOfBoundsException" M' F'))) := by
  refine hMt.of "DrumWarrenLaw" rfl (by decide +kernel) (Nat.le_of_ble_eq_true rfl) (fun {p e s m args below meth c ls} C0 Wd hl hret hlk hst htab => ?_)
  have hl : lv_has ls 4 [(0, .ref (ad 0)), (1, .int (zI x0)), (2, .ref (ad 408))] := hl
  refine z_aload_n C0 hl 2 rfl dL_received_0 ?_
  refine z_iconst C0 dL_received_1 ?_
  refine z_aload_n C0 hl 0 rfl dL_received_2 ?_
  refine z_iload_n C0 hl 1 rfl dL_received_3 ?_
  refine z_invVH (As := [.int (zI x0)]) (rest := [.int (zI 0), .ref (ad 408)]) C0 Wd hst hM kv_X11_received zN0 (zE_8 zK0) rfl zk_880 rfl hl.1 rfl (Nat.le_of_ble_eq_true rfl) (by decide) (by decide) dL_received_4 (fun v M1 F1 H locs hp Wd => ?_) (fun E M1 F1 H locs q ce hp Wd hce hcv hcl => ?_)
  · obtain ⟨r, rfl, hr, hp⟩ := hp
    refine z_i2l C0 hr dL_received_7 ?_
    refine z_last C0 Wd zN408 zK408 zL408 (by decide) (by decide) (by decide) hr dL_received_8 (fun H locs Wd => ?_)
    refine z_goto C0 (tgt := 15) dL_received_9 (by decide) ?_
    refine z_iconst C0 dL_received_15 ?_
    exact z_iret C0 Wd hret hlk (zR_mk (by decide) (by decide)) (Or.inl ⟨rfl, r, M1, hr, hp, rfl⟩) dL_received_16
  · rcases hE E M1 F1 hp with rfl
    · refine z_catch C0 htab [] (0, 9, 12, 19) [] rfl (fun _ h => nomatch h) ⟨by decide, by decide⟩ (by decide) zk_695 (List.mem_of_getElem? (i := 0) rfl) hce hcv hcl ?_
      refine z_astore_n C0 hl [(3, .ref q), (0, .ref (ad 0)), (1, .int (zI x0)), (2, .ref (ad 408))] (by decide) rfl dL_received_12 (fun ls hl => ?_)
      refine z_iconst C0 dL_received_13 ?_
      exact z_iret C0 Wd hret hlk (zR_mk (by decide) (by decide)) (Or.inr (⟨rfl, hp⟩)) dL_received_14
theorem hs_latestNumber : zKH yL_latestNumber cL_latestNumber 4 [(0, 9, 12, 19), (0, 9, 15, 27)] 3 := ⟨zk_890, zk_889, zk_64, by decide, by decide, by decide +kernel⟩
theorem ch_latestNumber (l : Launch) (g : zG) (ad : Int → Nat) (M F : zMem) (x0 : Int) (P : Int → zMem → zMem → Prop) (T : String → zMem → zMem → Prop) (hM : zMx l yX11_latestNumber cX11_latestNumber 3 (some .int) 8 2 12 g 410 ad [.ref (ad 0), .int (zI x0)] M F (zPi P) T) (hE : ∀ E M' F', T E M' F' → E = "java/lang/IndexOutOfBoundsException" ∨ E = "java/util/NoSuchElementException") : hMt l yL_latestNumber cL_latestNumber 4 [(0, 9, 12, 19), (0, 9, 15, 27)] 9 2 12 g ad [.ref (ad 0), .int (zI x0), .ref (ad 408)] M F (zPi (fun k M' F' => (k = 0 ∧ ∃ r M1, zR r ∧ P r M1 F' ∧ M' = zu M1 408 0 r) ∨ (k = 1 ∧ T "java/lang/IndexOutOfBoundsException" M' F') ∨ (k = 2 ∧ T "java/util/NoSuchElementException" M' F'))) := by
  refine hMt.of "DrumWarrenLaw" rfl (by decide +kernel) (Nat.le_of_ble_eq_true rfl) (fun {p e s m args below meth c ls} C0 Wd hl hret hlk hst htab => ?_)
  have hl : lv_has ls 4 [(0, .ref (ad 0)), (1, .int (zI x0)), (2, .ref (ad 408))] := hl
  refine z_aload_n C0 hl 2 rfl dL_latestNumber_0 ?_
  refine z_iconst C0 dL_latestNumber_1 ?_
  refine z_aload_n C0 hl 0 rfl dL_latestNumber_2 ?_
  refine z_iload_n C0 hl 1 rfl dL_latestNumber_3 ?_
  refine z_invVH (As := [.int (zI x0)]) (rest := [.int (zI 0), .ref (ad 408)]) C0 Wd hst hM kv_X11_latestNumber zN0 (zE_8 zK0) rfl zk_891 rfl hl.1 rfl (Nat.le_of_ble_eq_true rfl) (by decide) (by decide) dL_latestNumber_4 (fun v M1 F1 H locs hp Wd => ?_) (fun E M1 F1 H locs q ce hp Wd hce hcv hcl => ?_)
  · obtain ⟨r, rfl, hr, hp⟩ := hp
    refine z_i2l C0 hr dL_latestNumber_7 ?_
    refine z_last C0 Wd zN408 zK408 zL408 (by decide) (by decide) (by decide) hr dL_latestNumber_8 (fun H locs Wd => ?_)
    refine z_goto C0 (tgt := 18) dL_latestNumber_9 (by decide) ?_
    refine z_iconst C0 dL_latestNumber_18 ?_
    exact z_iret C0 Wd hret hlk (zR_mk (by decide) (by decide)) (Or.inl ⟨rfl, r, M1, hr, hp, rfl⟩) dL_latestNumber_19
  · rcases hE E M1 F1 hp with rfl | rfl
    · refine z_catch C0 htab [] (0, 9, 12, 19) [(0, 9, 15, 27)] rfl (fun _ h => nomatch h) ⟨by decide, by decide⟩ (by decide) zk_695 (List.mem_of_getElem? (i := 0) rfl) hce hcv hcl ?_
      refine z_astore_n C0 hl [(3, .ref q), (0, .ref (ad 0)), (1, .int (zI x0)), (2, .ref (ad 408))] (by decide) rfl dL_latestNumber_12 (fun ls hl => ?_)
      refine z_iconst C0 dL_latestNumber_13 ?_
      exact z_iret C0 Wd hret hlk (zR_mk (by decide) (by decide)) (Or.inr (Or.inl ⟨rfl, hp⟩)) dL_latestNumber_14
    · refine z_catch C0 htab [(0, 9, 12, 19)] (0, 9, 15, 27) [] rfl (by intro z hz; simp only [List.mem_cons, List.not_mem_nil, or_false] at hz; rcases hz with rfl <;> first | exact ⟨by decide, "java/lang/IndexOutOfBoundsException", zk_695, List.mem_of_getElem? (i := 5) rfl⟩) ⟨by decide, by decide⟩ (by decide) zk_736 (List.mem_of_getElem? (i := 1) rfl) hce hcv hcl ?_
      refine z_astore_n C0 hl [(3, .ref q), (0, .ref (ad 0)), (1, .int (zI x0)), (2, .ref (ad 408))] (by decide) rfl dL_latestNumber_15 (fun ls hl => ?_)
      refine z_iconst C0 dL_latestNumber_16 ?_
      exact z_iret C0 Wd hret hlk (zR_mk (by decide) (by decide)) (Or.inr (Or.inr (⟨rfl, hp⟩))) dL_latestNumber_17
theorem hs_hareByReceived : zKH yL_hareByReceived cL_hareByReceived 4 [(0, 9, 12, 27)] 3 := ⟨zk_902, zk_901, zk_64, by decide, by decide, by decide +kernel⟩
theorem ch_hareByReceived (l : Launch) (g : zG) (ad : Int → Nat) (M F : zMem) (x0 : Int) (P : Int → zMem → zMem → Prop) (T : String → zMem → zMem → Prop) (hM : zMx l yX11_hareByReceived cX11_hareByReceived 3 (some .int) 8 1 6 g 410 ad [.ref (ad 0), .int (zI x0)] M F (zPi P) T) (hE : ∀ E M' F', T E M' F' → E = "java/util/NoSuchElementException") : hMt l yL_hareByReceived cL_hareByReceived 4 [(0, 9, 12, 27)] 9 1 6 g ad [.ref (ad 0), .int (zI x0), .ref (ad 408)] M F (zPi (fun k M' F' => (k = 0 ∧ ∃ r M1, zR r ∧ P r M1 F' ∧ M' = zu M1 408 0 r) ∨ (k = 1 ∧ T "java/util/NoSuchElementException" M' F'))) := by
  refine hMt.of "DrumWarrenLaw" rfl (by decide +kernel) (Nat.le_of_ble_eq_true rfl) (fun {p e s m args below meth c ls} C0 Wd hl hret hlk hst htab => ?_)
  have hl : lv_has ls 4 [(0, .ref (ad 0)), (1, .int (zI x0)), (2, .ref (ad 408))] := hl
  refine z_aload_n C0 hl 2 rfl dL_hareByReceived_0 ?_
  refine z_iconst C0 dL_hareByReceived_1 ?_
  refine z_aload_n C0 hl 0 rfl dL_hareByReceived_2 ?_
  refine z_iload_n C0 hl 1 rfl dL_hareByReceived_3 ?_
  refine z_invVH (As := [.int (zI x0)]) (rest := [.int (zI 0), .ref (ad 408)]) C0 Wd hst hM kv_X11_hareByReceived zN0 (zE_8 zK0) rfl zk_903 rfl hl.1 rfl (Nat.le_of_ble_eq_true rfl) (by decide) (by decide) dL_hareByReceived_4 (fun v M1 F1 H locs hp Wd => ?_) (fun E M1 F1 H locs q ce hp Wd hce hcv hcl => ?_)
  · obtain ⟨r, rfl, hr, hp⟩ := hp
    refine z_i2l C0 hr dL_hareByReceived_7 ?_
    refine z_last C0 Wd zN408 zK408 zL408 (by decide) (by decide) (by decide) hr dL_hareByReceived_8 (fun H locs Wd => ?_)
    refine z_goto C0 (tgt := 15) dL_hareByReceived_9 (by decide) ?_
    refine z_iconst C0 dL_hareByReceived_15 ?_
    exact z_iret C0 Wd hret hlk (zR_mk (by decide) (by decide)) (Or.inl ⟨rfl, r, M1, hr, hp, rfl⟩) dL_hareByReceived_16
  · rcases hE E M1 F1 hp with rfl
    · refine z_catch C0 htab [] (0, 9, 12, 27) [] rfl (fun _ h => nomatch h) ⟨by decide, by decide⟩ (by decide) zk_736 (List.mem_of_getElem? (i := 1) rfl) hce hcv hcl ?_
      refine z_astore_n C0 hl [(3, .ref q), (0, .ref (ad 0)), (1, .int (zI x0)), (2, .ref (ad 408))] (by decide) rfl dL_hareByReceived_12 (fun ls hl => ?_)
      refine z_iconst C0 dL_hareByReceived_13 ?_
      exact z_iret C0 Wd hret hlk (zR_mk (by decide) (by decide)) (Or.inr (⟨rfl, hp⟩)) dL_hareByReceived_14
theorem hs_say : zKH yL_say cL_say 6 [(0, 12, 15, 19), (0, 12, 19, 21), (0, 12, 23, 13)] 5 := ⟨zk_915, zk_914, zk_64, by decide, by decide, by decide +kernel⟩
theorem ch_say (l : Launch) (g : zG) (ad : Int → Nat) (M F : zMem) (x0 : Int) (x1 : Int) (x2 : Int) (P : Int → zMem → zMem → Prop) (T : String → zMem → zMem → Prop) (hM : zMx l yX11_say cX11_say 5 (some .int) 8 1 6 g 410 ad [.ref (ad 0), .int (zI x0), .int (zI x1), .int (zI x2)] M F (zPi P) T) (hE : ∀ E M' F', T E M' F' → E = "java/lang/IndexOutOfBoundsException" ∨ E = "java/lang/IllegalArgumentException" ∨ E = "java/lang/IllegalStateException") : hMt l yL_say cL_say 6 [(0, 12, 15, 19), (0, 12, 19, 21), (0, 12, 23, 13)] 9 1 6 g ad [.ref (ad 0), .int (zI x0), .int (zI x1), .int (zI x2), .ref (ad 408)] M F (zPi (fun k M' F' => (k = 0 ∧ ∃ r M1, zR r ∧ P r M1 F' ∧ M' = zu M1 408 0 r) ∨ (k = 1 ∧ T "java/lang/IndexOutOfBoundsException" M' F') ∨ (k = 2 ∧ T "java/lang/IllegalArgumentException" M' F') ∨ (k = 3 ∧ T "java/lang/IllegalStateException" M' F'))) := by
  refine hMt.of "DrumWarrenLaw" rfl (by decide +kernel) (Nat.le_of_ble_eq_true rfl) (fun {p e s m args below meth c ls} C0 Wd hl hret hlk hst htab => ?_)
  have hl : lv_has ls 6 [(0, .ref (ad 0)), (1, .int (zI x0)), (2, .int (zI x1)), (3, .int (zI x2)), (4, .ref (ad 408))] := hl
  refine z_aload C0 hl 4 rfl dL_say_0 ?_
  refine z_iconst C0 dL_say_2 ?_
  refine z_aload_n C0 hl 0 rfl dL_say_3 ?_
  refine z_iload_n C0 hl 1 rfl dL_say_4 ?_
  refine z_iload_n C0 hl 2 rfl dL_say_5 ?_
  refine z_iload_n C0 hl 3 rfl dL_say_6 ?_
  refine z_invVH (As := [.int (zI x0), .int (zI x1), .int (zI x2)]) (rest := [.int (zI 0), .ref (ad 408)]) C0 Wd hst hM kv_X11_say zN0 (zE_8 zK0) rfl zk_916 rfl hl.1 rfl (Nat.le_of_ble_eq_true rfl) (by decide) (by decide) dL_say_7 (fun v M1 F1 H locs hp Wd => ?_) (fun E M1 F1 H locs q ce hp Wd hce hcv hcl => ?_)
  · obtain ⟨r, rfl, hr, hp⟩ := hp
    refine z_i2l C0 hr dL_say_10 ?_
    refine z_last C0 Wd zN408 zK408 zL408 (by decide) (by decide) (by decide) hr dL_say_11 (fun H locs Wd => ?_)
    refine z_goto C0 (tgt := 27) dL_say_12 (by decide) ?_
    refine z_iconst C0 dL_say_27 ?_
    exact z_iret C0 Wd hret hlk (zR_mk (by decide) (by decide)) (Or.inl ⟨rfl, r, M1, hr, hp, rfl⟩) dL_say_28
  · rcases hE E M1 F1 hp with rfl | rfl | rfl
    · refine z_catch C0 htab [] (0, 12, 15, 19) [(0, 12, 19, 21), (0, 12, 23, 13)] rfl (fun _ h => nomatch h) ⟨by decide, by decide⟩ (by decide) zk_695 (List.mem_of_getElem? (i := 0) rfl) hce hcv hcl ?_
      refine z_astore C0 hl [(5, .ref q), (0, .ref (ad 0)), (1, .int (zI x0)), (2, .int (zI x1)), (3, .int (zI x2)), (4, .ref (ad 408))] (by decide) rfl dL_say_15 (fun ls hl => ?_)
      refine z_iconst C0 dL_say_17 ?_
      exact z_iret C0 Wd hret hlk (zR_mk (by decide) (by decide)) (Or.inr (Or.inl ⟨rfl, hp⟩)) dL_say_18
    · refine z_catch C0 htab [(0, 12, 15, 19)] (0, 12, 19, 21) [(0, 12, 23, 13)] rfl (by intro z hz; simp only [List.mem_cons, List.not_mem_nil, or_false] at hz; rcases hz with rfl <;> first | exact ⟨by decide, "java/lang/IndexOutOfBoundsException", zk_695, List.mem_of_getElem? (i := 10) rfl⟩) ⟨by decide, by decide⟩ (by decide) zk_716 (List.mem_of_getElem? (i := 2) rfl) hce hcv hcl ?_
      refine z_astore C0 hl [(5, .ref q), (0, .ref (ad 0)), (1, .int (zI x0)), (2, .int (zI x1)), (3, .int (zI x2)), (4, .ref (ad 408))] (by decide) rfl dL_say_19 (fun ls hl => ?_)
      refine z_iconst C0 dL_say_21 ?_
      exact z_iret C0 Wd hret hlk (zR_mk (by decide) (by decide)) (Or.inr (Or.inr (Or.inl ⟨rfl, hp⟩))) dL_say_22
    · refine z_catch C0 htab [(0, 12, 15, 19), (0, 12, 19, 21)] (0, 12, 23, 13) [] rfl (by intro z hz; simp only [List.mem_cons, List.not_mem_nil, or_false] at hz; rcases hz with rfl | rfl <;> first | exact ⟨by decide, "java/lang/IndexOutOfBoundsException", zk_695, List.mem_of_getElem? (i := 15) rfl⟩ | exact ⟨by decide, "java/lang/IllegalArgumentException", zk_716, List.mem_of_getElem? (i := 17) rfl⟩) ⟨by decide, by decide⟩ (by decide) zk_536 (List.mem_of_getElem? (i := 3) rfl) hce hcv hcl ?_
      refine z_astore C0 hl [(5, .ref q), (0, .ref (ad 0)), (1, .int (zI x0)), (2, .int (zI x1)), (3, .int (zI x2)), (4, .ref (ad 408))] (by decide) rfl dL_say_23 (fun ls hl => ?_)
      refine z_iconst C0 dL_say_25 ?_
      exact z_iret C0 Wd hret hlk (zR_mk (by decide) (by decide)) (Or.inr (Or.inr (Or.inr (⟨rfl, hp⟩)))) dL_say_26
theorem hs_forget : zKH yL_forget cL_forget 4 [(0, 9, 12, 27), (0, 9, 15, 13)] 3 := ⟨zk_930, zk_929, zk_64, by decide, by decide, by decide +kernel⟩
theorem ch_forget (l : Launch) (g : zG) (ad : Int → Nat) (M F : zMem) (x0 : Int) (P : Int → zMem → zMem → Prop) (T : String → zMem → zMem → Prop) (hM : zMx l yX11_forget cX11_forget 2 (some .int) 8 1 6 g 410 ad [.ref (ad 0), .int (zI x0)] M F (zPi P) T) (hE : ∀ E M' F', T E M' F' → E = "java/util/NoSuchElementException" ∨ E = "java/lang/IllegalStateException") : hMt l yL_forget cL_forget 4 [(0, 9, 12, 27), (0, 9, 15, 13)] 9 1 6 g ad [.ref (ad 0), .int (zI x0), .ref (ad 408)] M F (zPi (fun k M' F' => (k = 0 ∧ ∃ r M1, zR r ∧ P r M1 F' ∧ M' = zu M1 408 0 r) ∨ (k = 1 ∧ T "java/util/NoSuchElementException" M' F') ∨ (k = 2 ∧ T "java/lang/IllegalStateException" M' F'))) := by
  refine hMt.of "DrumWarrenLaw" rfl (by decide +kernel) (Nat.le_of_ble_eq_true rfl) (fun {p e s m args below meth c ls} C0 Wd hl hret hlk hst htab => ?_)
  have hl : lv_has ls 4 [(0, .ref (ad 0)), (1, .int (zI x0)), (2, .ref (ad 408))] := hl
  refine z_aload_n C0 hl 2 rfl dL_forget_0 ?_
  refine z_iconst C0 dL_forget_1 ?_
  refine z_aload_n C0 hl 0 rfl dL_forget_2 ?_
  refine z_iload_n C0 hl 1 rfl dL_forget_3 ?_
  refine z_invVH (As := [.int (zI x0)]) (rest := [.int (zI 0), .ref (ad 408)]) C0 Wd hst hM kv_X11_forget zN0 (zE_8 zK0) rfl zk_931 rfl hl.1 rfl (Nat.le_of_ble_eq_true rfl) (by decide) (by decide) dL_forget_4 (fun v M1 F1 H locs hp Wd => ?_) (fun E M1 F1 H locs q ce hp Wd hce hcv hcl => ?_)
  · obtain ⟨r, rfl, hr, hp⟩ := hp
    refine z_i2l C0 hr dL_forget_7 ?_
    refine z_last C0 Wd zN408 zK408 zL408 (by decide) (by decide) (by decide) hr dL_forget_8 (fun H locs Wd => ?_)
    refine z_goto C0 (tgt := 18) dL_forget_9 (by decide) ?_
    refine z_iconst C0 dL_forget_18 ?_
    exact z_iret C0 Wd hret hlk (zR_mk (by decide) (by decide)) (Or.inl ⟨rfl, r, M1, hr, hp, rfl⟩) dL_forget_19
  · rcases hE E M1 F1 hp with rfl | rfl
    · refine z_catch C0 htab [] (0, 9, 12, 27) [(0, 9, 15, 13)] rfl (fun _ h => nomatch h) ⟨by decide, by decide⟩ (by decide) zk_736 (List.mem_of_getElem? (i := 1) rfl) hce hcv hcl ?_
      refine z_astore_n C0 hl [(3, .ref q), (0, .ref (ad 0)), (1, .int (zI x0)), (2, .ref (ad 408))] (by decide) rfl dL_forget_12 (fun ls hl => ?_)
      refine z_iconst C0 dL_forget_13 ?_
      exact z_iret C0 Wd hret hlk (zR_mk (by decide) (by decide)) (Or.inr (Or.inl ⟨rfl, hp⟩)) dL_forget_14
    · refine z_catch C0 htab [(0, 9, 12, 27)] (0, 9, 15, 13) [] rfl (by intro z hz; simp only [List.mem_cons, List.not_mem_nil, or_false] at hz; rcases hz with rfl <;> first | exact ⟨by decide, "java/util/NoSuchElementException", zk_736, List.mem_of_getElem? (i := 16) rfl⟩) ⟨by decide, by decide⟩ (by decide) zk_536 (List.mem_of_getElem? (i := 3) rfl) hce hcv hcl ?_
      refine z_astore_n C0 hl [(3, .ref q), (0, .ref (ad 0)), (1, .int (zI x0)), (2, .ref (ad 408))] (by decide) rfl dL_forget_15 (fun ls hl => ?_)
      refine z_iconst C0 dL_forget_16 ?_
      exact z_iret C0 Wd hret hlk (zR_mk (by decide) (by decide)) (Or.inr (Or.inr (⟨rfl, hp⟩))) dL_forget_17
theorem hs_message : zKH yL_message cL_message 4 [(0, 9, 12, 19)] 3 := ⟨zk_946, zk_945, zk_64, by decide, by decide, by decide +kernel⟩
theorem ch_message (l : Launch) (g : zG) (ad : Int → Nat) (M F : zMem) (x0 : Int) (P : Int → zMem → zMem → Prop) (T : String → zMem → zMem → Prop) (hM : zMx l yX11_message cX11_message 2 (some .int) 8 1 6 g 410 ad [.ref (ad 0), .int (zI x0)] M F (zPi P) T) (hE : ∀ E M' F', T E M' F' → E = "java/lang/IndexOutOfBoundsException") : hMt l yL_message cL_message 4 [(0, 9, 12, 19)] 9 1 6 g ad [.ref (ad 0), .int (zI x0), .ref (ad 408)] M F (zPi (fun k M' F' => (k = 0 ∧ ∃ r M1, zR r ∧ P r M1 F' ∧ M' = zu M1 408 0 r) ∨ (k = 1 ∧ T "java/lang/IndexOutOfBoundsException" M' F'))) := by
  refine hMt.of "DrumWarrenLaw" rfl (by decide +kernel) (Nat.le_of_ble_eq_true rfl) (fun {p e s m args below meth c ls} C0 Wd hl hret hlk hst htab => ?_)
  have hl : lv_has ls 4 [(0, .ref (ad 0)), (1, .int (zI x0)), (2, .ref (ad 408))] := hl
  refine z_aload_n C0 hl 2 rfl dL_message_0 ?_
  refine z_iconst C0 dL_message_1 ?_
  refine z_aload_n C0 hl 0 rfl dL_message_2 ?_
  refine z_iload_n C0 hl 1 rfl dL_message_3 ?_
  refine z_invVH (As := [.int (zI x0)]) (rest := [.int (zI 0), .ref (ad 408)]) C0 Wd hst hM kv_X11_message zN0 (zE_8 zK0) rfl zk_947 rfl hl.1 rfl (Nat.le_of_ble_eq_true rfl) (by decide) (by decide) dL_message_4 (fun v M1 F1 H locs hp Wd => ?_) (fun E M1 F1 H locs q ce hp Wd hce hcv hcl => ?_)
  · obtain ⟨r, rfl, hr, hp⟩ := hp
    refine z_i2l C0 hr dL_message_7 ?_
    refine z_last C0 Wd zN408 zK408 zL408 (by decide) (by decide) (by decide) hr dL_message_8 (fun H locs Wd => ?_)
    refine z_goto C0 (tgt := 15) dL_message_9 (by decide) ?_
    refine z_iconst C0 dL_message_15 ?_
    exact z_iret C0 Wd hret hlk (zR_mk (by decide) (by decide)) (Or.inl ⟨rfl, r, M1, hr, hp, rfl⟩) dL_message_16
  · rcases hE E M1 F1 hp with rfl
    · refine z_catch C0 htab [] (0, 9, 12, 19) [] rfl (fun _ h => nomatch h) ⟨by decide, by decide⟩ (by decide) zk_695 (List.mem_of_getElem? (i := 0) rfl) hce hcv hcl ?_
      refine z_astore_n C0 hl [(3, .ref q), (0, .ref (ad 0)), (1, .int (zI x0)), (2, .ref (ad 408))] (by decide) rfl dL_message_12 (fun ls hl => ?_)
      refine z_iconst C0 dL_message_13 ?_
      exact z_iret C0 Wd hret hlk (zR_mk (by decide) (by decide)) (Or.inr (⟨rfl, hp⟩)) dL_message_14
theorem hs_sender : zKH yL_sender cL_sender 4 [(0, 9, 12, 27)] 3 := ⟨zk_954, zk_953, zk_64, by decide, by decide, by decide +kernel⟩
theorem ch_sender (l : Launch) (g : zG) (ad : Int → Nat) (M F : zMem) (x0 : Int) (P : Int → zMem → zMem → Prop) (T : String → zMem → zMem → Prop) (hM : zMx l yX11_sender cX11_sender 2 (some .int) 8 1 6 g 410 ad [.ref (ad 0), .int (zI x0)] M F (zPi P) T) (hE : ∀ E M' F', T E M' F' → E = "java/util/NoSuchElementException") : hMt l yL_sender cL_sender 4 [(0, 9, 12, 27)] 9 1 6 g ad [.ref (ad 0), .int (zI x0), .ref (ad 408)] M F (zPi (fun k M' F' => (k = 0 ∧ ∃ r M1, zR r ∧ P r M1 F' ∧ M' = zu M1 408 0 r) ∨ (k = 1 ∧ T "java/util/NoSuchElementException" M' F'))) := by
  refine hMt.of "DrumWarrenLaw" rfl (by decide +kernel) (Nat.le_of_ble_eq_true rfl) (fun {p e s m args below meth c ls} C0 Wd hl hret hlk hst htab => ?_)
  have hl : lv_has ls 4 [(0, .ref (ad 0)), (1, .int (zI x0)), (2, .ref (ad 408))] := hl
  refine z_aload_n C0 hl 2 rfl dL_sender_0 ?_
  refine z_iconst C0 dL_sender_1 ?_
  refine z_aload_n C0 hl 0 rfl dL_sender_2 ?_
  refine z_iload_n C0 hl 1 rfl dL_sender_3 ?_
  refine z_invVH (As := [.int (zI x0)]) (rest := [.int (zI 0), .ref (ad 408)]) C0 Wd hst hM kv_X11_sender zN0 (zE_8 zK0) rfl zk_955 rfl hl.1 rfl (Nat.le_of_ble_eq_true rfl) (by decide) (by decide) dL_sender_4 (fun v M1 F1 H locs hp Wd => ?_) (fun E M1 F1 H locs q ce hp Wd hce hcv hcl => ?_)
  · obtain ⟨r, rfl, hr, hp⟩ := hp
    refine z_i2l C0 hr dL_sender_7 ?_
    refine z_last C0 Wd zN408 zK408 zL408 (by decide) (by decide) (by decide) hr dL_sender_8 (fun H locs Wd => ?_)
    refine z_goto C0 (tgt := 15) dL_sender_9 (by decide) ?_
    refine z_iconst C0 dL_sender_15 ?_
    exact z_iret C0 Wd hret hlk (zR_mk (by decide) (by decide)) (Or.inl ⟨rfl, r, M1, hr, hp, rfl⟩) dL_sender_16
  · rcases hE E M1 F1 hp with rfl
    · refine z_catch C0 htab [] (0, 9, 12, 27) [] rfl (fun _ h => nomatch h) ⟨by decide, by decide⟩ (by decide) zk_736 (List.mem_of_getElem? (i := 1) rfl) hce hcv hcl ?_
      refine z_astore_n C0 hl [(3, .ref q), (0, .ref (ad 0)), (1, .int (zI x0)), (2, .ref (ad 408))] (by decide) rfl dL_sender_12 (fun ls hl => ?_)
      refine z_iconst C0 dL_sender_13 ?_
      exact z_iret C0 Wd hret hlk (zR_mk (by decide) (by decide)) (Or.inr (⟨rfl, hp⟩)) dL_sender_14
theorem hs_receiver : zKH yL_receiver cL_receiver 4 [(0, 9, 12, 27)] 3 := ⟨zk_967, zk_966, zk_64, by decide, by decide, by decide +kernel⟩
theorem ch_receiver (l : Launch) (g : zG) (ad : Int → Nat) (M F : zMem) (x0 : Int) (P : Int → zMem → zMem → Prop) (T : String → zMem → zMem → Prop) (hM : zMx l yX11_receiver cX11_receiver 2 (some .int) 8 1 6 g 410 ad [.ref (ad 0), .int (zI x0)] M F (zPi P) T) (hE : ∀ E M' F', T E M' F' → E = "java/util/NoSuchElementException") : hMt l yL_receiver cL_receiver 4 [(0, 9, 12, 27)] 9 1 6 g ad [.ref (ad 0), .int (zI x0), .ref (ad 408)] M F (zPi (fun k M' F' => (k = 0 ∧ ∃ r M1, zR r ∧ P r M1 F' ∧ M' = zu M1 408 0 r) ∨ (k = 1 ∧ T "java/util/NoSuchElementException" M' F'))) := by
  refine hMt.of "DrumWarrenLaw" rfl (by decide +kernel) (Nat.le_of_ble_eq_true rfl) (fun {p e s m args below meth c ls} C0 Wd hl hret hlk hst htab => ?_)
  have hl : lv_has ls 4 [(0, .ref (ad 0)), (1, .int (zI x0)), (2, .ref (ad 408))] := hl
  refine z_aload_n C0 hl 2 rfl dL_receiver_0 ?_
  refine z_iconst C0 dL_receiver_1 ?_
  refine z_aload_n C0 hl 0 rfl dL_receiver_2 ?_
  refine z_iload_n C0 hl 1 rfl dL_receiver_3 ?_
  refine z_invVH (As := [.int (zI x0)]) (rest := [.int (zI 0), .ref (ad 408)]) C0 Wd hst hM kv_X11_receiver zN0 (zE_8 zK0) rfl zk_968 rfl hl.1 rfl (Nat.le_of_ble_eq_true rfl) (by decide) (by decide) dL_receiver_4 (fun v M1 F1 H locs hp Wd => ?_) (fun E M1 F1 H locs q ce hp Wd hce hcv hcl => ?_)
  · obtain ⟨r, rfl, hr, hp⟩ := hp
    refine z_i2l C0 hr dL_receiver_7 ?_
    refine z_last C0 Wd zN408 zK408 zL408 (by decide) (by decide) (by decide) hr dL_receiver_8 (fun H locs Wd => ?_)
    refine z_goto C0 (tgt := 15) dL_receiver_9 (by decide) ?_
    refine z_iconst C0 dL_receiver_15 ?_
    exact z_iret C0 Wd hret hlk (zR_mk (by decide) (by decide)) (Or.inl ⟨rfl, r, M1, hr, hp, rfl⟩) dL_receiver_16
  · rcases hE E M1 F1 hp with rfl
    · refine z_catch C0 htab [] (0, 9, 12, 27) [] rfl (fun _ h => nomatch h) ⟨by decide, by decide⟩ (by decide) zk_736 (List.mem_of_getElem? (i := 1) rfl) hce hcv hcl ?_
      refine z_astore_n C0 hl [(3, .ref q), (0, .ref (ad 0)), (1, .int (zI x0)), (2, .ref (ad 408))] (by decide) rfl dL_receiver_12 (fun ls hl => ?_)
      refine z_iconst C0 dL_receiver_13 ?_
      exact z_iret C0 Wd hret hlk (zR_mk (by decide) (by decide)) (Or.inr (⟨rfl, hp⟩)) dL_receiver_14
theorem hs_state : zKH yL_state cL_state 4 [(0, 9, 12, 27)] 3 := ⟨zk_974, zk_973, zk_64, by decide, by decide, by decide +kernel⟩
theorem ch_state (l : Launch) (g : zG) (ad : Int → Nat) (M F : zMem) (x0 : Int) (P : Int → zMem → zMem → Prop) (T : String → zMem → zMem → Prop) (hM : zMx l yX11_state cX11_state 2 (some .char) 8 1 6 g 410 ad [.ref (ad 0), .int (zI x0)] M F (zPi P) T) (hE : ∀ E M' F', T E M' F' → E = "java/util/NoSuchElementException") : hMt l yL_state cL_state 4 [(0, 9, 12, 27)] 9 1 6 g ad [.ref (ad 0), .int (zI x0), .ref (ad 408)] M F (zPi (fun k M' F' => (k = 0 ∧ ∃ r M1, zR r ∧ P r M1 F' ∧ M' = zu M1 408 0 r) ∨ (k = 1 ∧ T "java/util/NoSuchElementException" M' F'))) := by
  refine hMt.of "DrumWarrenLaw" rfl (by decide +kernel) (Nat.le_of_ble_eq_true rfl) (fun {p e s m args below meth c ls} C0 Wd hl hret hlk hst htab => ?_)
  have hl : lv_has ls 4 [(0, .ref (ad 0)), (1, .int (zI x0)), (2, .ref (ad 408))] := hl
  refine z_aload_n C0 hl 2 rfl dL_state_0 ?_
  refine z_iconst C0 dL_state_1 ?_
  refine z_aload_n C0 hl 0 rfl dL_state_2 ?_
  refine z_iload_n C0 hl 1 rfl dL_state_3 ?_
  refine z_invVH (As := [.int (zI x0)]) (rest := [.int (zI 0), .ref (ad 408)]) C0 Wd hst hM kv_X11_state zN0 (zE_8 zK0) rfl zk_975 rfl hl.1 rfl (Nat.le_of_ble_eq_true rfl) (by decide) (by decide) dL_state_4 (fun v M1 F1 H locs hp Wd => ?_) (fun E M1 F1 H locs q ce hp Wd hce hcv hcl => ?_)
  · obtain ⟨r, rfl, hr, hp⟩ := hp
    refine z_i2l C0 hr dL_state_7 ?_
    refine z_last C0 Wd zN408 zK408 zL408 (by decide) (by decide) (by decide) hr dL_state_8 (fun H locs Wd => ?_)
    refine z_goto C0 (tgt := 15) dL_state_9 (by decide) ?_
    refine z_iconst C0 dL_state_15 ?_
    exact z_iret C0 Wd hret hlk (zR_mk (by decide) (by decide)) (Or.inl ⟨rfl, r, M1, hr, hp, rfl⟩) dL_state_16
  · rcases hE E M1 F1 hp with rfl
    · refine z_catch C0 htab [] (0, 9, 12, 27) [] rfl (fun _ h => nomatch h) ⟨by decide, by decide⟩ (by decide) zk_736 (List.mem_of_getElem? (i := 1) rfl) hce hcv hcl ?_
      refine z_astore_n C0 hl [(3, .ref q), (0, .ref (ad 0)), (1, .int (zI x0)), (2, .ref (ad 408))] (by decide) rfl dL_state_12 (fun ls hl => ?_)
      refine z_iconst C0 dL_state_13 ?_
      exact z_iret C0 Wd hret hlk (zR_mk (by decide) (by decide)) (Or.inr (⟨rfl, hp⟩)) dL_state_14
theorem hs_timesLost : zKH yL_timesLost cL_timesLost 4 [(0, 9, 12, 27)] 3 := ⟨zk_981, zk_980, zk_64, by decide, by decide, by decide +kernel⟩
theorem ch_timesLost (l : Launch) (g : zG) (ad : Int → Nat) (M F : zMem) (x0 : Int) (P : Int → zMem → zMem → Prop) (T : String → zMem → zMem → Prop) (hM : zMx l yX11_timesLost cX11_timesLost 2 (some .int) 8 1 6 g 410 ad [.ref (ad 0), .int (zI x0)] M F (zPi P) T) (hE : ∀ E M' F', T E M' F' → E = "java/util/NoSuchElementException") : hMt l yL_timesLost cL_timesLost 4 [(0, 9, 12, 27)] 9 1 6 g ad [.ref (ad 0), .int (zI x0), .ref (ad 408)] M F (zPi (fun k M' F' => (k = 0 ∧ ∃ r M1, zR r ∧ P r M1 F' ∧ M' = zu M1 408 0 r) ∨ (k = 1 ∧ T "java/util/NoSuchElementException" M' F'))) := by
  refine hMt.of "DrumWarrenLaw" rfl (by decide +kernel) (Nat.le_of_ble_eq_true rfl) (fun {p e s m args below meth c ls} C0 Wd hl hret hlk hst htab => ?_)
  have hl : lv_has ls 4 [(0, .ref (ad 0)), (1, .int (zI x0)), (2, .ref (ad 408))] := hl
  refine z_aload_n C0 hl 2 rfl dL_timesLost_0 ?_
  refine z_iconst C0 dL_timesLost_1 ?_
  refine z_aload_n C0 hl 0 rfl dL_timesLost_2 ?_
  refine z_iload_n C0 hl 1 rfl dL_timesLost_3 ?_
  refine z_invVH (As := [.int (zI x0)]) (rest := [.int (zI 0), .ref (ad 408)]) C0 Wd hst hM kv_X11_timesLost zN0 (zE_8 zK0) rfl zk_982 rfl hl.1 rfl (Nat.le_of_ble_eq_true rfl) (by decide) (by decide) dL_timesLost_4 (fun v M1 F1 H locs hp Wd => ?_) (fun E M1 F1 H locs q ce hp Wd hce hcv hcl => ?_)
  · obtain ⟨r, rfl, hr, hp⟩ := hp
    refine z_i2l C0 hr dL_timesLost_7 ?_
    refine z_last C0 Wd zN408 zK408 zL408 (by decide) (by decide) (by decide) hr dL_timesLost_8 (fun H locs Wd => ?_)
    refine z_goto C0 (tgt := 15) dL_timesLost_9 (by decide) ?_
    refine z_iconst C0 dL_timesLost_15 ?_
    exact z_iret C0 Wd hret hlk (zR_mk (by decide) (by decide)) (Or.inl ⟨rfl, r, M1, hr, hp, rfl⟩) dL_timesLost_16
  · rcases hE E M1 F1 hp with rfl
    · refine z_catch C0 htab [] (0, 9, 12, 27) [] rfl (fun _ h => nomatch h) ⟨by decide, by decide⟩ (by decide) zk_736 (List.mem_of_getElem? (i := 1) rfl) hce hcv hcl ?_
      refine z_astore_n C0 hl [(3, .ref q), (0, .ref (ad 0)), (1, .int (zI x0)), (2, .ref (ad 408))] (by decide) rfl dL_timesLost_12 (fun ls hl => ?_)
      refine z_iconst C0 dL_timesLost_13 ?_
      exact z_iret C0 Wd hret hlk (zR_mk (by decide) (by decide)) (Or.inr (⟨rfl, hp⟩)) dL_timesLost_14
theorem hs_beatsDrummed : zKH yL_beatsDrummed cL_beatsDrummed 4 [(0, 9, 12, 27)] 3 := ⟨zk_988, zk_987, zk_64, by decide, by decide, by decide +kernel⟩
theorem ch_beatsDrummed (l : Launch) (g : zG) (ad : Int → Nat) (M F : zMem) (x0 : Int) (P : Int → zMem → zMem → Prop) (T : String → zMem → zMem → Prop) (hM : zMx l yX11_beatsDrummed cX11_beatsDrummed 2 (some .int) 8 1 6 g 410 ad [.ref (ad 0), .int (zI x0)] M F (zPi P) T) (hE : ∀ E M' F', T E M' F' → E = "java/util/NoSuchElementException") : hMt l yL_beatsDrummed cL_beatsDrummed 4 [(0, 9, 12, 27)] 9 1 6 g ad [.ref (ad 0), .int (zI x0), .ref (ad 408)] M F (zPi (fun k M' F' => (k = 0 ∧ ∃ r M1, zR r ∧ P r M1 F' ∧ M' = zu M1 408 0 r) ∨ (k = 1 ∧ T "java/util/NoSuchElementException" M' F'))) := by
  refine hMt.of "DrumWarrenLaw" rfl (by decide +kernel) (Nat.le_of_ble_eq_true rfl) (fun {p e s m args below meth c ls} C0 Wd hl hret hlk hst htab => ?_)
  have hl : lv_has ls 4 [(0, .ref (ad 0)), (1, .int (zI x0)), (2, .ref (ad 408))] := hl
  refine z_aload_n C0 hl 2 rfl dL_beatsDrummed_0 ?_
  refine z_iconst C0 dL_beatsDrummed_1 ?_
  refine z_aload_n C0 hl 0 rfl dL_beatsDrummed_2 ?_
  refine z_iload_n C0 hl 1 rfl dL_beatsDrummed_3 ?_
  refine z_invVH (As := [.int (zI x0)]) (rest := [.int (zI 0), .ref (ad 408)]) C0 Wd hst hM kv_X11_beatsDrummed zN0 (zE_8 zK0) rfl zk_989 rfl hl.1 rfl (Nat.le_of_ble_eq_true rfl) (by decide) (by decide) dL_beatsDrummed_4 (fun v M1 F1 H locs hp Wd => ?_) (fun E M1 F1 H locs q ce hp Wd hce hcv hcl => ?_)
  · obtain ⟨r, rfl, hr, hp⟩ := hp
    refine z_i2l C0 hr dL_beatsDrummed_7 ?_
    refine z_last C0 Wd zN408 zK408 zL408 (by decide) (by decide) (by decide) hr dL_beatsDrummed_8 (fun H locs Wd => ?_)
    refine z_goto C0 (tgt := 15) dL_beatsDrummed_9 (by decide) ?_
    refine z_iconst C0 dL_beatsDrummed_15 ?_
    exact z_iret C0 Wd hret hlk (zR_mk (by decide) (by decide)) (Or.inl ⟨rfl, r, M1, hr, hp, rfl⟩) dL_beatsDrummed_16
  · rcases hE E M1 F1 hp with rfl
    · refine z_catch C0 htab [] (0, 9, 12, 27) [] rfl (fun _ h => nomatch h) ⟨by decide, by decide⟩ (by decide) zk_736 (List.mem_of_getElem? (i := 1) rfl) hce hcv hcl ?_
      refine z_astore_n C0 hl [(3, .ref q), (0, .ref (ad 0)), (1, .int (zI x0)), (2, .ref (ad 408))] (by decide) rfl dL_beatsDrummed_12 (fun ls hl => ?_)
      refine z_iconst C0 dL_beatsDrummed_13 ?_
      exact z_iret C0 Wd hret hlk (zR_mk (by decide) (by decide)) (Or.inr (⟨rfl, hp⟩)) dL_beatsDrummed_14
theorem hs_isThump : zKH yL_isThump cL_isThump 5 [(0, 17, 20, 21), (0, 17, 24, 19)] 4 := ⟨zk_995, zk_994, zk_64, by decide, by decide, by decide +kernel⟩
theorem ch_isThump (l : Launch) (g : zG) (ad : Int → Nat) (M F : zMem) (x0 : Int) (x1 : Int) (P : Int → zMem → zMem → Prop) (T : String → zMem → zMem → Prop) (hM : zMx l yX11_isThump cX11_isThump 3 (some .boolean) 8 2 12 g 410 ad [.ref (ad 0), .int (zI x0), .int (zI x1)] M F (zPi P) T) (hE : ∀ E M' F', T E M' F' → E = "java/lang/IllegalArgumentException" ∨ E = "java/lang/IndexOutOfBoundsException") (hB : ∀ r M' F', P r M' F' → r = 0 ∨ r = 1) : hMt l yL_isThump cL_isThump 5 [(0, 17, 20, 21), (0, 17, 24, 19)] 9 2 12 g ad [.ref (ad 0), .int (zI x0), .int (zI x1), .ref (ad 408)] M F (zPi (fun k M' F' => (k = 0 ∧ ∃ r M1, zR r ∧ P r M1 F' ∧ M' = zu M1 408 0 r) ∨ (k = 1 ∧ T "java/lang/IllegalArgumentException" M' F') ∨ (k = 2 ∧ T "java/lang/IndexOutOfBoundsException" M' F'))) := by
  refine hMt.of "DrumWarrenLaw" rfl (by decide +kernel) (Nat.le_of_ble_eq_true rfl) (fun {p e s m args below meth c ls} C0 Wd hl hret hlk hst htab => ?_)
  have hl : lv_has ls 5 [(0, .ref (ad 0)), (1, .int (zI x0)), (2, .int (zI x1)), (3, .ref (ad 408))] := hl
  refine z_aload_n C0 hl 3 rfl dL_isThump_0 ?_
  refine z_iconst C0 dL_isThump_1 ?_
  refine z_aload_n C0 hl 0 rfl dL_isThump_2 ?_
  refine z_iload_n C0 hl 1 rfl dL_isThump_3 ?_
  refine z_iload_n C0 hl 2 rfl dL_isThump_4 ?_
  refine z_invVH (As := [.int (zI x0), .int (zI x1)]) (rest := [.int (zI 0), .ref (ad 408)]) C0 Wd hst hM kv_X11_isThump zN0 (zE_8 zK0) rfl zk_996 rfl hl.1 rfl (Nat.le_of_ble_eq_true rfl) (by decide) (by decide) dL_isThump_5 (fun v M1 F1 H locs hp Wd => ?_) (fun E M1 F1 H locs q ce hp Wd hce hcv hcl => ?_)
  · obtain ⟨r, rfl, hr, hp⟩ := hp
    rcases hB r M1 F1 hp with rfl | rfl
    · refine z_if_eq C0 (tgt := 15) (zR_mk (by decide) (by decide)) dL_isThump_8 (by decide) (fun _ => ?_) (fun h => absurd rfl h)
      refine z_lconst C0 0 dL_isThump_15 rfl ?_
      refine z_last C0 Wd zN408 zK408 zL408 (by decide) (by decide) (by decide) hr dL_isThump_16 (fun H locs Wd => ?_)
      refine z_goto C0 (tgt := 28) dL_isThump_17 (by decide) ?_
      refine z_iconst C0 dL_isThump_28 ?_
      exact z_iret C0 Wd hret hlk (zR_mk (by decide) (by decide)) (Or.inl ⟨rfl, 0, M1, hr, hp, rfl⟩) dL_isThump_29
    · refine z_if_eq C0 (tgt := 15) (zR_mk (by decide) (by decide)) dL_isThump_8 (by decide) (fun h => absurd h (by decide)) (fun _ => ?_)
      refine z_lconst C0 1 dL_isThump_11 rfl ?_
      refine z_goto C0 (tgt := 16) dL_isThump_12 (by decide) ?_
      refine z_last C0 Wd zN408 zK408 zL408 (by decide) (by decide) (by decide) hr dL_isThump_16 (fun H locs Wd => ?_)
      refine z_goto C0 (tgt := 28) dL_isThump_17 (by decide) ?_
      refine z_iconst C0 dL_isThump_28 ?_
      exact z_iret C0 Wd hret hlk (zR_mk (by decide) (by decide)) (Or.inl ⟨rfl, 1, M1, hr, hp, rfl⟩) dL_isThump_29
  · rcases hE E M1 F1 hp with rfl | rfl
    · refine z_catch C0 htab [] (0, 17, 20, 21) [(0, 17, 24, 19)] rfl (fun _ h => nomatch h) ⟨by decide, by decide⟩ (by decide) zk_716 (List.mem_of_getElem? (i := 2) rfl) hce hcv hcl ?_
      refine z_astore C0 hl [(4, .ref q), (0, .ref (ad 0)), (1, .int (zI x0)), (2, .int (zI x1)), (3, .ref (ad 408))] (by decide) rfl dL_isThump_20 (fun ls hl => ?_)
      refine z_iconst C0 dL_isThump_22 ?_
      exact z_iret C0 Wd hret hlk (zR_mk (by decide) (by decide)) (Or.inr (Or.inl ⟨rfl, hp⟩)) dL_isThump_23
    · refine z_catch C0 htab [(0, 17, 20, 21)] (0, 17, 24, 19) [] rfl (by intro z hz; simp only [List.mem_cons, List.not_mem_nil, or_false] at hz; rcases hz with rfl <;> first | exact ⟨by decide, "java/lang/IllegalArgumentException", zk_716, List.mem_of_getElem? (i := 1) rfl⟩) ⟨by decide, by decide⟩ (by decide) zk_695 (List.mem_of_getElem? (i := 0) rfl) hce hcv hcl ?_
      refine z_astore C0 hl [(4, .ref q), (0, .ref (ad 0)), (1, .int (zI x0)), (2, .int (zI x1)), (3, .ref (ad 408))] (by decide) rfl dL_isThump_24 (fun ls hl => ?_)
      refine z_iconst C0 dL_isThump_26 ?_
      exact z_iret C0 Wd hret hlk (zR_mk (by decide) (by decide)) (Or.inr (Or.inr (⟨rfl, hp⟩))) dL_isThump_27
theorem hs_decode : zKH yL_decode cL_decode 4 [(0, 9, 12, 21), (0, 9, 15, 27)] 3 := ⟨zk_1011, zk_1010, zk_64, by decide, by decide, by decide +kernel⟩
theorem ch_decode (l : Launch) (g : zG) (ad : Int → Nat) (M F : zMem) (x0 : Int) (P : Int → zMem → zMem → Prop) (T : String → zMem → zMem → Prop) (hM : zMx l yX11_decode cX11_decode 3 (some .int) 8 1 6 g 410 ad [.ref (ad 0), .int (zI x0)] M F (zPi P) T) (hE : ∀ E M' F', T E M' F' → E = "java/lang/IllegalArgumentException" ∨ E = "java/util/NoSuchElementException") : hMt l yL_decode cL_decode 4 [(0, 9, 12, 21), (0, 9, 15, 27)] 9 1 6 g ad [.ref (ad 0), .int (zI x0), .ref (ad 408)] M F (zPi (fun k M' F' => (k = 0 ∧ ∃ r M1, zR r ∧ P r M1 F' ∧ M' = zu M1 408 0 r) ∨ (k = 1 ∧ T "java/lang/IllegalArgumentException" M' F') ∨ (k = 2 ∧ T "java/util/NoSuchElementException" M' F'))) := by
  refine hMt.of "DrumWarrenLaw" rfl (by decide +kernel) (Nat.le_of_ble_eq_true rfl) (fun {p e s m args below meth c ls} C0 Wd hl hret hlk hst htab => ?_)
  have hl : lv_has ls 4 [(0, .ref (ad 0)), (1, .int (zI x0)), (2, .ref (ad 408))] := hl
  refine z_aload_n C0 hl 2 rfl dL_decode_0 ?_
  refine z_iconst C0 dL_decode_1 ?_
  refine z_aload_n C0 hl 0 rfl dL_decode_2 ?_
  refine z_iload_n C0 hl 1 rfl dL_decode_3 ?_
  refine z_invVH (As := [.int (zI x0)]) (rest := [.int (zI 0), .ref (ad 408)]) C0 Wd hst hM kv_X11_decode zN0 (zE_8 zK0) rfl zk_1012 rfl hl.1 rfl (Nat.le_of_ble_eq_true rfl) (by decide) (by decide) dL_decode_4 (fun v M1 F1 H locs hp Wd => ?_) (fun E M1 F1 H locs q ce hp Wd hce hcv hcl => ?_)
  · obtain ⟨r, rfl, hr, hp⟩ := hp
    refine z_i2l C0 hr dL_decode_7 ?_
    refine z_last C0 Wd zN408 zK408 zL408 (by decide) (by decide) (by decide) hr dL_decode_8 (fun H locs Wd => ?_)
    refine z_goto C0 (tgt := 18) dL_decode_9 (by decide) ?_
    refine z_iconst C0 dL_decode_18 ?_
    exact z_iret C0 Wd hret hlk (zR_mk (by decide) (by decide)) (Or.inl ⟨rfl, r, M1, hr, hp, rfl⟩) dL_decode_19
  · rcases hE E M1 F1 hp with rfl | rfl
    · refine z_catch C0 htab [] (0, 9, 12, 21) [(0, 9, 15, 27)] rfl (fun _ h => nomatch h) ⟨by decide, by decide⟩ (by decide) zk_716 (List.mem_of_getElem? (i := 2) rfl) hce hcv hcl ?_
      refine z_astore_n C0 hl [(3, .ref q), (0, .ref (ad 0)), (1, .int (zI x0)), (2, .ref (ad 408))] (by decide) rfl dL_decode_12 (fun ls hl => ?_)
      refine z_iconst C0 dL_decode_13 ?_
      exact z_iret C0 Wd hret hlk (zR_mk (by decide) (by decide)) (Or.inr (Or.inl ⟨rfl, hp⟩)) dL_decode_14
    · refine z_catch C0 htab [(0, 9, 12, 21)] (0, 9, 15, 27) [] rfl (by intro z hz; simp only [List.mem_cons, List.not_mem_nil, or_false] at hz; rcases hz with rfl <;> first | exact ⟨by decide, "java/lang/IllegalArgumentException", zk_716, List.mem_of_getElem? (i := 6) rfl⟩) ⟨by decide, by decide⟩ (by decide) zk_736 (List.mem_of_getElem? (i := 1) rfl) hce hcv hcl ?_
      refine z_astore_n C0 hl [(3, .ref q), (0, .ref (ad 0)), (1, .int (zI x0)), (2, .ref (ad 408))] (by decide) rfl dL_decode_15 (fun ls hl => ?_)
      refine z_iconst C0 dL_decode_16 ?_
      exact z_iret C0 Wd hret hlk (zR_mk (by decide) (by decide)) (Or.inr (Or.inr (⟨rfl, hp⟩))) dL_decode_17
theorem hs_ticksUntilDelivery : zKH yL_ticksUntilDelivery cL_ticksUntilDelivery 4 [(0, 9, 12, 27), (0, 9, 15, 13), (0, 9, 18, 110)] 3 := ⟨zk_1020, zk_1019, zk_64, by decide, by decide, by decide +kernel⟩
theorem ch_ticksUntilDelivery (l : Launch) (g : zG) (ad : Int → Nat) (M F : zMem) (x0 : Int) (P : Int → zMem → zMem → Prop) (T : String → zMem → zMem → Prop) (hM : zMx l yX11_ticksUntilDelivery cX11_ticksUntilDelivery 5 (some .int) 8 2 12 g 410 ad [.ref (ad 0), .int (zI x0)] M F (zPi P) T) (hE : ∀ E M' F', T E M' F' → E = "java/util/NoSuchElementException" ∨ E = "java/lang/IllegalStateException" ∨ E = "java/lang/UnsupportedOperationException") : hMt l yL_ticksUntilDelivery cL_ticksUntilDelivery 4 [(0, 9, 12, 27), (0, 9, 15, 13), (0, 9, 18, 110)] 9 2 12 g ad [.ref (ad 0), .int (zI x0), .ref (ad 408)] M F (zPi (fun k M' F' => (k = 0 ∧ ∃ r M1, zR r ∧ P r M1 F' ∧ M' = zu M1 408 0 r) ∨ (k = 1 ∧ T "java/util/NoSuchElementException" M' F') ∨ (k = 2 ∧ T "java/lang/IllegalStateException" M' F') ∨ (k = 3 ∧ T "java/lang/UnsupportedOperationException" M' F'))) := by
  refine hMt.of "DrumWarrenLaw" rfl (by decide +kernel) (Nat.le_of_ble_eq_true rfl) (fun {p e s m args below meth c ls} C0 Wd hl hret hlk hst htab => ?_)
  have hl : lv_has ls 4 [(0, .ref (ad 0)), (1, .int (zI x0)), (2, .ref (ad 408))] := hl
  refine z_aload_n C0 hl 2 rfl dL_ticksUntilDelivery_0 ?_
  refine z_iconst C0 dL_ticksUntilDelivery_1 ?_
  refine z_aload_n C0 hl 0 rfl dL_ticksUntilDelivery_2 ?_
  refine z_iload_n C0 hl 1 rfl dL_ticksUntilDelivery_3 ?_
  refine z_invVH (As := [.int (zI x0)]) (rest := [.int (zI 0), .ref (ad 408)]) C0 Wd hst hM kv_X11_ticksUntilDelivery zN0 (zE_8 zK0) rfl zk_1022 rfl hl.1 rfl (Nat.le_of_ble_eq_true rfl) (by decide) (by decide) dL_ticksUntilDelivery_4 (fun v M1 F1 H locs hp Wd => ?_) (fun E M1 F1 H locs q ce hp Wd hce hcv hcl => ?_)
  · obtain ⟨r, rfl, hr, hp⟩ := hp
    refine z_i2l C0 hr dL_ticksUntilDelivery_7 ?_
    refine z_last C0 Wd zN408 zK408 zL408 (by decide) (by decide) (by decide) hr dL_ticksUntilDelivery_8 (fun H locs Wd => ?_)
    refine z_goto C0 (tgt := 21) dL_ticksUntilDelivery_9 (by decide) ?_
    refine z_iconst C0 dL_ticksUntilDelivery_21 ?_
    exact z_iret C0 Wd hret hlk (zR_mk (by decide) (by decide)) (Or.inl ⟨rfl, r, M1, hr, hp, rfl⟩) dL_ticksUntilDelivery_22
  · rcases hE E M1 F1 hp with rfl | rfl | rfl
    · refine z_catch C0 htab [] (0, 9, 12, 27) [(0, 9, 15, 13), (0, 9, 18, 110)] rfl (fun _ h => nomatch h) ⟨by decide, by decide⟩ (by decide) zk_736 (List.mem_of_getElem? (i := 1) rfl) hce hcv hcl ?_
      refine z_astore_n C0 hl [(3, .ref q), (0, .ref (ad 0)), (1, .int (zI x0)), (2, .ref (ad 408))] (by decide) rfl dL_ticksUntilDelivery_12 (fun ls hl => ?_)
      refine z_iconst C0 dL_ticksUntilDelivery_13 ?_
      exact z_iret C0 Wd hret hlk (zR_mk (by decide) (by decide)) (Or.inr (Or.inl ⟨rfl, hp⟩)) dL_ticksUntilDelivery_14
    · refine z_catch C0 htab [(0, 9, 12, 27)] (0, 9, 15, 13) [(0, 9, 18, 110)] rfl (by intro z hz; simp only [List.mem_cons, List.not_mem_nil, or_false] at hz; rcases hz with rfl <;> first | exact ⟨by decide, "java/util/NoSuchElementException", zk_736, List.mem_of_getElem? (i := 16) rfl⟩) ⟨by decide, by decide⟩ (by decide) zk_536 (List.mem_of_getElem? (i := 3) rfl) hce hcv hcl ?_
      refine z_astore_n C0 hl [(3, .ref q), (0, .ref (ad 0)), (1, .int (zI x0)), (2, .ref (ad 408))] (by decide) rfl dL_ticksUntilDelivery_15 (fun ls hl => ?_)
      refine z_iconst C0 dL_ticksUntilDelivery_16 ?_
      exact z_iret C0 Wd hret hlk (zR_mk (by decide) (by decide)) (Or.inr (Or.inr (Or.inl ⟨rfl, hp⟩))) dL_ticksUntilDelivery_17
    · refine z_catch C0 htab [(0, 9, 12, 27), (0, 9, 15, 13)] (0, 9, 18, 110) [] rfl (by intro z hz; simp only [List.mem_cons, List.not_mem_nil, or_false] at hz; rcases hz with rfl | rfl <;> first | exact ⟨by decide, "java/util/NoSuchElementException", zk_736, List.mem_of_getElem? (i := 21) rfl⟩ | exact ⟨by decide, "java/lang/IllegalStateException", zk_536, List.mem_of_getElem? (i := 23) rfl⟩) ⟨by decide, by decide⟩ (by decide) zk_1021 (List.mem_of_getElem? (i := 4) rfl) hce hcv hcl ?_
      refine z_astore_n C0 hl [(3, .ref q), (0, .ref (ad 0)), (1, .int (zI x0)), (2, .ref (ad 408))] (by decide) rfl dL_ticksUntilDelivery_18 (fun ls hl => ?_)
      refine z_iconst C0 dL_ticksUntilDelivery_19 ?_
      exact z_iret C0 Wd hret hlk (zR_mk (by decide) (by decide)) (Or.inr (Or.inr (Or.inr (⟨rfl, hp⟩)))) dL_ticksUntilDelivery_20
theorem hs_passTicks : zKH yL_passTicks cL_passTicks 4 [(0, 9, 12, 21)] 3 := ⟨zk_1120, zk_1119, zk_64, by decide, by decide, by decide +kernel⟩
theorem ch_passTicks (l : Launch) (g : zG) (ad : Int → Nat) (M F : zMem) (x0 : Int) (P : Int → zMem → zMem → Prop) (T : String → zMem → zMem → Prop) (hM : zMx l yX11_passTicks cX11_passTicks 3 (some .int) 8 1 6 g 410 ad [.ref (ad 0), .int (zI x0)] M F (zPi P) T) (hE : ∀ E M' F', T E M' F' → E = "java/lang/IllegalArgumentException") : hMt l yL_passTicks cL_passTicks 4 [(0, 9, 12, 21)] 9 1 6 g ad [.ref (ad 0), .int (zI x0), .ref (ad 408)] M F (zPi (fun k M' F' => (k = 0 ∧ ∃ r M1, zR r ∧ P r M1 F' ∧ M' = zu M1 408 0 r) ∨ (k = 1 ∧ T "java/lang/IllegalArgumentException" M' F'))) := by
  refine hMt.of "DrumWarrenLaw" rfl (by decide +kernel) (Nat.le_of_ble_eq_true rfl) (fun {p e s m args below meth c ls} C0 Wd hl hret hlk hst htab => ?_)
  have hl : lv_has ls 4 [(0, .ref (ad 0)), (1, .int (zI x0)), (2, .ref (ad 408))] := hl
  refine z_aload_n C0 hl 2 rfl dL_passTicks_0 ?_
  refine z_iconst C0 dL_passTicks_1 ?_
  refine z_aload_n C0 hl 0 rfl dL_passTicks_2 ?_
  refine z_iload_n C0 hl 1 rfl dL_passTicks_3 ?_
  refine z_invVH (As := [.int (zI x0)]) (rest := [.int (zI 0), .ref (ad 408)]) C0 Wd hst hM kv_X11_passTicks zN0 (zE_8 zK0) rfl zk_1121 rfl hl.1 rfl (Nat.le_of_ble_eq_true rfl) (by decide) (by decide) dL_passTicks_4 (fun v M1 F1 H locs hp Wd => ?_) (fun E M1 F1 H locs q ce hp Wd hce hcv hcl => ?_)
  · obtain ⟨r, rfl, hr, hp⟩ := hp
    refine z_i2l C0 hr dL_passTicks_7 ?_
    refine z_last C0 Wd zN408 zK408 zL408 (by decide) (by decide) (by decide) hr dL_passTicks_8 (fun H locs Wd => ?_)
    refine z_goto C0 (tgt := 15) dL_passTicks_9 (by decide) ?_
    refine z_iconst C0 dL_passTicks_15 ?_
    exact z_iret C0 Wd hret hlk (zR_mk (by decide) (by decide)) (Or.inl ⟨rfl, r, M1, hr, hp, rfl⟩) dL_passTicks_16
  · rcases hE E M1 F1 hp with rfl
    · refine z_catch C0 htab [] (0, 9, 12, 21) [] rfl (fun _ h => nomatch h) ⟨by decide, by decide⟩ (by decide) zk_716 (List.mem_of_getElem? (i := 2) rfl) hce hcv hcl ?_
      refine z_astore_n C0 hl [(3, .ref q), (0, .ref (ad 0)), (1, .int (zI x0)), (2, .ref (ad 408))] (by decide) rfl dL_passTicks_12 (fun ls hl => ?_)
      refine z_iconst C0 dL_passTicks_13 ?_
      exact z_iret C0 Wd hret hlk (zR_mk (by decide) (by decide)) (Or.inr (⟨rfl, hp⟩)) dL_passTicks_14
theorem hs_thumpsHeard : zKH yL_thumpsHeard cL_thumpsHeard 5 [(0, 10, 13, 19), (0, 10, 17, 21)] 4 := ⟨zk_1132, zk_1131, zk_64, by decide, by decide, by decide +kernel⟩
theorem ch_thumpsHeard (l : Launch) (g : zG) (ad : Int → Nat) (M F : zMem) (x0 : Int) (x1 : Int) (P : Int → zMem → zMem → Prop) (T : String → zMem → zMem → Prop) (hM : zMx l yX11_thumpsHeard cX11_thumpsHeard 3 (some .int) 8 2 12 g 410 ad [.ref (ad 0), .int (zI x0), .int (zI x1)] M F (zPi P) T) (hE : ∀ E M' F', T E M' F' → E = "java/lang/IndexOutOfBoundsException" ∨ E = "java/lang/IllegalArgumentException") : hMt l yL_thumpsHeard cL_thumpsHeard 5 [(0, 10, 13, 19), (0, 10, 17, 21)] 9 2 12 g ad [.ref (ad 0), .int (zI x0), .int (zI x1), .ref (ad 408)] M F (zPi (fun k M' F' => (k = 0 ∧ ∃ r M1, zR r ∧ P r M1 F' ∧ M' = zu M1 408 0 r) ∨ (k = 1 ∧ T "java/lang/IndexOutOfBoundsException" M' F') ∨ (k = 2 ∧ T "java/lang/IllegalArgumentException" M' F'))) := by
  refine hMt.of "DrumWarrenLaw" rfl (by decide +kernel) (Nat.le_of_ble_eq_true rfl) (fun {p e s m args below meth c ls} C0 Wd hl hret hlk hst htab => ?_)
  have hl : lv_has ls 5 [(0, .ref (ad 0)), (1, .int (zI x0)), (2, .int (zI x1)), (3, .ref (ad 408))] := hl
  refine z_aload_n C0 hl 3 rfl dL_thumpsHeard_0 ?_
  refine z_iconst C0 dL_thumpsHeard_1 ?_
  refine z_aload_n C0 hl 0 rfl dL_thumpsHeard_2 ?_
  refine z_iload_n C0 hl 1 rfl dL_thumpsHeard_3 ?_
  refine z_iload_n C0 hl 2 rfl dL_thumpsHeard_4 ?_
  refine z_invVH (As := [.int (zI x0), .int (zI x1)]) (rest := [.int (zI 0), .ref (ad 408)]) C0 Wd hst hM kv_X11_thumpsHeard zN0 (zE_8 zK0) rfl zk_1133 rfl hl.1 rfl (Nat.le_of_ble_eq_true rfl) (by decide) (by decide) dL_thumpsHeard_5 (fun v M1 F1 H locs hp Wd => ?_) (fun E M1 F1 H locs q ce hp Wd hce hcv hcl => ?_)
  · obtain ⟨r, rfl, hr, hp⟩ := hp
    refine z_i2l C0 hr dL_thumpsHeard_8 ?_
    refine z_last C0 Wd zN408 zK408 zL408 (by decide) (by decide) (by decide) hr dL_thumpsHeard_9 (fun H locs Wd => ?_)
    refine z_goto C0 (tgt := 21) dL_thumpsHeard_10 (by decide) ?_
    refine z_iconst C0 dL_thumpsHeard_21 ?_
    exact z_iret C0 Wd hret hlk (zR_mk (by decide) (by decide)) (Or.inl ⟨rfl, r, M1, hr, hp, rfl⟩) dL_thumpsHeard_22
  · rcases hE E M1 F1 hp with rfl | rfl
    · refine z_catch C0 htab [] (0, 10, 13, 19) [(0, 10, 17, 21)] rfl (fun _ h => nomatch h) ⟨by decide, by decide⟩ (by decide) zk_695 (List.mem_of_getElem? (i := 0) rfl) hce hcv hcl ?_
      refine z_astore C0 hl [(4, .ref q), (0, .ref (ad 0)), (1, .int (zI x0)), (2, .int (zI x1)), (3, .ref (ad 408))] (by decide) rfl dL_thumpsHeard_13 (fun ls hl => ?_)
      refine z_iconst C0 dL_thumpsHeard_15 ?_
      exact z_iret C0 Wd hret hlk (zR_mk (by decide) (by decide)) (Or.inr (Or.inl ⟨rfl, hp⟩)) dL_thumpsHeard_16
    · refine z_catch C0 htab [(0, 10, 13, 19)] (0, 10, 17, 21) [] rfl (by intro z hz; simp only [List.mem_cons, List.not_mem_nil, or_false] at hz; rcases hz with rfl <;> first | exact ⟨by decide, "java/lang/IndexOutOfBoundsException", zk_695, List.mem_of_getElem? (i := 10) rfl⟩) ⟨by decide, by decide⟩ (by decide) zk_716 (List.mem_of_getElem? (i := 2) rfl) hce hcv hcl ?_
      refine z_astore C0 hl [(4, .ref q), (0, .ref (ad 0)), (1, .int (zI x0)), (2, .int (zI x1)), (3, .ref (ad 408))] (by decide) rfl dL_thumpsHeard_17 (fun ls hl => ?_)
      refine z_iconst C0 dL_thumpsHeard_19 ?_
      exact z_iret C0 Wd hret hlk (zR_mk (by decide) (by decide)) (Or.inr (Or.inr (⟨rfl, hp⟩))) dL_thumpsHeard_20
theorem hs_meanLoudness : zKH yL_meanLoudness cL_meanLoudness 4 [(0, 9, 12, 19)] 3 := ⟨zk_1141, zk_1140, zk_64, by decide, by decide, by decide +kernel⟩
theorem ch_meanLoudness (l : Launch) (g : zG) (ad : Int → Nat) (M F : zMem) (x0 : Int) (P : UInt32 → zMem → zMem → Prop) (T : String → zMem → zMem → Prop) (hM : zMx l yX11_meanLoudness cX11_meanLoudness 5 (some .float) 8 1 6 g 410 ad [.ref (ad 0), .int (zI x0)] M F (zPf P) T) (hE : ∀ E M' F', T E M' F' → E = "java/lang/IndexOutOfBoundsException") (hN : ∀ r M' F', P r M' F' → vf_n64 (FP.f2d r)) : hMt l yL_meanLoudness cL_meanLoudness 4 [(0, 9, 12, 19)] 9 1 6 g ad [.ref (ad 0), .int (zI x0), .ref (ad 409)] M F (zPi (fun k M' F' => (k = 0 ∧ ∃ r F1, P r M' F1 ∧ F' = zu F1 409 0 (dbi (FP.f2d r))) ∨ (k = 1 ∧ T "java/lang/IndexOutOfBoundsException" M' F'))) := by
  refine hMt.of "DrumWarrenLaw" rfl (by decide +kernel) (Nat.le_of_ble_eq_true rfl) (fun {p e s m args below meth c ls} C0 Wd hl hret hlk hst htab => ?_)
  have hl : lv_has ls 4 [(0, .ref (ad 0)), (1, .int (zI x0)), (2, .ref (ad 409))] := hl
  refine z_aload_n C0 hl 2 rfl dL_meanLoudness_0 ?_
  refine z_iconst C0 dL_meanLoudness_1 ?_
  refine z_aload_n C0 hl 0 rfl dL_meanLoudness_2 ?_
  refine z_iload_n C0 hl 1 rfl dL_meanLoudness_3 ?_
  refine z_invVH (As := [.int (zI x0)]) (rest := [.int (zI 0), .ref (ad 409)]) C0 Wd hst hM kv_X11_meanLoudness zN0 (zE_8 zK0) rfl zk_1142 rfl hl.1 rfl (Nat.le_of_ble_eq_true rfl) (by decide) (by decide) dL_meanLoudness_4 (fun v M1 F1 H locs hp Wd => ?_) (fun E M1 F1 H locs q ce hp Wd hce hcv hcl => ?_)
  · obtain ⟨r, rfl, hp⟩ := hp
    refine z_f2d C0 (hN r M1 F1 hp) dL_meanLoudness_7 ?_
    refine z_dast C0 Wd zN409 zK409 zL409 (by decide) (by decide) (by decide) dL_meanLoudness_8 (fun H locs Wd => ?_)
    refine z_goto C0 (tgt := 15) dL_meanLoudness_9 (by decide) ?_
    refine z_iconst C0 dL_meanLoudness_15 ?_
    exact z_iret C0 Wd hret hlk (zR_mk (by decide) (by decide)) (Or.inl ⟨rfl, r, F1, hp, rfl⟩) dL_meanLoudness_16
  · rcases hE E M1 F1 hp with rfl
    · refine z_catch C0 htab [] (0, 9, 12, 19) [] rfl (fun _ h => nomatch h) ⟨by decide, by decide⟩ (by decide) zk_695 (List.mem_of_getElem? (i := 0) rfl) hce hcv hcl ?_
      refine z_astore_n C0 hl [(3, .ref q), (0, .ref (ad 0)), (1, .int (zI x0)), (2, .ref (ad 409))] (by decide) rfl dL_meanLoudness_12 (fun ls hl => ?_)
      refine z_iconst C0 dL_meanLoudness_13 ?_
      exact z_iret C0 Wd hret hlk (zR_mk (by decide) (by decide)) (Or.inr (⟨rfl, hp⟩)) dL_meanLoudness_14
theorem hs_deliveryFraction : zKH yL_deliveryFraction cL_deliveryFraction 3 [(0, 7, 10, 126)] 2 := ⟨zk_1148, zk_1147, zk_64, by decide, by decide, by decide +kernel⟩
theorem ch_deliveryFraction (l : Launch) (g : zG) (ad : Int → Nat) (M F : zMem) (P : UInt64 → zMem → zMem → Prop) (T : String → zMem → zMem → Prop) (hM : zMx l yX11_deliveryFraction cX11_deliveryFraction 2 (some .double) 8 1 6 g 410 ad [.ref (ad 0)] M F (zPd P) T) (hE : ∀ E M' F', T E M' F' → E = "java/lang/ArithmeticException") : hMt l yL_deliveryFraction cL_deliveryFraction 3 [(0, 7, 10, 126)] 9 1 6 g ad [.ref (ad 0), .ref (ad 409)] M F (zPi (fun k M' F' => (k = 0 ∧ ∃ r F1, P r M' F1 ∧ F' = zu F1 409 0 (dbi r)) ∨ (k = 1 ∧ T "java/lang/ArithmeticException" M' F'))) := by
  refine hMt.of "DrumWarrenLaw" rfl (by decide +kernel) (Nat.le_of_ble_eq_true rfl) (fun {p e s m args below meth c ls} C0 Wd hl hret hlk hst htab => ?_)
  have hl : lv_has ls 3 [(0, .ref (ad 0)), (1, .ref (ad 409))] := hl
  refine z_aload_n C0 hl 1 rfl dL_deliveryFraction_0 ?_
  refine z_iconst C0 dL_deliveryFraction_1 ?_
  refine z_aload_n C0 hl 0 rfl dL_deliveryFraction_2 ?_
  refine z_invVH (As := []) (rest := [.int (zI 0), .ref (ad 409)]) C0 Wd hst hM kv_X11_deliveryFraction zN0 (zE_8 zK0) rfl zk_1163 rfl hl.1 rfl (Nat.le_of_ble_eq_true rfl) (by decide) (by decide) dL_deliveryFraction_3 (fun v M1 F1 H locs hp Wd => ?_) (fun E M1 F1 H locs q ce hp Wd hce hcv hcl => ?_)
  · obtain ⟨r, rfl, hp⟩ := hp
    refine z_dast C0 Wd zN409 zK409 zL409 (by decide) (by decide) (by decide) dL_deliveryFraction_6 (fun H locs Wd => ?_)
    refine z_goto C0 (tgt := 13) dL_deliveryFraction_7 (by decide) ?_
    refine z_iconst C0 dL_deliveryFraction_13 ?_
    exact z_iret C0 Wd hret hlk (zR_mk (by decide) (by decide)) (Or.inl ⟨rfl, r, F1, hp, rfl⟩) dL_deliveryFraction_14
  · rcases hE E M1 F1 hp with rfl
    · refine z_catch C0 htab [] (0, 7, 10, 126) [] rfl (fun _ h => nomatch h) ⟨by decide, by decide⟩ (by decide) zk_1149 (List.mem_of_getElem? (i := 5) rfl) hce hcv hcl ?_
      refine z_astore_n C0 hl [(2, .ref q), (0, .ref (ad 0)), (1, .ref (ad 409))] (by decide) rfl dL_deliveryFraction_10 (fun ls hl => ?_)
      refine z_iconst C0 dL_deliveryFraction_11 ?_
      exact z_iret C0 Wd hret hlk (zR_mk (by decide) (by decide)) (Or.inr (⟨rfl, hp⟩)) dL_deliveryFraction_12
theorem hs_writeMessage : zKH yL_writeMessage cL_writeMessage 4 [(0, 9, 12, 27)] 3 := ⟨zk_1172, zk_1171, zk_64, by decide, by decide, by decide +kernel⟩
theorem ch_writeMessage (l : Launch) (g : zG) (ad : Int → Nat) (M F : zMem) (x0 : Int) (P : Int → zMem → zMem → Prop) (T : String → zMem → zMem → Prop) (hM : zMx l yX11_writeMessage cX11_writeMessage 4 (some .int) 8 1 6 g 410 ad [.ref (ad 0), .int (zI x0)] M F (zPi P) T) (hE : ∀ E M' F', T E M' F' → E = "java/util/NoSuchElementException") : hMt l yL_writeMessage cL_writeMessage 4 [(0, 9, 12, 27)] 9 1 6 g ad [.ref (ad 0), .int (zI x0), .ref (ad 408)] M F (zPi (fun k M' F' => (k = 0 ∧ ∃ r M1, zR r ∧ P r M1 F' ∧ M' = zu M1 408 0 r) ∨ (k = 1 ∧ T "java/util/NoSuchElementException" M' F'))) := by
  refine hMt.of "DrumWarrenLaw" rfl (by decide +kernel) (Nat.le_of_ble_eq_true rfl) (fun {p e s m args below meth c ls} C0 Wd hl hret hlk hst htab => ?_)
  have hl : lv_has ls 4 [(0, .ref (ad 0)), (1, .int (zI x0)), (2, .ref (ad 408))] := hl
  refine z_aload_n C0 hl 2 rfl dL_writeMessage_0 ?_
  refine z_iconst C0 dL_writeMessage_1 ?_
  refine z_aload_n C0 hl 0 rfl dL_writeMessage_2 ?_
  refine z_iload_n C0 hl 1 rfl dL_writeMessage_3 ?_
  refine z_invVH (As := [.int (zI x0)]) (rest := [.int (zI 0), .ref (ad 408)]) C0 Wd hst hM kv_X11_writeMessage zN0 (zE_8 zK0) rfl zk_1173 rfl hl.1 rfl (Nat.le_of_ble_eq_true rfl) (by decide) (by decide) dL_writeMessage_4 (fun v M1 F1 H locs hp Wd => ?_) (fun E M1 F1 H locs q ce hp Wd hce hcv hcl => ?_)
  · obtain ⟨r, rfl, hr, hp⟩ := hp
    refine z_i2l C0 hr dL_writeMessage_7 ?_
    refine z_last C0 Wd zN408 zK408 zL408 (by decide) (by decide) (by decide) hr dL_writeMessage_8 (fun H locs Wd => ?_)
    refine z_goto C0 (tgt := 15) dL_writeMessage_9 (by decide) ?_
    refine z_iconst C0 dL_writeMessage_15 ?_
    exact z_iret C0 Wd hret hlk (zR_mk (by decide) (by decide)) (Or.inl ⟨rfl, r, M1, hr, hp, rfl⟩) dL_writeMessage_16
  · rcases hE E M1 F1 hp with rfl
    · refine z_catch C0 htab [] (0, 9, 12, 27) [] rfl (fun _ h => nomatch h) ⟨by decide, by decide⟩ (by decide) zk_736 (List.mem_of_getElem? (i := 1) rfl) hce hcv hcl ?_
      refine z_astore_n C0 hl [(3, .ref q), (0, .ref (ad 0)), (1, .int (zI x0)), (2, .ref (ad 408))] (by decide) rfl dL_writeMessage_12 (fun ls hl => ?_)
      refine z_iconst C0 dL_writeMessage_13 ?_
      exact z_iret C0 Wd hret hlk (zR_mk (by decide) (by decide)) (Or.inr (⟨rfl, hp⟩)) dL_writeMessage_14
theorem hs_writeCode : zKH yL_writeCode cL_writeCode 4 [(0, 9, 12, 21)] 3 := ⟨zk_1456, zk_1455, zk_64, by decide, by decide, by decide +kernel⟩
theorem ch_writeCode (l : Launch) (g : zG) (ad : Int → Nat) (M F : zMem) (x0 : Int) (P : Int → zMem → zMem → Prop) (T : String → zMem → zMem → Prop) (hM : zMx l yX11_writeCode cX11_writeCode 4 (some .int) 8 1 6 g 410 ad [.ref (ad 0), .int (zI x0)] M F (zPi P) T) (hE : ∀ E M' F', T E M' F' → E = "java/lang/IllegalArgumentException") : hMt l yL_writeCode cL_writeCode 4 [(0, 9, 12, 21)] 9 1 6 g ad [.ref (ad 0), .int (zI x0), .ref (ad 408)] M F (zPi (fun k M' F' => (k = 0 ∧ ∃ r M1, zR r ∧ P r M1 F' ∧ M' = zu M1 408 0 r) ∨ (k = 1 ∧ T "java/lang/IllegalArgumentException" M' F'))) := by
  refine hMt.of "DrumWarrenLaw" rfl (by decide +kernel) (Nat.le_of_ble_eq_true rfl) (fun {p e s m args below meth c ls} C0 Wd hl hret hlk hst htab => ?_)
  have hl : lv_has ls 4 [(0, .ref (ad 0)), (1, .int (zI x0)), (2, .ref (ad 408))] := hl
  refine z_aload_n C0 hl 2 rfl dL_writeCode_0 ?_
  refine z_iconst C0 dL_writeCode_1 ?_
  refine z_aload_n C0 hl 0 rfl dL_writeCode_2 ?_
  refine z_iload_n C0 hl 1 rfl dL_writeCode_3 ?_
  refine z_invVH (As := [.int (zI x0)]) (rest := [.int (zI 0), .ref (ad 408)]) C0 Wd hst hM kv_X11_writeCode zN0 (zE_8 zK0) rfl zk_1457 rfl hl.1 rfl (Nat.le_of_ble_eq_true rfl) (by decide) (by decide) dL_writeCode_4 (fun v M1 F1 H locs hp Wd => ?_) (fun E M1 F1 H locs q ce hp Wd hce hcv hcl => ?_)
  · obtain ⟨r, rfl, hr, hp⟩ := hp
    refine z_i2l C0 hr dL_writeCode_7 ?_
    refine z_last C0 Wd zN408 zK408 zL408 (by decide) (by decide) (by decide) hr dL_writeCode_8 (fun H locs Wd => ?_)
    refine z_goto C0 (tgt := 15) dL_writeCode_9 (by decide) ?_
    refine z_iconst C0 dL_writeCode_15 ?_
    exact z_iret C0 Wd hret hlk (zR_mk (by decide) (by decide)) (Or.inl ⟨rfl, r, M1, hr, hp, rfl⟩) dL_writeCode_16
  · rcases hE E M1 F1 hp with rfl
    · refine z_catch C0 htab [] (0, 9, 12, 21) [] rfl (fun _ h => nomatch h) ⟨by decide, by decide⟩ (by decide) zk_716 (List.mem_of_getElem? (i := 2) rfl) hce hcv hcl ?_
      refine z_astore_n C0 hl [(3, .ref q), (0, .ref (ad 0)), (1, .int (zI x0)), (2, .ref (ad 408))] (by decide) rfl dL_writeCode_12 (fun ls hl => ?_)
      refine z_iconst C0 dL_writeCode_13 ?_
      exact z_iret C0 Wd hret hlk (zR_mk (by decide) (by decide)) (Or.inr (⟨rfl, hp⟩)) dL_writeCode_14
theorem hs_outputCharacter : zKH yL_outputCharacter cL_outputCharacter 4 [(0, 9, 12, 19)] 3 := ⟨zk_1463, zk_1462, zk_64, by decide, by decide, by decide +kernel⟩
theorem ch_outputCharacter (l : Launch) (g : zG) (ad : Int → Nat) (M F : zMem) (x0 : Int) (P : Int → zMem → zMem → Prop) (T : String → zMem → zMem → Prop) (hM : zMx l yX11_outputCharacter cX11_outputCharacter 2 (some .char) 8 1 6 g 410 ad [.ref (ad 0), .int (zI x0)] M F (zPi P) T) (hE : ∀ E M' F', T E M' F' → E = "java/lang/IndexOutOfBoundsException") : hMt l yL_outputCharacter cL_outputCharacter 4 [(0, 9, 12, 19)] 9 1 6 g ad [.ref (ad 0), .int (zI x0), .ref (ad 408)] M F (zPi (fun k M' F' => (k = 0 ∧ ∃ r M1, zR r ∧ P r M1 F' ∧ M' = zu M1 408 0 r) ∨ (k = 1 ∧ T "java/lang/IndexOutOfBoundsException" M' F'))) := by
  refine hMt.of "DrumWarrenLaw" rfl (by decide +kernel) (Nat.le_of_ble_eq_true rfl) (fun {p e s m args below meth c ls} C0 Wd hl hret hlk hst htab => ?_)
  have hl : lv_has ls 4 [(0, .ref (ad 0)), (1, .int (zI x0)), (2, .ref (ad 408))] := hl
  refine z_aload_n C0 hl 2 rfl dL_outputCharacter_0 ?_
  refine z_iconst C0 dL_outputCharacter_1 ?_
  refine z_aload_n C0 hl 0 rfl dL_outputCharacter_2 ?_
  refine z_iload_n C0 hl 1 rfl dL_outputCharacter_3 ?_
  refine z_invVH (As := [.int (zI x0)]) (rest := [.int (zI 0), .ref (ad 408)]) C0 Wd hst hM kv_X11_outputCharacter zN0 (zE_8 zK0) rfl zk_1464 rfl hl.1 rfl (Nat.le_of_ble_eq_true rfl) (by decide) (by decide) dL_outputCharacter_4 (fun v M1 F1 H locs hp Wd => ?_) (fun E M1 F1 H locs q ce hp Wd hce hcv hcl => ?_)
  · obtain ⟨r, rfl, hr, hp⟩ := hp
    refine z_i2l C0 hr dL_outputCharacter_7 ?_
    refine z_last C0 Wd zN408 zK408 zL408 (by decide) (by decide) (by decide) hr dL_outputCharacter_8 (fun H locs Wd => ?_)
    refine z_goto C0 (tgt := 15) dL_outputCharacter_9 (by decide) ?_
    refine z_iconst C0 dL_outputCharacter_15 ?_
    exact z_iret C0 Wd hret hlk (zR_mk (by decide) (by decide)) (Or.inl ⟨rfl, r, M1, hr, hp, rfl⟩) dL_outputCharacter_16
  · rcases hE E M1 F1 hp with rfl
    · refine z_catch C0 htab [] (0, 9, 12, 19) [] rfl (fun _ h => nomatch h) ⟨by decide, by decide⟩ (by decide) zk_695 (List.mem_of_getElem? (i := 0) rfl) hce hcv hcl ?_
      refine z_astore_n C0 hl [(3, .ref q), (0, .ref (ad 0)), (1, .int (zI x0)), (2, .ref (ad 408))] (by decide) rfl dL_outputCharacter_12 (fun ls hl => ?_)
      refine z_iconst C0 dL_outputCharacter_13 ?_
      exact z_iret C0 Wd hret hlk (zR_mk (by decide) (by decide)) (Or.inr (⟨rfl, hp⟩)) dL_outputCharacter_14
theorem hs_feed : zKH yL_feed cL_feed 4 [(0, 9, 12, 13)] 3 := ⟨zk_1481, zk_1480, zk_64, by decide, by decide, by decide +kernel⟩
theorem ch_feed (l : Launch) (g : zG) (ad : Int → Nat) (M F : zMem) (x0 : Int) (P : Int → zMem → zMem → Prop) (T : String → zMem → zMem → Prop) (hM : zMx l yX11_feed cX11_feed 2 (some .int) 8 1 6 g 410 ad [.ref (ad 0), .int (zI x0)] M F (zPi P) T) (hE : ∀ E M' F', T E M' F' → E = "java/lang/IllegalStateException") : hMt l yL_feed cL_feed 4 [(0, 9, 12, 13)] 9 1 6 g ad [.ref (ad 0), .int (zI x0), .ref (ad 408)] M F (zPi (fun k M' F' => (k = 0 ∧ ∃ r M1, zR r ∧ P r M1 F' ∧ M' = zu M1 408 0 r) ∨ (k = 1 ∧ T "java/lang/IllegalStateException" M' F'))) := by
  refine hMt.of "DrumWarrenLaw" rfl (by decide +kernel) (Nat.le_of_ble_eq_true rfl) (fun {p e s m args below meth c ls} C0 Wd hl hret hlk hst htab => ?_)
  have hl : lv_has ls 4 [(0, .ref (ad 0)), (1, .int (zI x0)), (2, .ref (ad 408))] := hl
  refine z_aload_n C0 hl 2 rfl dL_feed_0 ?_
  refine z_iconst C0 dL_feed_1 ?_
  refine z_aload_n C0 hl 0 rfl dL_feed_2 ?_
  refine z_iload_n C0 hl 1 rfl dL_feed_3 ?_
  refine z_invVH (As := [.int (zI x0)]) (rest := [.int (zI 0), .ref (ad 408)]) C0 Wd hst hM kv_X11_feed zN0 (zE_8 zK0) rfl zk_1482 rfl hl.1 rfl (Nat.le_of_ble_eq_true rfl) (by decide) (by decide) dL_feed_4 (fun v M1 F1 H locs hp Wd => ?_) (fun E M1 F1 H locs q ce hp Wd hce hcv hcl => ?_)
  · obtain ⟨r, rfl, hr, hp⟩ := hp
    refine z_i2l C0 hr dL_feed_7 ?_
    refine z_last C0 Wd zN408 zK408 zL408 (by decide) (by decide) (by decide) hr dL_feed_8 (fun H locs Wd => ?_)
    refine z_goto C0 (tgt := 15) dL_feed_9 (by decide) ?_
    refine z_iconst C0 dL_feed_15 ?_
    exact z_iret C0 Wd hret hlk (zR_mk (by decide) (by decide)) (Or.inl ⟨rfl, r, M1, hr, hp, rfl⟩) dL_feed_16
  · rcases hE E M1 F1 hp with rfl
    · refine z_catch C0 htab [] (0, 9, 12, 13) [] rfl (fun _ h => nomatch h) ⟨by decide, by decide⟩ (by decide) zk_536 (List.mem_of_getElem? (i := 3) rfl) hce hcv hcl ?_
      refine z_astore_n C0 hl [(3, .ref q), (0, .ref (ad 0)), (1, .int (zI x0)), (2, .ref (ad 408))] (by decide) rfl dL_feed_12 (fun ls hl => ?_)
      refine z_iconst C0 dL_feed_13 ?_
      exact z_iret C0 Wd hret hlk (zR_mk (by decide) (by decide)) (Or.inr (⟨rfl, hp⟩)) dL_feed_14
theorem hs_execute : zKH yL_execute cL_execute 3 [(0, 8, 11, 21), (0, 8, 14, 110)] 2 := ⟨zk_1493, zk_1492, zk_64, by decide, by decide, by decide +kernel⟩
theorem ch_execute (l : Launch) (g : zG) (ad : Int → Nat) (M F : zMem) (P : Int → zMem → zMem → Prop) (T : String → zMem → zMem → Prop) (hM : zMx l yX11_execute cX11_execute 2 (some .int) 10 1 6 g 410 ad [.ref (ad 0)] M F (zPi P) T) (hE : ∀ E M' F', T E M' F' → E = "java/lang/IllegalArgumentException" ∨ E = "java/lang/UnsupportedOperationException") : hMt l yL_execute cL_execute 3 [(0, 8, 11, 21), (0, 8, 14, 110)] 11 1 6 g ad [.ref (ad 0), .ref (ad 408)] M F (zPi (fun k M' F' => (k = 0 ∧ ∃ r M1, zR r ∧ P r M1 F' ∧ M' = zu M1 408 0 r) ∨ (k = 1 ∧ T "java/lang/IllegalArgumentException" M' F') ∨ (k = 2 ∧ T "java/lang/UnsupportedOperationException" M' F'))) := by
  refine hMt.of "DrumWarrenLaw" rfl (by decide +kernel) (Nat.le_of_ble_eq_true rfl) (fun {p e s m args below meth c ls} C0 Wd hl hret hlk hst htab => ?_)
  have hl : lv_has ls 3 [(0, .ref (ad 0)), (1, .ref (ad 408))] := hl
  refine z_aload_n C0 hl 1 rfl dL_execute_0 ?_
  refine z_iconst C0 dL_execute_1 ?_
  refine z_aload_n C0 hl 0 rfl dL_execute_2 ?_
  refine z_invVH (As := []) (rest := [.int (zI 0), .ref (ad 408)]) C0 Wd hst hM kv_X11_execute zN0 (zE_8 zK0) rfl zk_1494 rfl hl.1 rfl (Nat.le_of_ble_eq_true rfl) (by decide) (by decide) dL_execute_3 (fun v M1 F1 H locs hp Wd => ?_) (fun E M1 F1 H locs q ce hp Wd hce hcv hcl => ?_)
  · obtain ⟨r, rfl, hr, hp⟩ := hp
    refine z_i2l C0 hr dL_execute_6 ?_
    refine z_last C0 Wd zN408 zK408 zL408 (by decide) (by decide) (by decide) hr dL_execute_7 (fun H locs Wd => ?_)
    refine z_goto C0 (tgt := 17) dL_execute_8 (by decide) ?_
    refine z_iconst C0 dL_execute_17 ?_
    exact z_iret C0 Wd hret hlk (zR_mk (by decide) (by decide)) (Or.inl ⟨rfl, r, M1, hr, hp, rfl⟩) dL_execute_18
  · rcases hE E M1 F1 hp with rfl | rfl
    · refine z_catch C0 htab [] (0, 8, 11, 21) [(0, 8, 14, 110)] rfl (fun _ h => nomatch h) ⟨by decide, by decide⟩ (by decide) zk_716 (List.mem_of_getElem? (i := 2) rfl) hce hcv hcl ?_
      refine z_astore_n C0 hl [(2, .ref q), (0, .ref (ad 0)), (1, .ref (ad 408))] (by decide) rfl dL_execute_11 (fun ls hl => ?_)
      refine z_iconst C0 dL_execute_12 ?_
      exact z_iret C0 Wd hret hlk (zR_mk (by decide) (by decide)) (Or.inr (Or.inl ⟨rfl, hp⟩)) dL_execute_13
    · refine z_catch C0 htab [(0, 8, 11, 21)] (0, 8, 14, 110) [] rfl (by intro z hz; simp only [List.mem_cons, List.not_mem_nil, or_false] at hz; rcases hz with rfl <;> first | exact ⟨by decide, "java/lang/IllegalArgumentException", zk_716, List.mem_of_getElem? (i := 22) rfl⟩) ⟨by decide, by decide⟩ (by decide) zk_1021 (List.mem_of_getElem? (i := 4) rfl) hce hcv hcl ?_
      refine z_astore_n C0 hl [(2, .ref q), (0, .ref (ad 0)), (1, .ref (ad 408))] (by decide) rfl dL_execute_14 (fun ls hl => ?_)
      refine z_iconst C0 dL_execute_15 ?_
      exact z_iret C0 Wd hret hlk (zR_mk (by decide) (by decide)) (Or.inr (Or.inr (⟨rfl, hp⟩))) dL_execute_16
theorem hs_errorPosition : zKH yL_errorPosition cL_errorPosition 3 [(0, 8, 11, 27)] 2 := ⟨zk_1572, zk_1571, zk_64, by decide, by decide, by decide +kernel⟩
theorem ch_errorPosition (l : Launch) (g : zG) (ad : Int → Nat) (M F : zMem) (P : Int → zMem → zMem → Prop) (T : String → zMem → zMem → Prop) (hM : zMx l yX11_errorPosition cX11_errorPosition 1 (some .int) 8 1 6 g 410 ad [.ref (ad 0)] M F (zPi P) T) (hE : ∀ E M' F', T E M' F' → E = "java/util/NoSuchElementException") : hMt l yL_errorPosition cL_errorPosition 3 [(0, 8, 11, 27)] 9 1 6 g ad [.ref (ad 0), .ref (ad 408)] M F (zPi (fun k M' F' => (k = 0 ∧ ∃ r M1, zR r ∧ P r M1 F' ∧ M' = zu M1 408 0 r) ∨ (k = 1 ∧ T "java/util/NoSuchElementException" M' F'))) := by
  refine hMt.of "DrumWarrenLaw" rfl (by decide +kernel) (Nat.le_of_ble_eq_true rfl) (fun {p e s m args below meth c ls} C0 Wd hl hret hlk hst htab => ?_)
  have hl : lv_has ls 3 [(0, .ref (ad 0)), (1, .ref (ad 408))] := hl
  refine z_aload_n C0 hl 1 rfl dL_errorPosition_0 ?_
  refine z_iconst C0 dL_errorPosition_1 ?_
  refine z_aload_n C0 hl 0 rfl dL_errorPosition_2 ?_
  refine z_invVH (As := []) (rest := [.int (zI 0), .ref (ad 408)]) C0 Wd hst hM kv_X11_errorPosition zN0 (zE_8 zK0) rfl zk_1573 rfl hl.1 rfl (Nat.le_of_ble_eq_true rfl) (by decide) (by decide) dL_errorPosition_3 (fun v M1 F1 H locs hp Wd => ?_) (fun E M1 F1 H locs q ce hp Wd hce hcv hcl => ?_)
  · obtain ⟨r, rfl, hr, hp⟩ := hp
    refine z_i2l C0 hr dL_errorPosition_6 ?_
    refine z_last C0 Wd zN408 zK408 zL408 (by decide) (by decide) (by decide) hr dL_errorPosition_7 (fun H locs Wd => ?_)
    refine z_goto C0 (tgt := 14) dL_errorPosition_8 (by decide) ?_
    refine z_iconst C0 dL_errorPosition_14 ?_
    exact z_iret C0 Wd hret hlk (zR_mk (by decide) (by decide)) (Or.inl ⟨rfl, r, M1, hr, hp, rfl⟩) dL_errorPosition_15
  · rcases hE E M1 F1 hp with rfl
    · refine z_catch C0 htab [] (0, 8, 11, 27) [] rfl (fun _ h => nomatch h) ⟨by decide, by decide⟩ (by decide) zk_736 (List.mem_of_getElem? (i := 1) rfl) hce hcv hcl ?_
      refine z_astore_n C0 hl [(2, .ref q), (0, .ref (ad 0)), (1, .ref (ad 408))] (by decide) rfl dL_errorPosition_11 (fun ls hl => ?_)
      refine z_iconst C0 dL_errorPosition_12 ?_
      exact z_iret C0 Wd hret hlk (zR_mk (by decide) (by decide)) (Or.inr (⟨rfl, hp⟩)) dL_errorPosition_13
theorem hs_failedCommand : zKH yL_failedCommand cL_failedCommand 3 [(0, 8, 11, 27)] 2 := ⟨zk_1580, zk_1579, zk_64, by decide, by decide, by decide +kernel⟩
theorem ch_failedCommand (l : Launch) (g : zG) (ad : Int → Nat) (M F : zMem) (P : Int → zMem → zMem → Prop) (T : String → zMem → zMem → Prop) (hM : zMx l yX11_failedCommand cX11_failedCommand 1 (some .int) 8 1 6 g 410 ad [.ref (ad 0)] M F (zPi P) T) (hE : ∀ E M' F', T E M' F' → E = "java/util/NoSuchElementException") : hMt l yL_failedCommand cL_failedCommand 3 [(0, 8, 11, 27)] 9 1 6 g ad [.ref (ad 0), .ref (ad 408)] M F (zPi (fun k M' F' => (k = 0 ∧ ∃ r M1, zR r ∧ P r M1 F' ∧ M' = zu M1 408 0 r) ∨ (k = 1 ∧ T "java/util/NoSuchElementException" M' F'))) := by
  refine hMt.of "DrumWarrenLaw" rfl (by decide +kernel) (Nat.le_of_ble_eq_true rfl) (fun {p e s m args below meth c ls} C0 Wd hl hret hlk hst htab => ?_)
  have hl : lv_has ls 3 [(0, .ref (ad 0)), (1, .ref (ad 408))] := hl
  refine z_aload_n C0 hl 1 rfl dL_failedCommand_0 ?_
  refine z_iconst C0 dL_failedCommand_1 ?_
  refine z_aload_n C0 hl 0 rfl dL_failedCommand_2 ?_
  refine z_invVH (As := []) (rest := [.int (zI 0), .ref (ad 408)]) C0 Wd hst hM kv_X11_failedCommand zN0 (zE_8 zK0) rfl zk_1581 rfl hl.1 rfl (Nat.le_of_ble_eq_true rfl) (by decide) (by decide) dL_failedCommand_3 (fun v M1 F1 H locs hp Wd => ?_) (fun E M1 F1 H locs q ce hp Wd hce hcv hcl => ?_)
  · obtain ⟨r, rfl, hr, hp⟩ := hp
    refine z_i2l C0 hr dL_failedCommand_6 ?_
    refine z_last C0 Wd zN408 zK408 zL408 (by decide) (by decide) (by decide) hr dL_failedCommand_7 (fun H locs Wd => ?_)
    refine z_goto C0 (tgt := 14) dL_failedCommand_8 (by decide) ?_
    refine z_iconst C0 dL_failedCommand_14 ?_
    exact z_iret C0 Wd hret hlk (zR_mk (by decide) (by decide)) (Or.inl ⟨rfl, r, M1, hr, hp, rfl⟩) dL_failedCommand_15
  · rcases hE E M1 F1 hp with rfl
    · refine z_catch C0 htab [] (0, 8, 11, 27) [] rfl (fun _ h => nomatch h) ⟨by decide, by decide⟩ (by decide) zk_736 (List.mem_of_getElem? (i := 1) rfl) hce hcv hcl ?_
      refine z_astore_n C0 hl [(2, .ref q), (0, .ref (ad 0)), (1, .ref (ad 408))] (by decide) rfl dL_failedCommand_11 (fun ls hl => ?_)
      refine z_iconst C0 dL_failedCommand_12 ?_
      exact z_iret C0 Wd hret hlk (zR_mk (by decide) (by decide)) (Or.inr (⟨rfl, hp⟩)) dL_failedCommand_13
theorem hs_undo : zKH yL_undo cL_undo 3 [(0, 8, 11, 13)] 2 := ⟨zk_1588, zk_1587, zk_64, by decide, by decide, by decide +kernel⟩
theorem ch_undo (l : Launch) (g : zG) (ad : Int → Nat) (M F : zMem) (P : Int → zMem → zMem → Prop) (T : String → zMem → zMem → Prop) (hM : zMx l yX11_undo cX11_undo 1 (some .int) 8 1 6 g 410 ad [.ref (ad 0)] M F (zPi P) T) (hE : ∀ E M' F', T E M' F' → E = "java/lang/IllegalStateException") : hMt l yL_undo cL_undo 3 [(0, 8, 11, 13)] 9 1 6 g ad [.ref (ad 0), .ref (ad 408)] M F (zPi (fun k M' F' => (k = 0 ∧ ∃ r M1, zR r ∧ P r M1 F' ∧ M' = zu M1 408 0 r) ∨ (k = 1 ∧ T "java/lang/IllegalStateException" M' F'))) := by
  refine hMt.of "DrumWarrenLaw" rfl (by decide +kernel) (Nat.le_of_ble_eq_true rfl) (fun {p e s m args below meth c ls} C0 Wd hl hret hlk hst htab => ?_)
  have hl : lv_has ls 3 [(0, .ref (ad 0)), (1, .ref (ad 408))] := hl
  refine z_aload_n C0 hl 1 rfl dL_undo_0 ?_
  refine z_iconst C0 dL_undo_1 ?_
  refine z_aload_n C0 hl 0 rfl dL_undo_2 ?_
  refine z_invVH (As := []) (rest := [.int (zI 0), .ref (ad 408)]) C0 Wd hst hM kv_X11_undo zN0 (zE_8 zK0) rfl zk_1589 rfl hl.1 rfl (Nat.le_of_ble_eq_true rfl) (by decide) (by decide) dL_undo_3 (fun v M1 F1 H locs hp Wd => ?_) (fun E M1 F1 H locs q ce hp Wd hce hcv hcl => ?_)
  · obtain ⟨r, rfl, hr, hp⟩ := hp
    refine z_i2l C0 hr dL_undo_6 ?_
    refine z_last C0 Wd zN408 zK408 zL408 (by decide) (by decide) (by decide) hr dL_undo_7 (fun H locs Wd => ?_)
    refine z_goto C0 (tgt := 14) dL_undo_8 (by decide) ?_
    refine z_iconst C0 dL_undo_14 ?_
    exact z_iret C0 Wd hret hlk (zR_mk (by decide) (by decide)) (Or.inl ⟨rfl, r, M1, hr, hp, rfl⟩) dL_undo_15
  · rcases hE E M1 F1 hp with rfl
    · refine z_catch C0 htab [] (0, 8, 11, 13) [] rfl (fun _ h => nomatch h) ⟨by decide, by decide⟩ (by decide) zk_536 (List.mem_of_getElem? (i := 3) rfl) hce hcv hcl ?_
      refine z_astore_n C0 hl [(2, .ref q), (0, .ref (ad 0)), (1, .ref (ad 408))] (by decide) rfl dL_undo_11 (fun ls hl => ?_)
      refine z_iconst C0 dL_undo_12 ?_
      exact z_iret C0 Wd hret hlk (zR_mk (by decide) (by decide)) (Or.inr (⟨rfl, hp⟩)) dL_undo_13
theorem hs_restore : zKH yL_restore cL_restore 3 [(0, 8, 11, 13)] 2 := ⟨zk_1600, zk_1599, zk_64, by decide, by decide, by decide +kernel⟩
theorem ch_restore (l : Launch) (g : zG) (ad : Int → Nat) (M F : zMem) (P : Int → zMem → zMem → Prop) (T : String → zMem → zMem → Prop) (hM : zMx l yX11_restore cX11_restore 1 (some .int) 8 1 6 g 410 ad [.ref (ad 0)] M F (zPi P) T) (hE : ∀ E M' F', T E M' F' → E = "java/lang/IllegalStateException") : hMt l yL_restore cL_restore 3 [(0, 8, 11, 13)] 9 1 6 g ad [.ref (ad 0), .ref (ad 408)] M F (zPi (fun k M' F' => (k = 0 ∧ ∃ r M1, zR r ∧ P r M1 F' ∧ M' = zu M1 408 0 r) ∨ (k = 1 ∧ T "java/lang/IllegalStateException" M' F'))) := by
  refine hMt.of "DrumWarrenLaw" rfl (by decide +kernel) (Nat.le_of_ble_eq_true rfl) (fun {p e s m args below meth c ls} C0 Wd hl hret hlk hst htab => ?_)
  have hl : lv_has ls 3 [(0, .ref (ad 0)), (1, .ref (ad 408))] := hl
  refine z_aload_n C0 hl 1 rfl dL_restore_0 ?_
  refine z_iconst C0 dL_restore_1 ?_
  refine z_aload_n C0 hl 0 rfl dL_restore_2 ?_
  refine z_invVH (As := []) (rest := [.int (zI 0), .ref (ad 408)]) C0 Wd hst hM kv_X11_restore zN0 (zE_8 zK0) rfl zk_1601 rfl hl.1 rfl (Nat.le_of_ble_eq_true rfl) (by decide) (by decide) dL_restore_3 (fun v M1 F1 H locs hp Wd => ?_) (fun E M1 F1 H locs q ce hp Wd hce hcv hcl => ?_)
  · obtain ⟨r, rfl, hr, hp⟩ := hp
    refine z_i2l C0 hr dL_restore_6 ?_
    refine z_last C0 Wd zN408 zK408 zL408 (by decide) (by decide) (by decide) hr dL_restore_7 (fun H locs Wd => ?_)
    refine z_goto C0 (tgt := 14) dL_restore_8 (by decide) ?_
    refine z_iconst C0 dL_restore_14 ?_
    exact z_iret C0 Wd hret hlk (zR_mk (by decide) (by decide)) (Or.inl ⟨rfl, r, M1, hr, hp, rfl⟩) dL_restore_15
  · rcases hE E M1 F1 hp with rfl
    · refine z_catch C0 htab [] (0, 8, 11, 13) [] rfl (fun _ h => nomatch h) ⟨by decide, by decide⟩ (by decide) zk_536 (List.mem_of_getElem? (i := 3) rfl) hce hcv hcl ?_
      refine z_astore_n C0 hl [(2, .ref q), (0, .ref (ad 0)), (1, .ref (ad 408))] (by decide) rfl dL_restore_11 (fun ls hl => ?_)
      refine z_iconst C0 dL_restore_12 ?_
      exact z_iret C0 Wd hret hlk (zR_mk (by decide) (by decide)) (Or.inr (⟨rfl, hp⟩)) dL_restore_13
