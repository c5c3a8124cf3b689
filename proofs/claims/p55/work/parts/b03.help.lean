/-! the helpers of the law -/
theorem hs_addChamber : zKH yL_addChamber cL_addChamber 2 [(0, 4, 5, 14)] 1 := ⟨zk_376, zk_375, zk_24, by decide, by decide, by decide +kernel⟩
theorem ch_addChamber (l : Launch) (g : zG) (zX : va_W) (ad : Int → Nat) (M F : zMem) (P : Int → zMem → zMem → Prop) (T : String → zMem → zMem → Prop) (hM : zMx l yX11_addChamber cX11_addChamber 1 (some .int) 8 1 6 g (0, 398, zX) ad [.ref (ad 0)] M F (zPi P) T) (hE : ∀ E M' F', T E M' F' → E = "java/lang/IllegalStateException") : hMt l yL_addChamber cL_addChamber 2 [(0, 4, 5, 14)] 9 1 6 g zX ad [.ref (ad 0)] M F (zPi (fun k M' F' => (P k M' F') ∨ (k = -1 ∧ T "java/lang/IllegalStateException" M' F'))) := by
  refine hMt.of "DrumWarrenLaw" rfl (by decide +kernel) (Nat.le_of_ble_eq_true rfl) (fun {p e s m args below meth c ls} C0 Wd hl hret hlk hst htab => ?_)
  have hl : lv_has ls 2 [(0, .ref (ad 0))] := hl
  refine z_aload_n C0 hl 0 rfl dL_addChamber_0 ?_
  refine z_invVH (As := []) (rest := []) C0 Wd hst hM kv_X11_addChamber zN0 (zE_8 zK0) rfl zk_378 rfl hl.1 rfl (Nat.le_of_ble_eq_true rfl) (by decide) (by decide) dL_addChamber_1 (fun v M1 F1 H locs hp Wd => ?_) (fun E M1 F1 H locs q ce hp Wd hce hcv hcl => ?_)
  · obtain ⟨r, rfl, hr, hp⟩ := hp
    exact z_iret C0 Wd hret hlk hr (Or.inl hp) dL_addChamber_4
  · rcases hE E M1 F1 hp with rfl
    · refine z_catch C0 htab [] (0, 4, 5, 14) [] rfl (fun _ h => nomatch h) ⟨by decide, by decide⟩ (by decide) zk_377 (List.mem_of_getElem? (i := 3) rfl) hce hcv hcl ?_
      refine z_astore_n C0 hl [(1, .ref q), (0, .ref (ad 0))] (by decide) rfl dL_addChamber_5 (fun ls hl => ?_)
      refine z_iconst C0 dL_addChamber_6 ?_
      exact z_iret C0 Wd hret hlk (zR_mk (by decide) (by decide)) (Or.inr (⟨rfl, hp⟩)) dL_addChamber_7
theorem hs_addTunnel : zKH yL_addTunnel cL_addTunnel 5 [(0, 7, 8, 20), (0, 7, 12, 22), (0, 7, 17, 14)] 4 := ⟨zk_559, zk_558, zk_24, by decide, by decide, by decide +kernel⟩
theorem ch_addTunnel (l : Launch) (g : zG) (zX : va_W) (ad : Int → Nat) (M F : zMem) (x0 : Int) (x1 : Int) (x2 : Int) (P : Int → zMem → zMem → Prop) (T : String → zMem → zMem → Prop) (hM : zMx l yX11_addTunnel cX11_addTunnel 4 (some .int) 8 1 6 g (0, 398, zX) ad [.ref (ad 0), .int (zI x0), .int (zI x1), .int (zI x2)] M F (zPi P) T) (hE : ∀ E M' F', T E M' F' → E = "java/lang/IndexOutOfBoundsException" ∨ E = "java/lang/IllegalArgumentException" ∨ E = "java/lang/IllegalStateException") : hMt l yL_addTunnel cL_addTunnel 5 [(0, 7, 8, 20), (0, 7, 12, 22), (0, 7, 17, 14)] 9 1 6 g zX ad [.ref (ad 0), .int (zI x0), .int (zI x1), .int (zI x2)] M F (zPi (fun k M' F' => (P k M' F') ∨ (k = -1 ∧ T "java/lang/IndexOutOfBoundsException" M' F') ∨ (k = -2 ∧ T "java/lang/IllegalArgumentException" M' F') ∨ (k = -3 ∧ T "java/lang/IllegalStateException" M' F'))) := by
  refine hMt.of "DrumWarrenLaw" rfl (by decide +kernel) (Nat.le_of_ble_eq_true rfl) (fun {p e s m args below meth c ls} C0 Wd hl hret hlk hst htab => ?_)
  have hl : lv_has ls 5 [(0, .ref (ad 0)), (1, .int (zI x0)), (2, .int (zI x1)), (3, .int (zI x2))] := hl
  refine z_aload_n C0 hl 0 rfl dL_addTunnel_0 ?_
  refine z_iload_n C0 hl 1 rfl dL_addTunnel_1 ?_
  refine z_iload_n C0 hl 2 rfl dL_addTunnel_2 ?_
  refine z_iload_n C0 hl 3 rfl dL_addTunnel_3 ?_
  refine z_invVH (As := [.int (zI x0), .int (zI x1), .int (zI x2)]) (rest := []) C0 Wd hst hM kv_X11_addTunnel zN0 (zE_8 zK0) rfl zk_582 rfl hl.1 rfl (Nat.le_of_ble_eq_true rfl) (by decide) (by decide) dL_addTunnel_4 (fun v M1 F1 H locs hp Wd => ?_) (fun E M1 F1 H locs q ce hp Wd hce hcv hcl => ?_)
  · obtain ⟨r, rfl, hr, hp⟩ := hp
    exact z_iret C0 Wd hret hlk hr (Or.inl hp) dL_addTunnel_7
  · rcases hE E M1 F1 hp with rfl | rfl | rfl
    · refine z_catch C0 htab [] (0, 7, 8, 20) [(0, 7, 12, 22), (0, 7, 17, 14)] rfl (fun _ h => nomatch h) ⟨by decide, by decide⟩ (by decide) zk_560 (List.mem_of_getElem? (i := 0) rfl) hce hcv hcl ?_
      refine z_astore C0 hl [(4, .ref q), (0, .ref (ad 0)), (1, .int (zI x0)), (2, .int (zI x1)), (3, .int (zI x2))] (by decide) rfl dL_addTunnel_8 (fun ls hl => ?_)
      refine z_iconst C0 dL_addTunnel_10 ?_
      exact z_iret C0 Wd hret hlk (zR_mk (by decide) (by decide)) (Or.inr (Or.inl ⟨rfl, hp⟩)) dL_addTunnel_11
    · refine z_catch C0 htab [(0, 7, 8, 20)] (0, 7, 12, 22) [(0, 7, 17, 14)] rfl (by intro z hz; simp only [List.mem_cons, List.not_mem_nil, or_false] at hz; rcases hz with rfl <;> first | exact ⟨by decide, "java/lang/IndexOutOfBoundsException", zk_560, List.mem_of_getElem? (i := 8) rfl⟩) ⟨by decide, by decide⟩ (by decide) zk_581 (List.mem_of_getElem? (i := 2) rfl) hce hcv hcl ?_
      refine z_astore C0 hl [(4, .ref q), (0, .ref (ad 0)), (1, .int (zI x0)), (2, .int (zI x1)), (3, .int (zI x2))] (by decide) rfl dL_addTunnel_12 (fun ls hl => ?_)
      refine z_bipush C0 dL_addTunnel_14 (by decide) ?_
      exact z_iret C0 Wd hret hlk (zR_mk (by decide) (by decide)) (Or.inr (Or.inr (Or.inl ⟨rfl, hp⟩))) dL_addTunnel_16
    · refine z_catch C0 htab [(0, 7, 8, 20), (0, 7, 12, 22)] (0, 7, 17, 14) [] rfl (by intro z hz; simp only [List.mem_cons, List.not_mem_nil, or_false] at hz; rcases hz with rfl | rfl <;> first | exact ⟨by decide, "java/lang/IndexOutOfBoundsException", zk_560, List.mem_of_getElem? (i := 12) rfl⟩ | exact ⟨by decide, "java/lang/IllegalArgumentException", zk_581, List.mem_of_getElem? (i := 14) rfl⟩) ⟨by decide, by decide⟩ (by decide) zk_377 (List.mem_of_getElem? (i := 3) rfl) hce hcv hcl ?_
      refine z_astore C0 hl [(4, .ref q), (0, .ref (ad 0)), (1, .int (zI x0)), (2, .int (zI x1)), (3, .int (zI x2))] (by decide) rfl dL_addTunnel_17 (fun ls hl => ?_)
      refine z_bipush C0 dL_addTunnel_19 (by decide) ?_
      exact z_iret C0 Wd hret hlk (zR_mk (by decide) (by decide)) (Or.inr (Or.inr (Or.inr (⟨rfl, hp⟩)))) dL_addTunnel_21
theorem hs_addHare : zKH yL_addHare cL_addHare 3 [(0, 5, 6, 20), (0, 5, 9, 14)] 2 := ⟨zk_608, zk_607, zk_24, by decide, by decide, by decide +kernel⟩
theorem ch_addHare (l : Launch) (g : zG) (zX : va_W) (ad : Int → Nat) (M F : zMem) (x0 : Int) (P : Int → zMem → zMem → Prop) (T : String → zMem → zMem → Prop) (hM : zMx l yX11_addHare cX11_addHare 2 (some .int) 8 1 6 g (0, 398, zX) ad [.ref (ad 0), .int (zI x0)] M F (zPi P) T) (hE : ∀ E M' F', T E M' F' → E = "java/lang/IndexOutOfBoundsException" ∨ E = "java/lang/IllegalStateException") : hMt l yL_addHare cL_addHare 3 [(0, 5, 6, 20), (0, 5, 9, 14)] 9 1 6 g zX ad [.ref (ad 0), .int (zI x0)] M F (zPi (fun k M' F' => (P k M' F') ∨ (k = -1 ∧ T "java/lang/IndexOutOfBoundsException" M' F') ∨ (k = -2 ∧ T "java/lang/IllegalStateException" M' F'))) := by
  refine hMt.of "DrumWarrenLaw" rfl (by decide +kernel) (Nat.le_of_ble_eq_true rfl) (fun {p e s m args below meth c ls} C0 Wd hl hret hlk hst htab => ?_)
  have hl : lv_has ls 3 [(0, .ref (ad 0)), (1, .int (zI x0))] := hl
  refine z_aload_n C0 hl 0 rfl dL_addHare_0 ?_
  refine z_iload_n C0 hl 1 rfl dL_addHare_1 ?_
  refine z_invVH (As := [.int (zI x0)]) (rest := []) C0 Wd hst hM kv_X11_addHare zN0 (zE_8 zK0) rfl zk_609 rfl hl.1 rfl (Nat.le_of_ble_eq_true rfl) (by decide) (by decide) dL_addHare_2 (fun v M1 F1 H locs hp Wd => ?_) (fun E M1 F1 H locs q ce hp Wd hce hcv hcl => ?_)
  · obtain ⟨r, rfl, hr, hp⟩ := hp
    exact z_iret C0 Wd hret hlk hr (Or.inl hp) dL_addHare_5
  · rcases hE E M1 F1 hp with rfl | rfl
    · refine z_catch C0 htab [] (0, 5, 6, 20) [(0, 5, 9, 14)] rfl (fun _ h => nomatch h) ⟨by decide, by decide⟩ (by decide) zk_560 (List.mem_of_getElem? (i := 0) rfl) hce hcv hcl ?_
      refine z_astore_n C0 hl [(2, .ref q), (0, .ref (ad 0)), (1, .int (zI x0))] (by decide) rfl dL_addHare_6 (fun ls hl => ?_)
      refine z_iconst C0 dL_addHare_7 ?_
      exact z_iret C0 Wd hret hlk (zR_mk (by decide) (by decide)) (Or.inr (Or.inl ⟨rfl, hp⟩)) dL_addHare_8
    · refine z_catch C0 htab [(0, 5, 6, 20)] (0, 5, 9, 14) [] rfl (by intro z hz; simp only [List.mem_cons, List.not_mem_nil, or_false] at hz; rcases hz with rfl <;> first | exact ⟨by decide, "java/lang/IndexOutOfBoundsException", zk_560, List.mem_of_getElem? (i := 12) rfl⟩) ⟨by decide, by decide⟩ (by decide) zk_377 (List.mem_of_getElem? (i := 3) rfl) hce hcv hcl ?_
      refine z_astore_n C0 hl [(2, .ref q), (0, .ref (ad 0)), (1, .int (zI x0))] (by decide) rfl dL_addHare_9 (fun ls hl => ?_)
      refine z_bipush C0 dL_addHare_10 (by decide) ?_
      exact z_iret C0 Wd hret hlk (zR_mk (by decide) (by decide)) (Or.inr (Or.inr (⟨rfl, hp⟩))) dL_addHare_12
theorem hs_say : zKH yL_say cL_say 5 [(0, 7, 8, 20), (0, 7, 12, 22), (0, 7, 17, 14)] 4 := ⟨zk_623, zk_622, zk_24, by decide, by decide, by decide +kernel⟩
theorem ch_say (l : Launch) (g : zG) (zX : va_W) (ad : Int → Nat) (M F : zMem) (x0 : Int) (x1 : Int) (x2 : Int) (P : Int → zMem → zMem → Prop) (T : String → zMem → zMem → Prop) (hM : zMx l yX11_say cX11_say 5 (some .int) 8 1 6 g (0, 398, zX) ad [.ref (ad 0), .int (zI x0), .int (zI x1), .int (zI x2)] M F (zPi P) T) (hE : ∀ E M' F', T E M' F' → E = "java/lang/IndexOutOfBoundsException" ∨ E = "java/lang/IllegalArgumentException" ∨ E = "java/lang/IllegalStateException") : hMt l yL_say cL_say 5 [(0, 7, 8, 20), (0, 7, 12, 22), (0, 7, 17, 14)] 9 1 6 g zX ad [.ref (ad 0), .int (zI x0), .int (zI x1), .int (zI x2)] M F (zPi (fun k M' F' => (P k M' F') ∨ (k = -1 ∧ T "java/lang/IndexOutOfBoundsException" M' F') ∨ (k = -2 ∧ T "java/lang/IllegalArgumentException" M' F') ∨ (k = -3 ∧ T "java/lang/IllegalStateException" M' F'))) := by
  refine hMt.of "DrumWarrenLaw" rfl (by decide +kernel) (Nat.le_of_ble_eq_true rfl) (fun {p e s m args below meth c ls} C0 Wd hl hret hlk hst htab => ?_)
  have hl : lv_has ls 5 [(0, .ref (ad 0)), (1, .int (zI x0)), (2, .int (zI x1)), (3, .int (zI x2))] := hl
  refine z_aload_n C0 hl 0 rfl dL_say_0 ?_
  refine z_iload_n C0 hl 1 rfl dL_say_1 ?_
  refine z_iload_n C0 hl 2 rfl dL_say_2 ?_
  refine z_iload_n C0 hl 3 rfl dL_say_3 ?_
  refine z_invVH (As := [.int (zI x0), .int (zI x1), .int (zI x2)]) (rest := []) C0 Wd hst hM kv_X11_say zN0 (zE_8 zK0) rfl zk_624 rfl hl.1 rfl (Nat.le_of_ble_eq_true rfl) (by decide) (by decide) dL_say_4 (fun v M1 F1 H locs hp Wd => ?_) (fun E M1 F1 H locs q ce hp Wd hce hcv hcl => ?_)
  · obtain ⟨r, rfl, hr, hp⟩ := hp
    exact z_iret C0 Wd hret hlk hr (Or.inl hp) dL_say_7
  · rcases hE E M1 F1 hp with rfl | rfl | rfl
    · refine z_catch C0 htab [] (0, 7, 8, 20) [(0, 7, 12, 22), (0, 7, 17, 14)] rfl (fun _ h => nomatch h) ⟨by decide, by decide⟩ (by decide) zk_560 (List.mem_of_getElem? (i := 0) rfl) hce hcv hcl ?_
      refine z_astore C0 hl [(4, .ref q), (0, .ref (ad 0)), (1, .int (zI x0)), (2, .int (zI x1)), (3, .int (zI x2))] (by decide) rfl dL_say_8 (fun ls hl => ?_)
      refine z_iconst C0 dL_say_10 ?_
      exact z_iret C0 Wd hret hlk (zR_mk (by decide) (by decide)) (Or.inr (Or.inl ⟨rfl, hp⟩)) dL_say_11
    · refine z_catch C0 htab [(0, 7, 8, 20)] (0, 7, 12, 22) [(0, 7, 17, 14)] rfl (by intro z hz; simp only [List.mem_cons, List.not_mem_nil, or_false] at hz; rcases hz with rfl <;> first | exact ⟨by decide, "java/lang/IndexOutOfBoundsException", zk_560, List.mem_of_getElem? (i := 8) rfl⟩) ⟨by decide, by decide⟩ (by decide) zk_581 (List.mem_of_getElem? (i := 2) rfl) hce hcv hcl ?_
      refine z_astore C0 hl [(4, .ref q), (0, .ref (ad 0)), (1, .int (zI x0)), (2, .int (zI x1)), (3, .int (zI x2))] (by decide) rfl dL_say_12 (fun ls hl => ?_)
      refine z_bipush C0 dL_say_14 (by decide) ?_
      exact z_iret C0 Wd hret hlk (zR_mk (by decide) (by decide)) (Or.inr (Or.inr (Or.inl ⟨rfl, hp⟩))) dL_say_16
    · refine z_catch C0 htab [(0, 7, 8, 20), (0, 7, 12, 22)] (0, 7, 17, 14) [] rfl (by intro z hz; simp only [List.mem_cons, List.not_mem_nil, or_false] at hz; rcases hz with rfl | rfl <;> first | exact ⟨by decide, "java/lang/IndexOutOfBoundsException", zk_560, List.mem_of_getElem? (i := 12) rfl⟩ | exact ⟨by decide, "java/lang/IllegalArgumentException", zk_581, List.mem_of_getElem? (i := 14) rfl⟩) ⟨by decide, by decide⟩ (by decide) zk_377 (List.mem_of_getElem? (i := 3) rfl) hce hcv hcl ?_
      refine z_astore C0 hl [(4, .ref q), (0, .ref (ad 0)), (1, .int (zI x0)), (2, .int (zI x1)), (3, .int (zI x2))] (by decide) rfl dL_say_17 (fun ls hl => ?_)
      refine z_bipush C0 dL_say_19 (by decide) ?_
      exact z_iret C0 Wd hret hlk (zR_mk (by decide) (by decide)) (Or.inr (Or.inr (Or.inr (⟨rfl, hp⟩)))) dL_say_21
theorem hs_listen : zKH yL_listen cL_listen 4 [(0, 14, 15, 20)] 3 := ⟨zk_642, zk_641, zk_24, by decide, by decide, by decide +kernel⟩
theorem ch_listen (l : Launch) (g : zG) (zX : va_W) (ad : Int → Nat) (M F : zMem) (x0 : Int) (x1 : Int) (P : Int → zMem → zMem → Prop) (T : String → zMem → zMem → Prop) (hM : zMx l yX11_setListening cX11_setListening 4 (some .boolean) 8 1 6 g (0, 398, zX) ad [.ref (ad 0), .int (zI x0), .int (zI x1)] M F (zPi P) T) (hE : ∀ E M' F', T E M' F' → E = "java/lang/IndexOutOfBoundsException") (hB : ∀ r M' F', P r M' F' → r = 0 ∨ r = 1) : hMt l yL_listen cL_listen 4 [(0, 14, 15, 20)] 9 1 6 g zX ad [.ref (ad 0), .int (zI x0), .int (zI x1)] M F (zPi (fun k M' F' => (P k M' F') ∨ (k = -1 ∧ T "java/lang/IndexOutOfBoundsException" M' F'))) := by
  refine hMt.of "DrumWarrenLaw" rfl (by decide +kernel) (Nat.le_of_ble_eq_true rfl) (fun {p e s m args below meth c ls} C0 Wd hl hret hlk hst htab => ?_)
  have hl : lv_has ls 4 [(0, .ref (ad 0)), (1, .int (zI x0)), (2, .int (zI x1))] := hl
  refine z_aload_n C0 hl 0 rfl dL_listen_0 ?_
  refine z_iload_n C0 hl 1 rfl dL_listen_1 ?_
  refine z_iload_n C0 hl 2 rfl dL_listen_2 ?_
  refine z_invVH (As := [.int (zI x0), .int (zI x1)]) (rest := []) C0 Wd hst hM kv_X11_setListening zN0 (zE_8 zK0) rfl zk_643 rfl hl.1 rfl (Nat.le_of_ble_eq_true rfl) (by decide) (by decide) dL_listen_3 (fun v M1 F1 H locs hp Wd => ?_) (fun E M1 F1 H locs q ce hp Wd hce hcv hcl => ?_)
  · obtain ⟨r, rfl, hr, hp⟩ := hp
    rcases hB r M1 F1 hp with rfl | rfl
    · refine z_if_eq C0 (tgt := 13) (zR_mk (by decide) (by decide)) dL_listen_6 (by decide) (fun _ => ?_) (fun h => absurd rfl h)
      refine z_iconst C0 dL_listen_13 ?_
      exact z_iret C0 Wd hret hlk (zR_mk (by decide) (by decide)) (Or.inl hp) dL_listen_14
    · refine z_if_eq C0 (tgt := 13) (zR_mk (by decide) (by decide)) dL_listen_6 (by decide) (fun h => absurd h (by decide)) (fun _ => ?_)
      refine z_iconst C0 dL_listen_9 ?_
      refine z_goto C0 (tgt := 14) dL_listen_10 (by decide) ?_
      exact z_iret C0 Wd hret hlk (zR_mk (by decide) (by decide)) (Or.inl hp) dL_listen_14
  · rcases hE E M1 F1 hp with rfl
    · refine z_catch C0 htab [] (0, 14, 15, 20) [] rfl (fun _ h => nomatch h) ⟨by decide, by decide⟩ (by decide) zk_560 (List.mem_of_getElem? (i := 0) rfl) hce hcv hcl ?_
      refine z_astore_n C0 hl [(3, .ref q), (0, .ref (ad 0)), (1, .int (zI x0)), (2, .int (zI x1))] (by decide) rfl dL_listen_15 (fun ls hl => ?_)
      refine z_iconst C0 dL_listen_16 ?_
      exact z_iret C0 Wd hret hlk (zR_mk (by decide) (by decide)) (Or.inr (⟨rfl, hp⟩)) dL_listen_17
theorem hs_move : zKH yL_move cL_move 4 [(0, 6, 7, 20), (0, 6, 10, 14)] 3 := ⟨zk_657, zk_656, zk_24, by decide, by decide, by decide +kernel⟩
theorem ch_move (l : Launch) (g : zG) (zX : va_W) (ad : Int → Nat) (M F : zMem) (x0 : Int) (x1 : Int) (P : Int → zMem → zMem → Prop) (T : String → zMem → zMem → Prop) (hM : zMx l yX11_move cX11_move 4 (some .int) 8 1 6 g (0, 398, zX) ad [.ref (ad 0), .int (zI x0), .int (zI x1)] M F (zPi P) T) (hE : ∀ E M' F', T E M' F' → E = "java/lang/IndexOutOfBoundsException" ∨ E = "java/lang/IllegalStateException") : hMt l yL_move cL_move 4 [(0, 6, 7, 20), (0, 6, 10, 14)] 9 1 6 g zX ad [.ref (ad 0), .int (zI x0), .int (zI x1)] M F (zPi (fun k M' F' => (P k M' F') ∨ (k = -1 ∧ T "java/lang/IndexOutOfBoundsException" M' F') ∨ (k = -2 ∧ T "java/lang/IllegalStateException" M' F'))) := by
  refine hMt.of "DrumWarrenLaw" rfl (by decide +kernel) (Nat.le_of_ble_eq_true rfl) (fun {p e s m args below meth c ls} C0 Wd hl hret hlk hst htab => ?_)
  have hl : lv_has ls 4 [(0, .ref (ad 0)), (1, .int (zI x0)), (2, .int (zI x1))] := hl
  refine z_aload_n C0 hl 0 rfl dL_move_0 ?_
  refine z_iload_n C0 hl 1 rfl dL_move_1 ?_
  refine z_iload_n C0 hl 2 rfl dL_move_2 ?_
  refine z_invVH (As := [.int (zI x0), .int (zI x1)]) (rest := []) C0 Wd hst hM kv_X11_move zN0 (zE_8 zK0) rfl zk_658 rfl hl.1 rfl (Nat.le_of_ble_eq_true rfl) (by decide) (by decide) dL_move_3 (fun v M1 F1 H locs hp Wd => ?_) (fun E M1 F1 H locs q ce hp Wd hce hcv hcl => ?_)
  · obtain ⟨r, rfl, hr, hp⟩ := hp
    exact z_iret C0 Wd hret hlk hr (Or.inl hp) dL_move_6
  · rcases hE E M1 F1 hp with rfl | rfl
    · refine z_catch C0 htab [] (0, 6, 7, 20) [(0, 6, 10, 14)] rfl (fun _ h => nomatch h) ⟨by decide, by decide⟩ (by decide) zk_560 (List.mem_of_getElem? (i := 0) rfl) hce hcv hcl ?_
      refine z_astore_n C0 hl [(3, .ref q), (0, .ref (ad 0)), (1, .int (zI x0)), (2, .int (zI x1))] (by decide) rfl dL_move_7 (fun ls hl => ?_)
      refine z_iconst C0 dL_move_8 ?_
      exact z_iret C0 Wd hret hlk (zR_mk (by decide) (by decide)) (Or.inr (Or.inl ⟨rfl, hp⟩)) dL_move_9
    · refine z_catch C0 htab [(0, 6, 7, 20)] (0, 6, 10, 14) [] rfl (by intro z hz; simp only [List.mem_cons, List.not_mem_nil, or_false] at hz; rcases hz with rfl <;> first | exact ⟨by decide, "java/lang/IndexOutOfBoundsException", zk_560, List.mem_of_getElem? (i := 12) rfl⟩) ⟨by decide, by decide⟩ (by decide) zk_377 (List.mem_of_getElem? (i := 3) rfl) hce hcv hcl ?_
      refine z_astore_n C0 hl [(3, .ref q), (0, .ref (ad 0)), (1, .int (zI x0)), (2, .int (zI x1))] (by decide) rfl dL_move_10 (fun ls hl => ?_)
      refine z_bipush C0 dL_move_11 (by decide) ?_
      exact z_iret C0 Wd hret hlk (zR_mk (by decide) (by decide)) (Or.inr (Or.inr (⟨rfl, hp⟩))) dL_move_13
theorem hs_pass : zKH yL_pass cL_pass 3 [(0, 5, 6, 22)] 2 := ⟨zk_676, zk_675, zk_24, by decide, by decide, by decide +kernel⟩
theorem ch_pass (l : Launch) (g : zG) (zX : va_W) (ad : Int → Nat) (M F : zMem) (x0 : Int) (P : Int → zMem → zMem → Prop) (T : String → zMem → zMem → Prop) (hM : zMx l yX11_passTicks cX11_passTicks 3 (some .int) 8 1 6 g (0, 398, zX) ad [.ref (ad 0), .int (zI x0)] M F (zPi P) T) (hE : ∀ E M' F', T E M' F' → E = "java/lang/IllegalArgumentException") : hMt l yL_pass cL_pass 3 [(0, 5, 6, 22)] 9 1 6 g zX ad [.ref (ad 0), .int (zI x0)] M F (zPi (fun k M' F' => (P k M' F') ∨ (k = -1 ∧ T "java/lang/IllegalArgumentException" M' F'))) := by
  refine hMt.of "DrumWarrenLaw" rfl (by decide +kernel) (Nat.le_of_ble_eq_true rfl) (fun {p e s m args below meth c ls} C0 Wd hl hret hlk hst htab => ?_)
  have hl : lv_has ls 3 [(0, .ref (ad 0)), (1, .int (zI x0))] := hl
  refine z_aload_n C0 hl 0 rfl dL_pass_0 ?_
  refine z_iload_n C0 hl 1 rfl dL_pass_1 ?_
  refine z_invVH (As := [.int (zI x0)]) (rest := []) C0 Wd hst hM kv_X11_passTicks zN0 (zE_8 zK0) rfl zk_677 rfl hl.1 rfl (Nat.le_of_ble_eq_true rfl) (by decide) (by decide) dL_pass_2 (fun v M1 F1 H locs hp Wd => ?_) (fun E M1 F1 H locs q ce hp Wd hce hcv hcl => ?_)
  · obtain ⟨r, rfl, hr, hp⟩ := hp
    exact z_iret C0 Wd hret hlk hr (Or.inl hp) dL_pass_5
  · rcases hE E M1 F1 hp with rfl
    · refine z_catch C0 htab [] (0, 5, 6, 22) [] rfl (fun _ h => nomatch h) ⟨by decide, by decide⟩ (by decide) zk_581 (List.mem_of_getElem? (i := 2) rfl) hce hcv hcl ?_
      refine z_astore_n C0 hl [(2, .ref q), (0, .ref (ad 0)), (1, .int (zI x0))] (by decide) rfl dL_pass_6 (fun ls hl => ?_)
      refine z_iconst C0 dL_pass_7 ?_
      exact z_iret C0 Wd hret hlk (zR_mk (by decide) (by decide)) (Or.inr (⟨rfl, hp⟩)) dL_pass_8
theorem hs_delayOf : zKH yL_delayOf cL_delayOf 4 [(0, 6, 7, 20), (0, 6, 11, 28)] 3 := ⟨zk_779, zk_778, zk_24, by decide, by decide, by decide +kernel⟩
theorem ch_delayOf (l : Launch) (g : zG) (zX : va_W) (ad : Int → Nat) (M F : zMem) (x0 : Int) (x1 : Int) (P : Int → zMem → zMem → Prop) (T : String → zMem → zMem → Prop) (hM : zMx l yX11_tunnelDelay cX11_tunnelDelay 4 (some .int) 8 3 18 g (0, 398, zX) ad [.ref (ad 0), .int (zI x0), .int (zI x1)] M F (zPi P) T) (hE : ∀ E M' F', T E M' F' → E = "java/lang/IndexOutOfBoundsException" ∨ E = "java/util/NoSuchElementException") : hMt l yL_delayOf cL_delayOf 4 [(0, 6, 7, 20), (0, 6, 11, 28)] 9 3 18 g zX ad [.ref (ad 0), .int (zI x0), .int (zI x1)] M F (zPi (fun k M' F' => (P k M' F') ∨ (k = -11 ∧ T "java/lang/IndexOutOfBoundsException" M' F') ∨ (k = -13 ∧ T "java/util/NoSuchElementException" M' F'))) := by
  refine hMt.of "DrumWarrenLaw" rfl (by decide +kernel) (Nat.le_of_ble_eq_true rfl) (fun {p e s m args below meth c ls} C0 Wd hl hret hlk hst htab => ?_)
  have hl : lv_has ls 4 [(0, .ref (ad 0)), (1, .int (zI x0)), (2, .int (zI x1))] := hl
  refine z_aload_n C0 hl 0 rfl dL_delayOf_0 ?_
  refine z_iload_n C0 hl 1 rfl dL_delayOf_1 ?_
  refine z_iload_n C0 hl 2 rfl dL_delayOf_2 ?_
  refine z_invVH (As := [.int (zI x0), .int (zI x1)]) (rest := []) C0 Wd hst hM kv_X11_tunnelDelay zN0 (zE_8 zK0) rfl zk_781 rfl hl.1 rfl (Nat.le_of_ble_eq_true rfl) (by decide) (by decide) dL_delayOf_3 (fun v M1 F1 H locs hp Wd => ?_) (fun E M1 F1 H locs q ce hp Wd hce hcv hcl => ?_)
  · obtain ⟨r, rfl, hr, hp⟩ := hp
    exact z_iret C0 Wd hret hlk hr (Or.inl hp) dL_delayOf_6
  · rcases hE E M1 F1 hp with rfl | rfl
    · refine z_catch C0 htab [] (0, 6, 7, 20) [(0, 6, 11, 28)] rfl (fun _ h => nomatch h) ⟨by decide, by decide⟩ (by decide) zk_560 (List.mem_of_getElem? (i := 0) rfl) hce hcv hcl ?_
      refine z_astore_n C0 hl [(3, .ref q), (0, .ref (ad 0)), (1, .int (zI x0)), (2, .int (zI x1))] (by decide) rfl dL_delayOf_7 (fun ls hl => ?_)
      refine z_bipush C0 dL_delayOf_8 (by decide) ?_
      exact z_iret C0 Wd hret hlk (zR_mk (by decide) (by decide)) (Or.inr (Or.inl ⟨rfl, hp⟩)) dL_delayOf_10
    · refine z_catch C0 htab [(0, 6, 7, 20)] (0, 6, 11, 28) [] rfl (by intro z hz; simp only [List.mem_cons, List.not_mem_nil, or_false] at hz; rcases hz with rfl <;> first | exact ⟨by decide, "java/lang/IndexOutOfBoundsException", zk_560, List.mem_of_getElem? (i := 4) rfl⟩) ⟨by decide, by decide⟩ (by decide) zk_780 (List.mem_of_getElem? (i := 1) rfl) hce hcv hcl ?_
      refine z_astore_n C0 hl [(3, .ref q), (0, .ref (ad 0)), (1, .int (zI x0)), (2, .int (zI x1))] (by decide) rfl dL_delayOf_11 (fun ls hl => ?_)
      refine z_bipush C0 dL_delayOf_12 (by decide) ?_
      exact z_iret C0 Wd hret hlk (zR_mk (by decide) (by decide)) (Or.inr (Or.inr (⟨rfl, hp⟩))) dL_delayOf_14
theorem hs_shortest : zKH yL_shortest cL_shortest 4 [(0, 6, 7, 20), (0, 6, 11, 28)] 3 := ⟨zk_795, zk_794, zk_24, by decide, by decide, by decide +kernel⟩
theorem ch_shortest (l : Launch) (g : zG) (zX : va_W) (ad : Int → Nat) (M F : zMem) (x0 : Int) (x1 : Int) (P : Int → zMem → zMem → Prop) (T : String → zMem → zMem → Prop) (hM : zMx l yX11_shortestDelay cX11_shortestDelay 3 (some .int) 8 3 18 g (0, 398, zX) ad [.ref (ad 0), .int (zI x0), .int (zI x1)] M F (zPi P) T) (hE : ∀ E M' F', T E M' F' → E = "java/lang/IndexOutOfBoundsException" ∨ E = "java/util/NoSuchElementException") : hMt l yL_shortest cL_shortest 4 [(0, 6, 7, 20), (0, 6, 11, 28)] 9 3 18 g zX ad [.ref (ad 0), .int (zI x0), .int (zI x1)] M F (zPi (fun k M' F' => (P k M' F') ∨ (k = -11 ∧ T "java/lang/IndexOutOfBoundsException" M' F') ∨ (k = -13 ∧ T "java/util/NoSuchElementException" M' F'))) := by
  refine hMt.of "DrumWarrenLaw" rfl (by decide +kernel) (Nat.le_of_ble_eq_true rfl) (fun {p e s m args below meth c ls} C0 Wd hl hret hlk hst htab => ?_)
  have hl : lv_has ls 4 [(0, .ref (ad 0)), (1, .int (zI x0)), (2, .int (zI x1))] := hl
  refine z_aload_n C0 hl 0 rfl dL_shortest_0 ?_
  refine z_iload_n C0 hl 1 rfl dL_shortest_1 ?_
  refine z_iload_n C0 hl 2 rfl dL_shortest_2 ?_
  refine z_invVH (As := [.int (zI x0), .int (zI x1)]) (rest := []) C0 Wd hst hM kv_X11_shortestDelay zN0 (zE_8 zK0) rfl zk_796 rfl hl.1 rfl (Nat.le_of_ble_eq_true rfl) (by decide) (by decide) dL_shortest_3 (fun v M1 F1 H locs hp Wd => ?_) (fun E M1 F1 H locs q ce hp Wd hce hcv hcl => ?_)
  · obtain ⟨r, rfl, hr, hp⟩ := hp
    exact z_iret C0 Wd hret hlk hr (Or.inl hp) dL_shortest_6
  · rcases hE E M1 F1 hp with rfl | rfl
    · refine z_catch C0 htab [] (0, 6, 7, 20) [(0, 6, 11, 28)] rfl (fun _ h => nomatch h) ⟨by decide, by decide⟩ (by decide) zk_560 (List.mem_of_getElem? (i := 0) rfl) hce hcv hcl ?_
      refine z_astore_n C0 hl [(3, .ref q), (0, .ref (ad 0)), (1, .int (zI x0)), (2, .int (zI x1))] (by decide) rfl dL_shortest_7 (fun ls hl => ?_)
      refine z_bipush C0 dL_shortest_8 (by decide) ?_
      exact z_iret C0 Wd hret hlk (zR_mk (by decide) (by decide)) (Or.inr (Or.inl ⟨rfl, hp⟩)) dL_shortest_10
    · refine z_catch C0 htab [(0, 6, 7, 20)] (0, 6, 11, 28) [] rfl (by intro z hz; simp only [List.mem_cons, List.not_mem_nil, or_false] at hz; rcases hz with rfl <;> first | exact ⟨by decide, "java/lang/IndexOutOfBoundsException", zk_560, List.mem_of_getElem? (i := 4) rfl⟩) ⟨by decide, by decide⟩ (by decide) zk_780 (List.mem_of_getElem? (i := 1) rfl) hce hcv hcl ?_
      refine z_astore_n C0 hl [(3, .ref q), (0, .ref (ad 0)), (1, .int (zI x0)), (2, .int (zI x1))] (by decide) rfl dL_shortest_11 (fun ls hl => ?_)
      refine z_bipush C0 dL_shortest_12 (by decide) ?_
      exact z_iret C0 Wd hret hlk (zR_mk (by decide) (by decide)) (Or.inr (Or.inr (⟨rfl, hp⟩))) dL_shortest_14
theorem hs_bySearch : zKH yL_bySearch cL_bySearch 4 [(0, 6, 7, 20), (0, 6, 11, 28)] 3 := ⟨zk_818, zk_817, zk_24, by decide, by decide, by decide +kernel⟩
theorem ch_bySearch (l : Launch) (g : zG) (zX : va_W) (ad : Int → Nat) (M F : zMem) (x0 : Int) (x1 : Int) (P : Int → zMem → zMem → Prop) (T : String → zMem → zMem → Prop) (hM : zMx l yX11_shortestDelayBySearch cX11_shortestDelayBySearch 3 (some .int) 8 3 18 g (0, 398, zX) ad [.ref (ad 0), .int (zI x0), .int (zI x1)] M F (zPi P) T) (hE : ∀ E M' F', T E M' F' → E = "java/lang/IndexOutOfBoundsException" ∨ E = "java/util/NoSuchElementException") : hMt l yL_bySearch cL_bySearch 4 [(0, 6, 7, 20), (0, 6, 11, 28)] 9 3 18 g zX ad [.ref (ad 0), .int (zI x0), .int (zI x1)] M F (zPi (fun k M' F' => (P k M' F') ∨ (k = -11 ∧ T "java/lang/IndexOutOfBoundsException" M' F') ∨ (k = -13 ∧ T "java/util/NoSuchElementException" M' F'))) := by
  refine hMt.of "DrumWarrenLaw" rfl (by decide +kernel) (Nat.le_of_ble_eq_true rfl) (fun {p e s m args below meth c ls} C0 Wd hl hret hlk hst htab => ?_)
  have hl : lv_has ls 4 [(0, .ref (ad 0)), (1, .int (zI x0)), (2, .int (zI x1))] := hl
  refine z_aload_n C0 hl 0 rfl dL_bySearch_0 ?_
  refine z_iload_n C0 hl 1 rfl dL_bySearch_1 ?_
  refine z_iload_n C0 hl 2 rfl dL_bySearch_2 ?_
  refine z_invVH (As := [.int (zI x0), .int (zI x1)]) (rest := []) C0 Wd hst hM kv_X11_shortestDelayBySearch zN0 (zE_8 zK0) rfl zk_819 rfl hl.1 rfl (Nat.le_of_ble_eq_true rfl) (by decide) (by decide) dL_bySearch_3 (fun v M1 F1 H locs hp Wd => ?_) (fun E M1 F1 H locs q ce hp Wd hce hcv hcl => ?_)
  · obtain ⟨r, rfl, hr, hp⟩ := hp
    exact z_iret C0 Wd hret hlk hr (Or.inl hp) dL_bySearch_6
  · rcases hE E M1 F1 hp with rfl | rfl
    · refine z_catch C0 htab [] (0, 6, 7, 20) [(0, 6, 11, 28)] rfl (fun _ h => nomatch h) ⟨by decide, by decide⟩ (by decide) zk_560 (List.mem_of_getElem? (i := 0) rfl) hce hcv hcl ?_
      refine z_astore_n C0 hl [(3, .ref q), (0, .ref (ad 0)), (1, .int (zI x0)), (2, .int (zI x1))] (by decide) rfl dL_bySearch_7 (fun ls hl => ?_)
      refine z_bipush C0 dL_bySearch_8 (by decide) ?_
      exact z_iret C0 Wd hret hlk (zR_mk (by decide) (by decide)) (Or.inr (Or.inl ⟨rfl, hp⟩)) dL_bySearch_10
    · refine z_catch C0 htab [(0, 6, 7, 20)] (0, 6, 11, 28) [] rfl (by intro z hz; simp only [List.mem_cons, List.not_mem_nil, or_false] at hz; rcases hz with rfl <;> first | exact ⟨by decide, "java/lang/IndexOutOfBoundsException", zk_560, List.mem_of_getElem? (i := 4) rfl⟩) ⟨by decide, by decide⟩ (by decide) zk_780 (List.mem_of_getElem? (i := 1) rfl) hce hcv hcl ?_
      refine z_astore_n C0 hl [(3, .ref q), (0, .ref (ad 0)), (1, .int (zI x0)), (2, .int (zI x1))] (by decide) rfl dL_bySearch_11 (fun ls hl => ?_)
      refine z_bipush C0 dL_bySearch_12 (by decide) ?_
      exact z_iret C0 Wd hret hlk (zR_mk (by decide) (by decide)) (Or.inr (Or.inr (⟨rfl, hp⟩))) dL_bySearch_14
theorem hs_loudBits : zKH yL_loudBits cL_loudBits 4 [(0, 6, 7, 20)] 3 := ⟨zk_837, zk_836, zk_24, by decide, by decide, by decide +kernel⟩
theorem ch_loudBits (l : Launch) (g : zG) (zX : va_W) (ad : Int → Nat) (M F : zMem) (x0 : Int) (x1 : Int) (P : Int → zMem → zMem → Prop) (T : String → zMem → zMem → Prop) (hM : zMx l yX11_loudnessBits cX11_loudnessBits 3 (some .int) 8 2 12 g (0, 398, zX) ad [.ref (ad 0), .int (zI x0), .int (zI x1)] M F (zPi P) T) (hE : ∀ E M' F', T E M' F' → E = "java/lang/IndexOutOfBoundsException") : hMt l yL_loudBits cL_loudBits 4 [(0, 6, 7, 20)] 9 2 12 g zX ad [.ref (ad 0), .int (zI x0), .int (zI x1)] M F (zPi (fun k M' F' => (P k M' F') ∨ (k = -11 ∧ T "java/lang/IndexOutOfBoundsException" M' F'))) := by
  refine hMt.of "DrumWarrenLaw" rfl (by decide +kernel) (Nat.le_of_ble_eq_true rfl) (fun {p e s m args below meth c ls} C0 Wd hl hret hlk hst htab => ?_)
  have hl : lv_has ls 4 [(0, .ref (ad 0)), (1, .int (zI x0)), (2, .int (zI x1))] := hl
  refine z_aload_n C0 hl 0 rfl dL_loudBits_0 ?_
  refine z_iload_n C0 hl 1 rfl dL_loudBits_1 ?_
  refine z_iload_n C0 hl 2 rfl dL_loudBits_2 ?_
  refine z_invVH (As := [.int (zI x0), .int (zI x1)]) (rest := []) C0 Wd hst hM kv_X11_loudnessBits zN0 (zE_8 zK0) rfl zk_838 rfl hl.1 rfl (Nat.le_of_ble_eq_true rfl) (by decide) (by decide) dL_loudBits_3 (fun v M1 F1 H locs hp Wd => ?_) (fun E M1 F1 H locs q ce hp Wd hce hcv hcl => ?_)
  · obtain ⟨r, rfl, hr, hp⟩ := hp
    exact z_iret C0 Wd hret hlk hr (Or.inl hp) dL_loudBits_6
  · rcases hE E M1 F1 hp with rfl
    · refine z_catch C0 htab [] (0, 6, 7, 20) [] rfl (fun _ h => nomatch h) ⟨by decide, by decide⟩ (by decide) zk_560 (List.mem_of_getElem? (i := 0) rfl) hce hcv hcl ?_
      refine z_astore_n C0 hl [(3, .ref q), (0, .ref (ad 0)), (1, .int (zI x0)), (2, .int (zI x1))] (by decide) rfl dL_loudBits_7 (fun ls hl => ?_)
      refine z_bipush C0 dL_loudBits_8 (by decide) ?_
      exact z_iret C0 Wd hret hlk (zR_mk (by decide) (by decide)) (Or.inr (⟨rfl, hp⟩)) dL_loudBits_10
theorem hs_messageAt : zKH yL_messageAt cL_messageAt 3 [(0, 5, 6, 20)] 2 := ⟨zk_877, zk_876, zk_24, by decide, by decide, by decide +kernel⟩
theorem ch_messageAt (l : Launch) (g : zG) (zX : va_W) (ad : Int → Nat) (M F : zMem) (x0 : Int) (P : Int → zMem → zMem → Prop) (T : String → zMem → zMem → Prop) (hM : zMx l yX11_message cX11_message 2 (some .int) 8 1 6 g (0, 398, zX) ad [.ref (ad 0), .int (zI x0)] M F (zPi P) T) (hE : ∀ E M' F', T E M' F' → E = "java/lang/IndexOutOfBoundsException") : hMt l yL_messageAt cL_messageAt 3 [(0, 5, 6, 20)] 9 1 6 g zX ad [.ref (ad 0), .int (zI x0)] M F (zPi (fun k M' F' => (P k M' F') ∨ (k = -11 ∧ T "java/lang/IndexOutOfBoundsException" M' F'))) := by
  refine hMt.of "DrumWarrenLaw" rfl (by decide +kernel) (Nat.le_of_ble_eq_true rfl) (fun {p e s m args below meth c ls} C0 Wd hl hret hlk hst htab => ?_)
  have hl : lv_has ls 3 [(0, .ref (ad 0)), (1, .int (zI x0))] := hl
  refine z_aload_n C0 hl 0 rfl dL_messageAt_0 ?_
  refine z_iload_n C0 hl 1 rfl dL_messageAt_1 ?_
  refine z_invVH (As := [.int (zI x0)]) (rest := []) C0 Wd hst hM kv_X11_message zN0 (zE_8 zK0) rfl zk_878 rfl hl.1 rfl (Nat.le_of_ble_eq_true rfl) (by decide) (by decide) dL_messageAt_2 (fun v M1 F1 H locs hp Wd => ?_) (fun E M1 F1 H locs q ce hp Wd hce hcv hcl => ?_)
  · obtain ⟨r, rfl, hr, hp⟩ := hp
    exact z_iret C0 Wd hret hlk hr (Or.inl hp) dL_messageAt_5
  · rcases hE E M1 F1 hp with rfl
    · refine z_catch C0 htab [] (0, 5, 6, 20) [] rfl (fun _ h => nomatch h) ⟨by decide, by decide⟩ (by decide) zk_560 (List.mem_of_getElem? (i := 0) rfl) hce hcv hcl ?_
      refine z_astore_n C0 hl [(2, .ref q), (0, .ref (ad 0)), (1, .int (zI x0))] (by decide) rfl dL_messageAt_6 (fun ls hl => ?_)
      refine z_bipush C0 dL_messageAt_7 (by decide) ?_
      exact z_iret C0 Wd hret hlk (zR_mk (by decide) (by decide)) (Or.inr (⟨rfl, hp⟩)) dL_messageAt_9
theorem hs_state : zKH yL_state cL_state 3 [(0, 5, 6, 28)] 2 := ⟨zk_885, zk_884, zk_24, by decide, by decide, by decide +kernel⟩
theorem ch_state (l : Launch) (g : zG) (zX : va_W) (ad : Int → Nat) (M F : zMem) (x0 : Int) (P : Int → zMem → zMem → Prop) (T : String → zMem → zMem → Prop) (hM : zMx l yX11_state cX11_state 2 (some .char) 8 1 6 g (0, 398, zX) ad [.ref (ad 0), .int (zI x0)] M F (zPi P) T) (hE : ∀ E M' F', T E M' F' → E = "java/util/NoSuchElementException") : hMt l yL_state cL_state 3 [(0, 5, 6, 28)] 9 1 6 g zX ad [.ref (ad 0), .int (zI x0)] M F (zPi (fun k M' F' => (P k M' F') ∨ (k = -13 ∧ T "java/util/NoSuchElementException" M' F'))) := by
  refine hMt.of "DrumWarrenLaw" rfl (by decide +kernel) (Nat.le_of_ble_eq_true rfl) (fun {p e s m args below meth c ls} C0 Wd hl hret hlk hst htab => ?_)
  have hl : lv_has ls 3 [(0, .ref (ad 0)), (1, .int (zI x0))] := hl
  refine z_aload_n C0 hl 0 rfl dL_state_0 ?_
  refine z_iload_n C0 hl 1 rfl dL_state_1 ?_
  refine z_invVH (As := [.int (zI x0)]) (rest := []) C0 Wd hst hM kv_X11_state zN0 (zE_8 zK0) rfl zk_886 rfl hl.1 rfl (Nat.le_of_ble_eq_true rfl) (by decide) (by decide) dL_state_2 (fun v M1 F1 H locs hp Wd => ?_) (fun E M1 F1 H locs q ce hp Wd hce hcv hcl => ?_)
  · obtain ⟨r, rfl, hr, hp⟩ := hp
    exact z_iret C0 Wd hret hlk hr (Or.inl hp) dL_state_5
  · rcases hE E M1 F1 hp with rfl
    · refine z_catch C0 htab [] (0, 5, 6, 28) [] rfl (fun _ h => nomatch h) ⟨by decide, by decide⟩ (by decide) zk_780 (List.mem_of_getElem? (i := 1) rfl) hce hcv hcl ?_
      refine z_astore_n C0 hl [(2, .ref q), (0, .ref (ad 0)), (1, .int (zI x0))] (by decide) rfl dL_state_6 (fun ls hl => ?_)
      refine z_bipush C0 dL_state_7 (by decide) ?_
      exact z_iret C0 Wd hret hlk (zR_mk (by decide) (by decide)) (Or.inr (⟨rfl, hp⟩)) dL_state_9
theorem hs_sender : zKH yL_sender cL_sender 3 [(0, 5, 6, 28)] 2 := ⟨zk_901, zk_900, zk_24, by decide, by decide, by decide +kernel⟩
theorem ch_sender (l : Launch) (g : zG) (zX : va_W) (ad : Int → Nat) (M F : zMem) (x0 : Int) (P : Int → zMem → zMem → Prop) (T : String → zMem → zMem → Prop) (hM : zMx l yX11_sender cX11_sender 2 (some .int) 8 1 6 g (0, 398, zX) ad [.ref (ad 0), .int (zI x0)] M F (zPi P) T) (hE : ∀ E M' F', T E M' F' → E = "java/util/NoSuchElementException") : hMt l yL_sender cL_sender 3 [(0, 5, 6, 28)] 9 1 6 g zX ad [.ref (ad 0), .int (zI x0)] M F (zPi (fun k M' F' => (P k M' F') ∨ (k = -13 ∧ T "java/util/NoSuchElementException" M' F'))) := by
  refine hMt.of "DrumWarrenLaw" rfl (by decide +kernel) (Nat.le_of_ble_eq_true rfl) (fun {p e s m args below meth c ls} C0 Wd hl hret hlk hst htab => ?_)
  have hl : lv_has ls 3 [(0, .ref (ad 0)), (1, .int (zI x0))] := hl
  refine z_aload_n C0 hl 0 rfl dL_sender_0 ?_
  refine z_iload_n C0 hl 1 rfl dL_sender_1 ?_
  refine z_invVH (As := [.int (zI x0)]) (rest := []) C0 Wd hst hM kv_X11_sender zN0 (zE_8 zK0) rfl zk_902 rfl hl.1 rfl (Nat.le_of_ble_eq_true rfl) (by decide) (by decide) dL_sender_2 (fun v M1 F1 H locs hp Wd => ?_) (fun E M1 F1 H locs q ce hp Wd hce hcv hcl => ?_)
  · obtain ⟨r, rfl, hr, hp⟩ := hp
    exact z_iret C0 Wd hret hlk hr (Or.inl hp) dL_sender_5
  · rcases hE E M1 F1 hp with rfl
    · refine z_catch C0 htab [] (0, 5, 6, 28) [] rfl (fun _ h => nomatch h) ⟨by decide, by decide⟩ (by decide) zk_780 (List.mem_of_getElem? (i := 1) rfl) hce hcv hcl ?_
      refine z_astore_n C0 hl [(2, .ref q), (0, .ref (ad 0)), (1, .int (zI x0))] (by decide) rfl dL_sender_6 (fun ls hl => ?_)
      refine z_bipush C0 dL_sender_7 (by decide) ?_
      exact z_iret C0 Wd hret hlk (zR_mk (by decide) (by decide)) (Or.inr (⟨rfl, hp⟩)) dL_sender_9
theorem hs_byReceived : zKH yL_byReceived cL_byReceived 3 [(0, 5, 6, 28)] 2 := ⟨zk_908, zk_907, zk_24, by decide, by decide, by decide +kernel⟩
theorem ch_byReceived (l : Launch) (g : zG) (zX : va_W) (ad : Int → Nat) (M F : zMem) (x0 : Int) (P : Int → zMem → zMem → Prop) (T : String → zMem → zMem → Prop) (hM : zMx l yX11_hareByReceived cX11_hareByReceived 3 (some .int) 8 1 6 g (0, 398, zX) ad [.ref (ad 0), .int (zI x0)] M F (zPi P) T) (hE : ∀ E M' F', T E M' F' → E = "java/util/NoSuchElementException") : hMt l yL_byReceived cL_byReceived 3 [(0, 5, 6, 28)] 9 1 6 g zX ad [.ref (ad 0), .int (zI x0)] M F (zPi (fun k M' F' => (P k M' F') ∨ (k = -13 ∧ T "java/util/NoSuchElementException" M' F'))) := by
  refine hMt.of "DrumWarrenLaw" rfl (by decide +kernel) (Nat.le_of_ble_eq_true rfl) (fun {p e s m args below meth c ls} C0 Wd hl hret hlk hst htab => ?_)
  have hl : lv_has ls 3 [(0, .ref (ad 0)), (1, .int (zI x0))] := hl
  refine z_aload_n C0 hl 0 rfl dL_byReceived_0 ?_
  refine z_iload_n C0 hl 1 rfl dL_byReceived_1 ?_
  refine z_invVH (As := [.int (zI x0)]) (rest := []) C0 Wd hst hM kv_X11_hareByReceived zN0 (zE_8 zK0) rfl zk_909 rfl hl.1 rfl (Nat.le_of_ble_eq_true rfl) (by decide) (by decide) dL_byReceived_2 (fun v M1 F1 H locs hp Wd => ?_) (fun E M1 F1 H locs q ce hp Wd hce hcv hcl => ?_)
  · obtain ⟨r, rfl, hr, hp⟩ := hp
    exact z_iret C0 Wd hret hlk hr (Or.inl hp) dL_byReceived_5
  · rcases hE E M1 F1 hp with rfl
    · refine z_catch C0 htab [] (0, 5, 6, 28) [] rfl (fun _ h => nomatch h) ⟨by decide, by decide⟩ (by decide) zk_780 (List.mem_of_getElem? (i := 1) rfl) hce hcv hcl ?_
      refine z_astore_n C0 hl [(2, .ref q), (0, .ref (ad 0)), (1, .int (zI x0))] (by decide) rfl dL_byReceived_6 (fun ls hl => ?_)
      refine z_bipush C0 dL_byReceived_7 (by decide) ?_
      exact z_iret C0 Wd hret hlk (zR_mk (by decide) (by decide)) (Or.inr (⟨rfl, hp⟩)) dL_byReceived_9
theorem hs_received : zKH yL_received cL_received 3 [(0, 5, 6, 20)] 2 := ⟨zk_924, zk_923, zk_24, by decide, by decide, by decide +kernel⟩
theorem ch_received (l : Launch) (g : zG) (zX : va_W) (ad : Int → Nat) (M F : zMem) (x0 : Int) (P : Int → zMem → zMem → Prop) (T : String → zMem → zMem → Prop) (hM : zMx l yX11_received cX11_received 2 (some .int) 8 1 6 g (0, 398, zX) ad [.ref (ad 0), .int (zI x0)] M F (zPi P) T) (hE : ∀ E M' F', T E M' F' → E = "java/lang/IndexOutOfBoundsException") : hMt l yL_received cL_received 3 [(0, 5, 6, 20)] 9 1 6 g zX ad [.ref (ad 0), .int (zI x0)] M F (zPi (fun k M' F' => (P k M' F') ∨ (k = -11 ∧ T "java/lang/IndexOutOfBoundsException" M' F'))) := by
  refine hMt.of "DrumWarrenLaw" rfl (by decide +kernel) (Nat.le_of_ble_eq_true rfl) (fun {p e s m args below meth c ls} C0 Wd hl hret hlk hst htab => ?_)
  have hl : lv_has ls 3 [(0, .ref (ad 0)), (1, .int (zI x0))] := hl
  refine z_aload_n C0 hl 0 rfl dL_received_0 ?_
  refine z_iload_n C0 hl 1 rfl dL_received_1 ?_
  refine z_invVH (As := [.int (zI x0)]) (rest := []) C0 Wd hst hM kv_X11_received zN0 (zE_8 zK0) rfl zk_925 rfl hl.1 rfl (Nat.le_of_ble_eq_true rfl) (by decide) (by decide) dL_received_2 (fun v M1 F1 H locs hp Wd => ?_) (fun E M1 F1 H locs q ce hp Wd hce hcv hcl => ?_)
  · obtain ⟨r, rfl, hr, hp⟩ := hp
    exact z_iret C0 Wd hret hlk hr (Or.inl hp) dL_received_5
  · rcases hE E M1 F1 hp with rfl
    · refine z_catch C0 htab [] (0, 5, 6, 20) [] rfl (fun _ h => nomatch h) ⟨by decide, by decide⟩ (by decide) zk_560 (List.mem_of_getElem? (i := 0) rfl) hce hcv hcl ?_
      refine z_astore_n C0 hl [(2, .ref q), (0, .ref (ad 0)), (1, .int (zI x0))] (by decide) rfl dL_received_6 (fun ls hl => ?_)
      refine z_bipush C0 dL_received_7 (by decide) ?_
      exact z_iret C0 Wd hret hlk (zR_mk (by decide) (by decide)) (Or.inr (⟨rfl, hp⟩)) dL_received_9
theorem hs_chamberOf : zKH yL_chamberOf cL_chamberOf 3 [(0, 5, 6, 20)] 2 := ⟨zk_938, zk_937, zk_24, by decide, by decide, by decide +kernel⟩
theorem ch_chamberOf (l : Launch) (g : zG) (zX : va_W) (ad : Int → Nat) (M F : zMem) (x0 : Int) (P : Int → zMem → zMem → Prop) (T : String → zMem → zMem → Prop) (hM : zMx l yX11_chamberOf cX11_chamberOf 2 (some .int) 8 1 6 g (0, 398, zX) ad [.ref (ad 0), .int (zI x0)] M F (zPi P) T) (hE : ∀ E M' F', T E M' F' → E = "java/lang/IndexOutOfBoundsException") : hMt l yL_chamberOf cL_chamberOf 3 [(0, 5, 6, 20)] 9 1 6 g zX ad [.ref (ad 0), .int (zI x0)] M F (zPi (fun k M' F' => (P k M' F') ∨ (k = -11 ∧ T "java/lang/IndexOutOfBoundsException" M' F'))) := by
  refine hMt.of "DrumWarrenLaw" rfl (by decide +kernel) (Nat.le_of_ble_eq_true rfl) (fun {p e s m args below meth c ls} C0 Wd hl hret hlk hst htab => ?_)
  have hl : lv_has ls 3 [(0, .ref (ad 0)), (1, .int (zI x0))] := hl
  refine z_aload_n C0 hl 0 rfl dL_chamberOf_0 ?_
  refine z_iload_n C0 hl 1 rfl dL_chamberOf_1 ?_
  refine z_invVH (As := [.int (zI x0)]) (rest := []) C0 Wd hst hM kv_X11_chamberOf zN0 (zE_8 zK0) rfl zk_939 rfl hl.1 rfl (Nat.le_of_ble_eq_true rfl) (by decide) (by decide) dL_chamberOf_2 (fun v M1 F1 H locs hp Wd => ?_) (fun E M1 F1 H locs q ce hp Wd hce hcv hcl => ?_)
  · obtain ⟨r, rfl, hr, hp⟩ := hp
    exact z_iret C0 Wd hret hlk hr (Or.inl hp) dL_chamberOf_5
  · rcases hE E M1 F1 hp with rfl
    · refine z_catch C0 htab [] (0, 5, 6, 20) [] rfl (fun _ h => nomatch h) ⟨by decide, by decide⟩ (by decide) zk_560 (List.mem_of_getElem? (i := 0) rfl) hce hcv hcl ?_
      refine z_astore_n C0 hl [(2, .ref q), (0, .ref (ad 0)), (1, .int (zI x0))] (by decide) rfl dL_chamberOf_6 (fun ls hl => ?_)
      refine z_bipush C0 dL_chamberOf_7 (by decide) ?_
      exact z_iret C0 Wd hret hlk (zR_mk (by decide) (by decide)) (Or.inr (⟨rfl, hp⟩)) dL_chamberOf_9
theorem hs_isDrumming : zKH yL_isDrumming cL_isDrumming 3 [(0, 13, 14, 20)] 2 := ⟨zk_945, zk_944, zk_24, by decide, by decide, by decide +kernel⟩
theorem ch_isDrumming (l : Launch) (g : zG) (zX : va_W) (ad : Int → Nat) (M F : zMem) (x0 : Int) (P : Int → zMem → zMem → Prop) (T : String → zMem → zMem → Prop) (hM : zMx l yX11_isDrumming cX11_isDrumming 2 (some .boolean) 8 1 6 g (0, 398, zX) ad [.ref (ad 0), .int (zI x0)] M F (zPi P) T) (hE : ∀ E M' F', T E M' F' → E = "java/lang/IndexOutOfBoundsException") (hB : ∀ r M' F', P r M' F' → r = 0 ∨ r = 1) : hMt l yL_isDrumming cL_isDrumming 3 [(0, 13, 14, 20)] 9 1 6 g zX ad [.ref (ad 0), .int (zI x0)] M F (zPi (fun k M' F' => (P k M' F') ∨ (k = -11 ∧ T "java/lang/IndexOutOfBoundsException" M' F'))) := by
  refine hMt.of "DrumWarrenLaw" rfl (by decide +kernel) (Nat.le_of_ble_eq_true rfl) (fun {p e s m args below meth c ls} C0 Wd hl hret hlk hst htab => ?_)
  have hl : lv_has ls 3 [(0, .ref (ad 0)), (1, .int (zI x0))] := hl
  refine z_aload_n C0 hl 0 rfl dL_isDrumming_0 ?_
  refine z_iload_n C0 hl 1 rfl dL_isDrumming_1 ?_
  refine z_invVH (As := [.int (zI x0)]) (rest := []) C0 Wd hst hM kv_X11_isDrumming zN0 (zE_8 zK0) rfl zk_946 rfl hl.1 rfl (Nat.le_of_ble_eq_true rfl) (by decide) (by decide) dL_isDrumming_2 (fun v M1 F1 H locs hp Wd => ?_) (fun E M1 F1 H locs q ce hp Wd hce hcv hcl => ?_)
  · obtain ⟨r, rfl, hr, hp⟩ := hp
    rcases hB r M1 F1 hp with rfl | rfl
    · refine z_if_eq C0 (tgt := 12) (zR_mk (by decide) (by decide)) dL_isDrumming_5 (by decide) (fun _ => ?_) (fun h => absurd rfl h)
      refine z_iconst C0 dL_isDrumming_12 ?_
      exact z_iret C0 Wd hret hlk (zR_mk (by decide) (by decide)) (Or.inl hp) dL_isDrumming_13
    · refine z_if_eq C0 (tgt := 12) (zR_mk (by decide) (by decide)) dL_isDrumming_5 (by decide) (fun h => absurd h (by decide)) (fun _ => ?_)
      refine z_iconst C0 dL_isDrumming_8 ?_
      refine z_goto C0 (tgt := 13) dL_isDrumming_9 (by decide) ?_
      exact z_iret C0 Wd hret hlk (zR_mk (by decide) (by decide)) (Or.inl hp) dL_isDrumming_13
  · rcases hE E M1 F1 hp with rfl
    · refine z_catch C0 htab [] (0, 13, 14, 20) [] rfl (fun _ h => nomatch h) ⟨by decide, by decide⟩ (by decide) zk_560 (List.mem_of_getElem? (i := 0) rfl) hce hcv hcl ?_
      refine z_astore_n C0 hl [(2, .ref q), (0, .ref (ad 0)), (1, .int (zI x0))] (by decide) rfl dL_isDrumming_14 (fun ls hl => ?_)
      refine z_bipush C0 dL_isDrumming_15 (by decide) ?_
      exact z_iret C0 Wd hret hlk (zR_mk (by decide) (by decide)) (Or.inr (⟨rfl, hp⟩)) dL_isDrumming_17
theorem hs_latest : zKH yL_latest cL_latest 3 [(0, 5, 6, 20), (0, 5, 10, 28)] 2 := ⟨zk_953, zk_952, zk_24, by decide, by decide, by decide +kernel⟩
theorem ch_latest (l : Launch) (g : zG) (zX : va_W) (ad : Int → Nat) (M F : zMem) (x0 : Int) (P : Int → zMem → zMem → Prop) (T : String → zMem → zMem → Prop) (hM : zMx l yX11_latestNumber cX11_latestNumber 3 (some .int) 8 2 12 g (0, 398, zX) ad [.ref (ad 0), .int (zI x0)] M F (zPi P) T) (hE : ∀ E M' F', T E M' F' → E = "java/lang/IndexOutOfBoundsException" ∨ E = "java/util/NoSuchElementException") : hMt l yL_latest cL_latest 3 [(0, 5, 6, 20), (0, 5, 10, 28)] 9 2 12 g zX ad [.ref (ad 0), .int (zI x0)] M F (zPi (fun k M' F' => (P k M' F') ∨ (k = -11 ∧ T "java/lang/IndexOutOfBoundsException" M' F') ∨ (k = -13 ∧ T "java/util/NoSuchElementException" M' F'))) := by
  refine hMt.of "DrumWarrenLaw" rfl (by decide +kernel) (Nat.le_of_ble_eq_true rfl) (fun {p e s m args below meth c ls} C0 Wd hl hret hlk hst htab => ?_)
  have hl : lv_has ls 3 [(0, .ref (ad 0)), (1, .int (zI x0))] := hl
  refine z_aload_n C0 hl 0 rfl dL_latest_0 ?_
  refine z_iload_n C0 hl 1 rfl dL_latest_1 ?_
  refine z_invVH (As := [.int (zI x0)]) (rest := []) C0 Wd hst hM kv_X11_latestNumber zN0 (zE_8 zK0) rfl zk_954 rfl hl.1 rfl (Nat.le_of_ble_eq_true rfl) (by decide) (by decide) dL_latest_2 (fun v M1 F1 H locs hp Wd => ?_) (fun E M1 F1 H locs q ce hp Wd hce hcv hcl => ?_)
  · obtain ⟨r, rfl, hr, hp⟩ := hp
    exact z_iret C0 Wd hret hlk hr (Or.inl hp) dL_latest_5
  · rcases hE E M1 F1 hp with rfl | rfl
    · refine z_catch C0 htab [] (0, 5, 6, 20) [(0, 5, 10, 28)] rfl (fun _ h => nomatch h) ⟨by decide, by decide⟩ (by decide) zk_560 (List.mem_of_getElem? (i := 0) rfl) hce hcv hcl ?_
      refine z_astore_n C0 hl [(2, .ref q), (0, .ref (ad 0)), (1, .int (zI x0))] (by decide) rfl dL_latest_6 (fun ls hl => ?_)
      refine z_bipush C0 dL_latest_7 (by decide) ?_
      exact z_iret C0 Wd hret hlk (zR_mk (by decide) (by decide)) (Or.inr (Or.inl ⟨rfl, hp⟩)) dL_latest_9
    · refine z_catch C0 htab [(0, 5, 6, 20)] (0, 5, 10, 28) [] rfl (by intro z hz; simp only [List.mem_cons, List.not_mem_nil, or_false] at hz; rcases hz with rfl <;> first | exact ⟨by decide, "java/lang/IndexOutOfBoundsException", zk_560, List.mem_of_getElem? (i := 4) rfl⟩) ⟨by decide, by decide⟩ (by decide) zk_780 (List.mem_of_getElem? (i := 1) rfl) hce hcv hcl ?_
      refine z_astore_n C0 hl [(2, .ref q), (0, .ref (ad 0)), (1, .int (zI x0))] (by decide) rfl dL_latest_10 (fun ls hl => ?_)
      refine z_bipush C0 dL_latest_11 (by decide) ?_
      exact z_iret C0 Wd hret hlk (zR_mk (by decide) (by decide)) (Or.inr (Or.inr (⟨rfl, hp⟩))) dL_latest_13
theorem hs_isListening : zKH yL_isListening cL_isListening 3 [(0, 13, 14, 20)] 2 := ⟨zk_969, zk_968, zk_24, by decide, by decide, by decide +kernel⟩
theorem ch_isListening (l : Launch) (g : zG) (zX : va_W) (ad : Int → Nat) (M F : zMem) (x0 : Int) (P : Int → zMem → zMem → Prop) (T : String → zMem → zMem → Prop) (hM : zMx l yX11_isListening cX11_isListening 2 (some .boolean) 8 1 6 g (0, 398, zX) ad [.ref (ad 0), .int (zI x0)] M F (zPi P) T) (hE : ∀ E M' F', T E M' F' → E = "java/lang/IndexOutOfBoundsException") (hB : ∀ r M' F', P r M' F' → r = 0 ∨ r = 1) : hMt l yL_isListening cL_isListening 3 [(0, 13, 14, 20)] 9 1 6 g zX ad [.ref (ad 0), .int (zI x0)] M F (zPi (fun k M' F' => (P k M' F') ∨ (k = -11 ∧ T "java/lang/IndexOutOfBoundsException" M' F'))) := by
  refine hMt.of "DrumWarrenLaw" rfl (by decide +kernel) (Nat.le_of_ble_eq_true rfl) (fun {p e s m args below meth c ls} C0 Wd hl hret hlk hst htab => ?_)
  have hl : lv_has ls 3 [(0, .ref (ad 0)), (1, .int (zI x0))] := hl
  refine z_aload_n C0 hl 0 rfl dL_isListening_0 ?_
  refine z_iload_n C0 hl 1 rfl dL_isListening_1 ?_
  refine z_invVH (As := [.int (zI x0)]) (rest := []) C0 Wd hst hM kv_X11_isListening zN0 (zE_8 zK0) rfl zk_970 rfl hl.1 rfl (Nat.le_of_ble_eq_true rfl) (by decide) (by decide) dL_isListening_2 (fun v M1 F1 H locs hp Wd => ?_) (fun E M1 F1 H locs q ce hp Wd hce hcv hcl => ?_)
  · obtain ⟨r, rfl, hr, hp⟩ := hp
    rcases hB r M1 F1 hp with rfl | rfl
    · refine z_if_eq C0 (tgt := 12) (zR_mk (by decide) (by decide)) dL_isListening_5 (by decide) (fun _ => ?_) (fun h => absurd rfl h)
      refine z_iconst C0 dL_isListening_12 ?_
      exact z_iret C0 Wd hret hlk (zR_mk (by decide) (by decide)) (Or.inl hp) dL_isListening_13
    · refine z_if_eq C0 (tgt := 12) (zR_mk (by decide) (by decide)) dL_isListening_5 (by decide) (fun h => absurd h (by decide)) (fun _ => ?_)
      refine z_iconst C0 dL_isListening_8 ?_
      refine z_goto C0 (tgt := 13) dL_isListening_9 (by decide) ?_
      exact z_iret C0 Wd hret hlk (zR_mk (by decide) (by decide)) (Or.inl hp) dL_isListening_13
  · rcases hE E M1 F1 hp with rfl
    · refine z_catch C0 htab [] (0, 13, 14, 20) [] rfl (fun _ h => nomatch h) ⟨by decide, by decide⟩ (by decide) zk_560 (List.mem_of_getElem? (i := 0) rfl) hce hcv hcl ?_
      refine z_astore_n C0 hl [(2, .ref q), (0, .ref (ad 0)), (1, .int (zI x0))] (by decide) rfl dL_isListening_14 (fun ls hl => ?_)
      refine z_bipush C0 dL_isListening_15 (by decide) ?_
      exact z_iret C0 Wd hret hlk (zR_mk (by decide) (by decide)) (Or.inr (⟨rfl, hp⟩)) dL_isListening_17
theorem hs_timesLost : zKH yL_timesLost cL_timesLost 3 [(0, 5, 6, 28)] 2 := ⟨zk_979, zk_978, zk_24, by decide, by decide, by decide +kernel⟩
theorem ch_timesLost (l : Launch) (g : zG) (zX : va_W) (ad : Int → Nat) (M F : zMem) (x0 : Int) (P : Int → zMem → zMem → Prop) (T : String → zMem → zMem → Prop) (hM : zMx l yX11_timesLost cX11_timesLost 2 (some .int) 8 1 6 g (0, 398, zX) ad [.ref (ad 0), .int (zI x0)] M F (zPi P) T) (hE : ∀ E M' F', T E M' F' → E = "java/util/NoSuchElementException") : hMt l yL_timesLost cL_timesLost 3 [(0, 5, 6, 28)] 9 1 6 g zX ad [.ref (ad 0), .int (zI x0)] M F (zPi (fun k M' F' => (P k M' F') ∨ (k = -13 ∧ T "java/util/NoSuchElementException" M' F'))) := by
  refine hMt.of "DrumWarrenLaw" rfl (by decide +kernel) (Nat.le_of_ble_eq_true rfl) (fun {p e s m args below meth c ls} C0 Wd hl hret hlk hst htab => ?_)
  have hl : lv_has ls 3 [(0, .ref (ad 0)), (1, .int (zI x0))] := hl
  refine z_aload_n C0 hl 0 rfl dL_timesLost_0 ?_
  refine z_iload_n C0 hl 1 rfl dL_timesLost_1 ?_
  refine z_invVH (As := [.int (zI x0)]) (rest := []) C0 Wd hst hM kv_X11_timesLost zN0 (zE_8 zK0) rfl zk_980 rfl hl.1 rfl (Nat.le_of_ble_eq_true rfl) (by decide) (by decide) dL_timesLost_2 (fun v M1 F1 H locs hp Wd => ?_) (fun E M1 F1 H locs q ce hp Wd hce hcv hcl => ?_)
  · obtain ⟨r, rfl, hr, hp⟩ := hp
    exact z_iret C0 Wd hret hlk hr (Or.inl hp) dL_timesLost_5
  · rcases hE E M1 F1 hp with rfl
    · refine z_catch C0 htab [] (0, 5, 6, 28) [] rfl (fun _ h => nomatch h) ⟨by decide, by decide⟩ (by decide) zk_780 (List.mem_of_getElem? (i := 1) rfl) hce hcv hcl ?_
      refine z_astore_n C0 hl [(2, .ref q), (0, .ref (ad 0)), (1, .int (zI x0))] (by decide) rfl dL_timesLost_6 (fun ls hl => ?_)
      refine z_bipush C0 dL_timesLost_7 (by decide) ?_
      exact z_iret C0 Wd hret hlk (zR_mk (by decide) (by decide)) (Or.inr (⟨rfl, hp⟩)) dL_timesLost_9
theorem hs_writeMessage : zKH yL_writeMessage cL_writeMessage 3 [(0, 5, 6, 28)] 2 := ⟨zk_989, zk_988, zk_24, by decide, by decide, by decide +kernel⟩
theorem ch_writeMessage (l : Launch) (g : zG) (zX : va_W) (ad : Int → Nat) (M F : zMem) (x0 : Int) (P : Int → zMem → zMem → Prop) (T : String → zMem → zMem → Prop) (hM : zMx l yX11_writeMessage cX11_writeMessage 4 (some .int) 8 1 6 g (0, 398, zX) ad [.ref (ad 0), .int (zI x0)] M F (zPi P) T) (hE : ∀ E M' F', T E M' F' → E = "java/util/NoSuchElementException") : hMt l yL_writeMessage cL_writeMessage 3 [(0, 5, 6, 28)] 9 1 6 g zX ad [.ref (ad 0), .int (zI x0)] M F (zPi (fun k M' F' => (P k M' F') ∨ (k = -13 ∧ T "java/util/NoSuchElementException" M' F'))) := by
  refine hMt.of "DrumWarrenLaw" rfl (by decide +kernel) (Nat.le_of_ble_eq_true rfl) (fun {p e s m args below meth c ls} C0 Wd hl hret hlk hst htab => ?_)
  have hl : lv_has ls 3 [(0, .ref (ad 0)), (1, .int (zI x0))] := hl
  refine z_aload_n C0 hl 0 rfl dL_writeMessage_0 ?_
  refine z_iload_n C0 hl 1 rfl dL_writeMessage_1 ?_
  refine z_invVH (As := [.int (zI x0)]) (rest := []) C0 Wd hst hM kv_X11_writeMessage zN0 (zE_8 zK0) rfl zk_990 rfl hl.1 rfl (Nat.le_of_ble_eq_true rfl) (by decide) (by decide) dL_writeMessage_2 (fun v M1 F1 H locs hp Wd => ?_) (fun E M1 F1 H locs q ce hp Wd hce hcv hcl => ?_)
  · obtain ⟨r, rfl, hr, hp⟩ := hp
    exact z_iret C0 Wd hret hlk hr (Or.inl hp) dL_writeMessage_5
  · rcases hE E M1 F1 hp with rfl
    · refine z_catch C0 htab [] (0, 5, 6, 28) [] rfl (fun _ h => nomatch h) ⟨by decide, by decide⟩ (by decide) zk_780 (List.mem_of_getElem? (i := 1) rfl) hce hcv hcl ?_
      refine z_astore_n C0 hl [(2, .ref q), (0, .ref (ad 0)), (1, .int (zI x0))] (by decide) rfl dL_writeMessage_6 (fun ls hl => ?_)
      refine z_bipush C0 dL_writeMessage_7 (by decide) ?_
      exact z_iret C0 Wd hret hlk (zR_mk (by decide) (by decide)) (Or.inr (⟨rfl, hp⟩)) dL_writeMessage_9
theorem hs_outputAt : zKH yL_outputAt cL_outputAt 3 [(0, 5, 6, 20)] 2 := ⟨zk_1273, zk_1272, zk_24, by decide, by decide, by decide +kernel⟩
theorem ch_outputAt (l : Launch) (g : zG) (zX : va_W) (ad : Int → Nat) (M F : zMem) (x0 : Int) (P : Int → zMem → zMem → Prop) (T : String → zMem → zMem → Prop) (hM : zMx l yX11_outputCharacter cX11_outputCharacter 2 (some .char) 8 1 6 g (0, 398, zX) ad [.ref (ad 0), .int (zI x0)] M F (zPi P) T) (hE : ∀ E M' F', T E M' F' → E = "java/lang/IndexOutOfBoundsException") : hMt l yL_outputAt cL_outputAt 3 [(0, 5, 6, 20)] 9 1 6 g zX ad [.ref (ad 0), .int (zI x0)] M F (zPi (fun k M' F' => (P k M' F') ∨ (k = -11 ∧ T "java/lang/IndexOutOfBoundsException" M' F'))) := by
  refine hMt.of "DrumWarrenLaw" rfl (by decide +kernel) (Nat.le_of_ble_eq_true rfl) (fun {p e s m args below meth c ls} C0 Wd hl hret hlk hst htab => ?_)
  have hl : lv_has ls 3 [(0, .ref (ad 0)), (1, .int (zI x0))] := hl
  refine z_aload_n C0 hl 0 rfl dL_outputAt_0 ?_
  refine z_iload_n C0 hl 1 rfl dL_outputAt_1 ?_
  refine z_invVH (As := [.int (zI x0)]) (rest := []) C0 Wd hst hM kv_X11_outputCharacter zN0 (zE_8 zK0) rfl zk_1274 rfl hl.1 rfl (Nat.le_of_ble_eq_true rfl) (by decide) (by decide) dL_outputAt_2 (fun v M1 F1 H locs hp Wd => ?_) (fun E M1 F1 H locs q ce hp Wd hce hcv hcl => ?_)
  · obtain ⟨r, rfl, hr, hp⟩ := hp
    exact z_iret C0 Wd hret hlk hr (Or.inl hp) dL_outputAt_5
  · rcases hE E M1 F1 hp with rfl
    · refine z_catch C0 htab [] (0, 5, 6, 20) [] rfl (fun _ h => nomatch h) ⟨by decide, by decide⟩ (by decide) zk_560 (List.mem_of_getElem? (i := 0) rfl) hce hcv hcl ?_
      refine z_astore_n C0 hl [(2, .ref q), (0, .ref (ad 0)), (1, .int (zI x0))] (by decide) rfl dL_outputAt_6 (fun ls hl => ?_)
      refine z_bipush C0 dL_outputAt_7 (by decide) ?_
      exact z_iret C0 Wd hret hlk (zR_mk (by decide) (by decide)) (Or.inr (⟨rfl, hp⟩)) dL_outputAt_9
theorem hs_receiver : zKH yL_receiver cL_receiver 3 [(0, 5, 6, 28)] 2 := ⟨zk_1348, zk_1347, zk_24, by decide, by decide, by decide +kernel⟩
theorem ch_receiver (l : Launch) (g : zG) (zX : va_W) (ad : Int → Nat) (M F : zMem) (x0 : Int) (P : Int → zMem → zMem → Prop) (T : String → zMem → zMem → Prop) (hM : zMx l yX11_receiver cX11_receiver 2 (some .int) 8 1 6 g (0, 398, zX) ad [.ref (ad 0), .int (zI x0)] M F (zPi P) T) (hE : ∀ E M' F', T E M' F' → E = "java/util/NoSuchElementException") : hMt l yL_receiver cL_receiver 3 [(0, 5, 6, 28)] 9 1 6 g zX ad [.ref (ad 0), .int (zI x0)] M F (zPi (fun k M' F' => (P k M' F') ∨ (k = -13 ∧ T "java/util/NoSuchElementException" M' F'))) := by
  refine hMt.of "DrumWarrenLaw" rfl (by decide +kernel) (Nat.le_of_ble_eq_true rfl) (fun {p e s m args below meth c ls} C0 Wd hl hret hlk hst htab => ?_)
  have hl : lv_has ls 3 [(0, .ref (ad 0)), (1, .int (zI x0))] := hl
  refine z_aload_n C0 hl 0 rfl dL_receiver_0 ?_
  refine z_iload_n C0 hl 1 rfl dL_receiver_1 ?_
  refine z_invVH (As := [.int (zI x0)]) (rest := []) C0 Wd hst hM kv_X11_receiver zN0 (zE_8 zK0) rfl zk_1295 rfl hl.1 rfl (Nat.le_of_ble_eq_true rfl) (by decide) (by decide) dL_receiver_2 (fun v M1 F1 H locs hp Wd => ?_) (fun E M1 F1 H locs q ce hp Wd hce hcv hcl => ?_)
  · obtain ⟨r, rfl, hr, hp⟩ := hp
    exact z_iret C0 Wd hret hlk hr (Or.inl hp) dL_receiver_5
  · rcases hE E M1 F1 hp with rfl
    · refine z_catch C0 htab [] (0, 5, 6, 28) [] rfl (fun _ h => nomatch h) ⟨by decide, by decide⟩ (by decide) zk_780 (List.mem_of_getElem? (i := 1) rfl) hce hcv hcl ?_
      refine z_astore_n C0 hl [(2, .ref q), (0, .ref (ad 0)), (1, .int (zI x0))] (by decide) rfl dL_receiver_6 (fun ls hl => ?_)
      refine z_bipush C0 dL_receiver_7 (by decide) ?_
      exact z_iret C0 Wd hret hlk (zR_mk (by decide) (by decide)) (Or.inr (⟨rfl, hp⟩)) dL_receiver_9
theorem hs_beats : zKH yL_beats cL_beats 3 [(0, 5, 6, 28)] 2 := ⟨zk_1351, zk_1350, zk_24, by decide, by decide, by decide +kernel⟩
theorem ch_beats (l : Launch) (g : zG) (zX : va_W) (ad : Int → Nat) (M F : zMem) (x0 : Int) (P : Int → zMem → zMem → Prop) (T : String → zMem → zMem → Prop) (hM : zMx l yX11_beatsDrummed cX11_beatsDrummed 2 (some .int) 8 1 6 g (0, 398, zX) ad [.ref (ad 0), .int (zI x0)] M F (zPi P) T) (hE : ∀ E M' F', T E M' F' → E = "java/util/NoSuchElementException") : hMt l yL_beats cL_beats 3 [(0, 5, 6, 28)] 9 1 6 g zX ad [.ref (ad 0), .int (zI x0)] M F (zPi (fun k M' F' => (P k M' F') ∨ (k = -13 ∧ T "java/util/NoSuchElementException" M' F'))) := by
  refine hMt.of "DrumWarrenLaw" rfl (by decide +kernel) (Nat.le_of_ble_eq_true rfl) (fun {p e s m args below meth c ls} C0 Wd hl hret hlk hst htab => ?_)
  have hl : lv_has ls 3 [(0, .ref (ad 0)), (1, .int (zI x0))] := hl
  refine z_aload_n C0 hl 0 rfl dL_beats_0 ?_
  refine z_iload_n C0 hl 1 rfl dL_beats_1 ?_
  refine z_invVH (As := [.int (zI x0)]) (rest := []) C0 Wd hst hM kv_X11_beatsDrummed zN0 (zE_8 zK0) rfl zk_1352 rfl hl.1 rfl (Nat.le_of_ble_eq_true rfl) (by decide) (by decide) dL_beats_2 (fun v M1 F1 H locs hp Wd => ?_) (fun E M1 F1 H locs q ce hp Wd hce hcv hcl => ?_)
  · obtain ⟨r, rfl, hr, hp⟩ := hp
    exact z_iret C0 Wd hret hlk hr (Or.inl hp) dL_beats_5
  · rcases hE E M1 F1 hp with rfl
    · refine z_catch C0 htab [] (0, 5, 6, 28) [] rfl (fun _ h => nomatch h) ⟨by decide, by decide⟩ (by decide) zk_780 (List.mem_of_getElem? (i := 1) rfl) hce hcv hcl ?_
      refine z_astore_n C0 hl [(2, .ref q), (0, .ref (ad 0)), (1, .int (zI x0))] (by decide) rfl dL_beats_6 (fun ls hl => ?_)
      refine z_bipush C0 dL_beats_7 (by decide) ?_
      exact z_iret C0 Wd hret hlk (zR_mk (by decide) (by decide)) (Or.inr (⟨rfl, hp⟩)) dL_beats_9
theorem hs_until : zKH yL_until cL_until 3 [(0, 5, 6, 28), (0, 5, 10, 14), (0, 5, 14, 107)] 2 := ⟨zk_1358, zk_1357, zk_24, by decide, by decide, by decide +kernel⟩
theorem ch_until (l : Launch) (g : zG) (zX : va_W) (ad : Int → Nat) (M F : zMem) (x0 : Int) (P : Int → zMem → zMem → Prop) (T : String → zMem → zMem → Prop) (hM : zMx l yX11_ticksUntilDelivery cX11_ticksUntilDelivery 5 (some .int) 8 2 12 g (0, 398, zX) ad [.ref (ad 0), .int (zI x0)] M F (zPi P) T) (hE : ∀ E M' F', T E M' F' → E = "java/util/NoSuchElementException" ∨ E = "java/lang/IllegalStateException" ∨ E = "java/lang/UnsupportedOperationException") : hMt l yL_until cL_until 3 [(0, 5, 6, 28), (0, 5, 10, 14), (0, 5, 14, 107)] 9 2 12 g zX ad [.ref (ad 0), .int (zI x0)] M F (zPi (fun k M' F' => (P k M' F') ∨ (k = -13 ∧ T "java/util/NoSuchElementException" M' F') ∨ (k = -14 ∧ T "java/lang/IllegalStateException" M' F') ∨ (k = -15 ∧ T "java/lang/UnsupportedOperationException" M' F'))) := by
  refine hMt.of "DrumWarrenLaw" rfl (by decide +kernel) (Nat.le_of_ble_eq_true rfl) (fun {p e s m args below meth c ls} C0 Wd hl hret hlk hst htab => ?_)
  have hl : lv_has ls 3 [(0, .ref (ad 0)), (1, .int (zI x0))] := hl
  refine z_aload_n C0 hl 0 rfl dL_until_0 ?_
  refine z_iload_n C0 hl 1 rfl dL_until_1 ?_
  refine z_invVH (As := [.int (zI x0)]) (rest := []) C0 Wd hst hM kv_X11_ticksUntilDelivery zN0 (zE_8 zK0) rfl zk_1360 rfl hl.1 rfl (Nat.le_of_ble_eq_true rfl) (by decide) (by decide) dL_until_2 (fun v M1 F1 H locs hp Wd => ?_) (fun E M1 F1 H locs q ce hp Wd hce hcv hcl => ?_)
  · obtain ⟨r, rfl, hr, hp⟩ := hp
    exact z_iret C0 Wd hret hlk hr (Or.inl hp) dL_until_5
  · rcases hE E M1 F1 hp with rfl | rfl | rfl
    · refine z_catch C0 htab [] (0, 5, 6, 28) [(0, 5, 10, 14), (0, 5, 14, 107)] rfl (fun _ h => nomatch h) ⟨by decide, by decide⟩ (by decide) zk_780 (List.mem_of_getElem? (i := 1) rfl) hce hcv hcl ?_
      refine z_astore_n C0 hl [(2, .ref q), (0, .ref (ad 0)), (1, .int (zI x0))] (by decide) rfl dL_until_6 (fun ls hl => ?_)
      refine z_bipush C0 dL_until_7 (by decide) ?_
      exact z_iret C0 Wd hret hlk (zR_mk (by decide) (by decide)) (Or.inr (Or.inl ⟨rfl, hp⟩)) dL_until_9
    · refine z_catch C0 htab [(0, 5, 6, 28)] (0, 5, 10, 14) [(0, 5, 14, 107)] rfl (by intro z hz; simp only [List.mem_cons, List.not_mem_nil, or_false] at hz; rcases hz with rfl <;> first | exact ⟨by decide, "java/util/NoSuchElementException", zk_780, List.mem_of_getElem? (i := 13) rfl⟩) ⟨by decide, by decide⟩ (by decide) zk_377 (List.mem_of_getElem? (i := 3) rfl) hce hcv hcl ?_
      refine z_astore_n C0 hl [(2, .ref q), (0, .ref (ad 0)), (1, .int (zI x0))] (by decide) rfl dL_until_10 (fun ls hl => ?_)
      refine z_bipush C0 dL_until_11 (by decide) ?_
      exact z_iret C0 Wd hret hlk (zR_mk (by decide) (by decide)) (Or.inr (Or.inr (Or.inl ⟨rfl, hp⟩))) dL_until_13
    · refine z_catch C0 htab [(0, 5, 6, 28), (0, 5, 10, 14)] (0, 5, 14, 107) [] rfl (by intro z hz; simp only [List.mem_cons, List.not_mem_nil, or_false] at hz; rcases hz with rfl | rfl <;> first | exact ⟨by decide, "java/util/NoSuchElementException", zk_780, List.mem_of_getElem? (i := 17) rfl⟩ | exact ⟨by decide, "java/lang/IllegalStateException", zk_377, List.mem_of_getElem? (i := 19) rfl⟩) ⟨by decide, by decide⟩ (by decide) zk_1359 (List.mem_of_getElem? (i := 4) rfl) hce hcv hcl ?_
      refine z_astore_n C0 hl [(2, .ref q), (0, .ref (ad 0)), (1, .int (zI x0))] (by decide) rfl dL_until_14 (fun ls hl => ?_)
      refine z_bipush C0 dL_until_15 (by decide) ?_
      exact z_iret C0 Wd hret hlk (zR_mk (by decide) (by decide)) (Or.inr (Or.inr (Or.inr (⟨rfl, hp⟩)))) dL_until_17
theorem hs_isThump : zKH yL_isThump cL_isThump 4 [(0, 14, 15, 22), (0, 14, 19, 20)] 3 := ⟨zk_1438, zk_1437, zk_24, by decide, by decide, by decide +kernel⟩
theorem ch_isThump (l : Launch) (g : zG) (zX : va_W) (ad : Int → Nat) (M F : zMem) (x0 : Int) (x1 : Int) (P : Int → zMem → zMem → Prop) (T : String → zMem → zMem → Prop) (hM : zMx l yX11_isThump cX11_isThump 3 (some .boolean) 8 2 12 g (0, 398, zX) ad [.ref (ad 0), .int (zI x0), .int (zI x1)] M F (zPi P) T) (hE : ∀ E M' F', T E M' F' → E = "java/lang/IllegalArgumentException" ∨ E = "java/lang/IndexOutOfBoundsException") (hB : ∀ r M' F', P r M' F' → r = 0 ∨ r = 1) : hMt l yL_isThump cL_isThump 4 [(0, 14, 15, 22), (0, 14, 19, 20)] 9 2 12 g zX ad [.ref (ad 0), .int (zI x0), .int (zI x1)] M F (zPi (fun k M' F' => (P k M' F') ∨ (k = -12 ∧ T "java/lang/IllegalArgumentException" M' F') ∨ (k = -11 ∧ T "java/lang/IndexOutOfBoundsException" M' F'))) := by
  refine hMt.of "DrumWarrenLaw" rfl (by decide +kernel) (Nat.le_of_ble_eq_true rfl) (fun {p e s m args below meth c ls} C0 Wd hl hret hlk hst htab => ?_)
  have hl : lv_has ls 4 [(0, .ref (ad 0)), (1, .int (zI x0)), (2, .int (zI x1))] := hl
  refine z_aload_n C0 hl 0 rfl dL_isThump_0 ?_
  refine z_iload_n C0 hl 1 rfl dL_isThump_1 ?_
  refine z_iload_n C0 hl 2 rfl dL_isThump_2 ?_
  refine z_invVH (As := [.int (zI x0), .int (zI x1)]) (rest := []) C0 Wd hst hM kv_X11_isThump zN0 (zE_8 zK0) rfl zk_1439 rfl hl.1 rfl (Nat.le_of_ble_eq_true rfl) (by decide) (by decide) dL_isThump_3 (fun v M1 F1 H locs hp Wd => ?_) (fun E M1 F1 H locs q ce hp Wd hce hcv hcl => ?_)
  · obtain ⟨r, rfl, hr, hp⟩ := hp
    rcases hB r M1 F1 hp with rfl | rfl
    · refine z_if_eq C0 (tgt := 13) (zR_mk (by decide) (by decide)) dL_isThump_6 (by decide) (fun _ => ?_) (fun h => absurd rfl h)
      refine z_iconst C0 dL_isThump_13 ?_
      exact z_iret C0 Wd hret hlk (zR_mk (by decide) (by decide)) (Or.inl hp) dL_isThump_14
    · refine z_if_eq C0 (tgt := 13) (zR_mk (by decide) (by decide)) dL_isThump_6 (by decide) (fun h => absurd h (by decide)) (fun _ => ?_)
      refine z_iconst C0 dL_isThump_9 ?_
      refine z_goto C0 (tgt := 14) dL_isThump_10 (by decide) ?_
      exact z_iret C0 Wd hret hlk (zR_mk (by decide) (by decide)) (Or.inl hp) dL_isThump_14
  · rcases hE E M1 F1 hp with rfl | rfl
    · refine z_catch C0 htab [] (0, 14, 15, 22) [(0, 14, 19, 20)] rfl (fun _ h => nomatch h) ⟨by decide, by decide⟩ (by decide) zk_581 (List.mem_of_getElem? (i := 2) rfl) hce hcv hcl ?_
      refine z_astore_n C0 hl [(3, .ref q), (0, .ref (ad 0)), (1, .int (zI x0)), (2, .int (zI x1))] (by decide) rfl dL_isThump_15 (fun ls hl => ?_)
      refine z_bipush C0 dL_isThump_16 (by decide) ?_
      exact z_iret C0 Wd hret hlk (zR_mk (by decide) (by decide)) (Or.inr (Or.inl ⟨rfl, hp⟩)) dL_isThump_18
    · refine z_catch C0 htab [(0, 14, 15, 22)] (0, 14, 19, 20) [] rfl (by intro z hz; simp only [List.mem_cons, List.not_mem_nil, or_false] at hz; rcases hz with rfl <;> first | exact ⟨by decide, "java/lang/IllegalArgumentException", zk_581, List.mem_of_getElem? (i := 1) rfl⟩) ⟨by decide, by decide⟩ (by decide) zk_560 (List.mem_of_getElem? (i := 0) rfl) hce hcv hcl ?_
      refine z_astore_n C0 hl [(3, .ref q), (0, .ref (ad 0)), (1, .int (zI x0)), (2, .int (zI x1))] (by decide) rfl dL_isThump_19 (fun ls hl => ?_)
      refine z_bipush C0 dL_isThump_20 (by decide) ?_
      exact z_iret C0 Wd hret hlk (zR_mk (by decide) (by decide)) (Or.inr (Or.inr (⟨rfl, hp⟩))) dL_isThump_22
theorem hs_decode : zKH yL_decode cL_decode 3 [(0, 5, 6, 22), (0, 5, 10, 28)] 2 := ⟨zk_1454, zk_1453, zk_24, by decide, by decide, by decide +kernel⟩
theorem ch_decode (l : Launch) (g : zG) (zX : va_W) (ad : Int → Nat) (M F : zMem) (x0 : Int) (P : Int → zMem → zMem → Prop) (T : String → zMem → zMem → Prop) (hM : zMx l yX11_decode cX11_decode 3 (some .int) 8 1 6 g (0, 398, zX) ad [.ref (ad 0), .int (zI x0)] M F (zPi P) T) (hE : ∀ E M' F', T E M' F' → E = "java/lang/IllegalArgumentException" ∨ E = "java/util/NoSuchElementException") : hMt l yL_decode cL_decode 3 [(0, 5, 6, 22), (0, 5, 10, 28)] 9 1 6 g zX ad [.ref (ad 0), .int (zI x0)] M F (zPi (fun k M' F' => (P k M' F') ∨ (k = -12 ∧ T "java/lang/IllegalArgumentException" M' F') ∨ (k = -13 ∧ T "java/util/NoSuchElementException" M' F'))) := by
  refine hMt.of "DrumWarrenLaw" rfl (by decide +kernel) (Nat.le_of_ble_eq_true rfl) (fun {p e s m args below meth c ls} C0 Wd hl hret hlk hst htab => ?_)
  have hl : lv_has ls 3 [(0, .ref (ad 0)), (1, .int (zI x0))] := hl
  refine z_aload_n C0 hl 0 rfl dL_decode_0 ?_
  refine z_iload_n C0 hl 1 rfl dL_decode_1 ?_
  refine z_invVH (As := [.int (zI x0)]) (rest := []) C0 Wd hst hM kv_X11_decode zN0 (zE_8 zK0) rfl zk_1455 rfl hl.1 rfl (Nat.le_of_ble_eq_true rfl) (by decide) (by decide) dL_decode_2 (fun v M1 F1 H locs hp Wd => ?_) (fun E M1 F1 H locs q ce hp Wd hce hcv hcl => ?_)
  · obtain ⟨r, rfl, hr, hp⟩ := hp
    exact z_iret C0 Wd hret hlk hr (Or.inl hp) dL_decode_5
  · rcases hE E M1 F1 hp with rfl | rfl
    · refine z_catch C0 htab [] (0, 5, 6, 22) [(0, 5, 10, 28)] rfl (fun _ h => nomatch h) ⟨by decide, by decide⟩ (by decide) zk_581 (List.mem_of_getElem? (i := 2) rfl) hce hcv hcl ?_
      refine z_astore_n C0 hl [(2, .ref q), (0, .ref (ad 0)), (1, .int (zI x0))] (by decide) rfl dL_decode_6 (fun ls hl => ?_)
      refine z_bipush C0 dL_decode_7 (by decide) ?_
      exact z_iret C0 Wd hret hlk (zR_mk (by decide) (by decide)) (Or.inr (Or.inl ⟨rfl, hp⟩)) dL_decode_9
    · refine z_catch C0 htab [(0, 5, 6, 22)] (0, 5, 10, 28) [] rfl (by intro z hz; simp only [List.mem_cons, List.not_mem_nil, or_false] at hz; rcases hz with rfl <;> first | exact ⟨by decide, "java/lang/IllegalArgumentException", zk_581, List.mem_of_getElem? (i := 5) rfl⟩) ⟨by decide, by decide⟩ (by decide) zk_780 (List.mem_of_getElem? (i := 1) rfl) hce hcv hcl ?_
      refine z_astore_n C0 hl [(2, .ref q), (0, .ref (ad 0)), (1, .int (zI x0))] (by decide) rfl dL_decode_10 (fun ls hl => ?_)
      refine z_bipush C0 dL_decode_11 (by decide) ?_
      exact z_iret C0 Wd hret hlk (zR_mk (by decide) (by decide)) (Or.inr (Or.inr (⟨rfl, hp⟩))) dL_decode_13
theorem hs_writeCode : zKH yL_writeCode cL_writeCode 3 [(0, 5, 6, 22)] 2 := ⟨zk_1463, zk_1462, zk_24, by decide, by decide, by decide +kernel⟩
theorem ch_writeCode (l : Launch) (g : zG) (zX : va_W) (ad : Int → Nat) (M F : zMem) (x0 : Int) (P : Int → zMem → zMem → Prop) (T : String → zMem → zMem → Prop) (hM : zMx l yX11_writeCode cX11_writeCode 4 (some .int) 8 1 6 g (0, 398, zX) ad [.ref (ad 0), .int (zI x0)] M F (zPi P) T) (hE : ∀ E M' F', T E M' F' → E = "java/lang/IllegalArgumentException") : hMt l yL_writeCode cL_writeCode 3 [(0, 5, 6, 22)] 9 1 6 g zX ad [.ref (ad 0), .int (zI x0)] M F (zPi (fun k M' F' => (P k M' F') ∨ (k = -12 ∧ T "java/lang/IllegalArgumentException" M' F'))) := by
  refine hMt.of "DrumWarrenLaw" rfl (by decide +kernel) (Nat.le_of_ble_eq_true rfl) (fun {p e s m args below meth c ls} C0 Wd hl hret hlk hst htab => ?_)
  have hl : lv_has ls 3 [(0, .ref (ad 0)), (1, .int (zI x0))] := hl
  refine z_aload_n C0 hl 0 rfl dL_writeCode_0 ?_
  refine z_iload_n C0 hl 1 rfl dL_writeCode_1 ?_
  refine z_invVH (As := [.int (zI x0)]) (rest := []) C0 Wd hst hM kv_X11_writeCode zN0 (zE_8 zK0) rfl zk_1464 rfl hl.1 rfl (Nat.le_of_ble_eq_true rfl) (by decide) (by decide) dL_writeCode_2 (fun v M1 F1 H locs hp Wd => ?_) (fun E M1 F1 H locs q ce hp Wd hce hcv hcl => ?_)
  · obtain ⟨r, rfl, hr, hp⟩ := hp
    exact z_iret C0 Wd hret hlk hr (Or.inl hp) dL_writeCode_5
  · rcases hE E M1 F1 hp with rfl
    · refine z_catch C0 htab [] (0, 5, 6, 22) [] rfl (fun _ h => nomatch h) ⟨by decide, by decide⟩ (by decide) zk_581 (List.mem_of_getElem? (i := 2) rfl) hce hcv hcl ?_
      refine z_astore_n C0 hl [(2, .ref q), (0, .ref (ad 0)), (1, .int (zI x0))] (by decide) rfl dL_writeCode_6 (fun ls hl => ?_)
      refine z_bipush C0 dL_writeCode_7 (by decide) ?_
      exact z_iret C0 Wd hret hlk (zR_mk (by decide) (by decide)) (Or.inr (⟨rfl, hp⟩)) dL_writeCode_9
theorem hs_removeTunnel : zKH yL_removeTunnel cL_removeTunnel 4 [(0, 6, 7, 20), (0, 6, 10, 28)] 3 := ⟨zk_1498, zk_1497, zk_24, by decide, by decide, by decide +kernel⟩
theorem ch_removeTunnel (l : Launch) (g : zG) (zX : va_W) (ad : Int → Nat) (M F : zMem) (x0 : Int) (x1 : Int) (P : Int → zMem → zMem → Prop) (T : String → zMem → zMem → Prop) (hM : zMx l yX11_removeTunnel cX11_removeTunnel 4 (some .int) 8 1 6 g (0, 398, zX) ad [.ref (ad 0), .int (zI x0), .int (zI x1)] M F (zPi P) T) (hE : ∀ E M' F', T E M' F' → E = "java/lang/IndexOutOfBoundsException" ∨ E = "java/util/NoSuchElementException") : hMt l yL_removeTunnel cL_removeTunnel 4 [(0, 6, 7, 20), (0, 6, 10, 28)] 9 1 6 g zX ad [.ref (ad 0), .int (zI x0), .int (zI x1)] M F (zPi (fun k M' F' => (P k M' F') ∨ (k = -1 ∧ T "java/lang/IndexOutOfBoundsException" M' F') ∨ (k = -2 ∧ T "java/util/NoSuchElementException" M' F'))) := by
  refine hMt.of "DrumWarrenLaw" rfl (by decide +kernel) (Nat.le_of_ble_eq_true rfl) (fun {p e s m args below meth c ls} C0 Wd hl hret hlk hst htab => ?_)
  have hl : lv_has ls 4 [(0, .ref (ad 0)), (1, .int (zI x0)), (2, .int (zI x1))] := hl
  refine z_aload_n C0 hl 0 rfl dL_removeTunnel_0 ?_
  refine z_iload_n C0 hl 1 rfl dL_removeTunnel_1 ?_
  refine z_iload_n C0 hl 2 rfl dL_removeTunnel_2 ?_
  refine z_invVH (As := [.int (zI x0), .int (zI x1)]) (rest := []) C0 Wd hst hM kv_X11_removeTunnel zN0 (zE_8 zK0) rfl zk_1499 rfl hl.1 rfl (Nat.le_of_ble_eq_true rfl) (by decide) (by decide) dL_removeTunnel_3 (fun v M1 F1 H locs hp Wd => ?_) (fun E M1 F1 H locs q ce hp Wd hce hcv hcl => ?_)
  · obtain ⟨r, rfl, hr, hp⟩ := hp
    exact z_iret C0 Wd hret hlk hr (Or.inl hp) dL_removeTunnel_6
  · rcases hE E M1 F1 hp with rfl | rfl
    · refine z_catch C0 htab [] (0, 6, 7, 20) [(0, 6, 10, 28)] rfl (fun _ h => nomatch h) ⟨by decide, by decide⟩ (by decide) zk_560 (List.mem_of_getElem? (i := 0) rfl) hce hcv hcl ?_
      refine z_astore_n C0 hl [(3, .ref q), (0, .ref (ad 0)), (1, .int (zI x0)), (2, .int (zI x1))] (by decide) rfl dL_removeTunnel_7 (fun ls hl => ?_)
      refine z_iconst C0 dL_removeTunnel_8 ?_
      exact z_iret C0 Wd hret hlk (zR_mk (by decide) (by decide)) (Or.inr (Or.inl ⟨rfl, hp⟩)) dL_removeTunnel_9
    · refine z_catch C0 htab [(0, 6, 7, 20)] (0, 6, 10, 28) [] rfl (by intro z hz; simp only [List.mem_cons, List.not_mem_nil, or_false] at hz; rcases hz with rfl <;> first | exact ⟨by decide, "java/lang/IndexOutOfBoundsException", zk_560, List.mem_of_getElem? (i := 4) rfl⟩) ⟨by decide, by decide⟩ (by decide) zk_780 (List.mem_of_getElem? (i := 1) rfl) hce hcv hcl ?_
      refine z_astore_n C0 hl [(3, .ref q), (0, .ref (ad 0)), (1, .int (zI x0)), (2, .int (zI x1))] (by decide) rfl dL_removeTunnel_10 (fun ls hl => ?_)
      refine z_bipush C0 dL_removeTunnel_11 (by decide) ?_
      exact z_iret C0 Wd hret hlk (zR_mk (by decide) (by decide)) (Or.inr (Or.inr (⟨rfl, hp⟩))) dL_removeTunnel_13
theorem hs_forget : zKH yL_forget cL_forget 3 [(0, 5, 6, 28), (0, 5, 9, 14)] 2 := ⟨zk_1511, zk_1510, zk_24, by decide, by decide, by decide +kernel⟩
theorem ch_forget (l : Launch) (g : zG) (zX : va_W) (ad : Int → Nat) (M F : zMem) (x0 : Int) (P : Int → zMem → zMem → Prop) (T : String → zMem → zMem → Prop) (hM : zMx l yX11_forget cX11_forget 2 (some .int) 8 1 6 g (0, 398, zX) ad [.ref (ad 0), .int (zI x0)] M F (zPi P) T) (hE : ∀ E M' F', T E M' F' → E = "java/util/NoSuchElementException" ∨ E = "java/lang/IllegalStateException") : hMt l yL_forget cL_forget 3 [(0, 5, 6, 28), (0, 5, 9, 14)] 9 1 6 g zX ad [.ref (ad 0), .int (zI x0)] M F (zPi (fun k M' F' => (P k M' F') ∨ (k = -1 ∧ T "java/util/NoSuchElementException" M' F') ∨ (k = -2 ∧ T "java/lang/IllegalStateException" M' F'))) := by
  refine hMt.of "DrumWarrenLaw" rfl (by decide +kernel) (Nat.le_of_ble_eq_true rfl) (fun {p e s m args below meth c ls} C0 Wd hl hret hlk hst htab => ?_)
  have hl : lv_has ls 3 [(0, .ref (ad 0)), (1, .int (zI x0))] := hl
  refine z_aload_n C0 hl 0 rfl dL_forget_0 ?_
  refine z_iload_n C0 hl 1 rfl dL_forget_1 ?_
  refine z_invVH (As := [.int (zI x0)]) (rest := []) C0 Wd hst hM kv_X11_forget zN0 (zE_8 zK0) rfl zk_1512 rfl hl.1 rfl (Nat.le_of_ble_eq_true rfl) (by decide) (by decide) dL_forget_2 (fun v M1 F1 H locs hp Wd => ?_) (fun E M1 F1 H locs q ce hp Wd hce hcv hcl => ?_)
  · obtain ⟨r, rfl, hr, hp⟩ := hp
    exact z_iret C0 Wd hret hlk hr (Or.inl hp) dL_forget_5
  · rcases hE E M1 F1 hp with rfl | rfl
    · refine z_catch C0 htab [] (0, 5, 6, 28) [(0, 5, 9, 14)] rfl (fun _ h => nomatch h) ⟨by decide, by decide⟩ (by decide) zk_780 (List.mem_of_getElem? (i := 1) rfl) hce hcv hcl ?_
      refine z_astore_n C0 hl [(2, .ref q), (0, .ref (ad 0)), (1, .int (zI x0))] (by decide) rfl dL_forget_6 (fun ls hl => ?_)
      refine z_iconst C0 dL_forget_7 ?_
      exact z_iret C0 Wd hret hlk (zR_mk (by decide) (by decide)) (Or.inr (Or.inl ⟨rfl, hp⟩)) dL_forget_8
    · refine z_catch C0 htab [(0, 5, 6, 28)] (0, 5, 9, 14) [] rfl (by intro z hz; simp only [List.mem_cons, List.not_mem_nil, or_false] at hz; rcases hz with rfl <;> first | exact ⟨by decide, "java/util/NoSuchElementException", zk_780, List.mem_of_getElem? (i := 13) rfl⟩) ⟨by decide, by decide⟩ (by decide) zk_377 (List.mem_of_getElem? (i := 3) rfl) hce hcv hcl ?_
      refine z_astore_n C0 hl [(2, .ref q), (0, .ref (ad 0)), (1, .int (zI x0))] (by decide) rfl dL_forget_9 (fun ls hl => ?_)
      refine z_bipush C0 dL_forget_10 (by decide) ?_
      exact z_iret C0 Wd hret hlk (zR_mk (by decide) (by decide)) (Or.inr (Or.inr (⟨rfl, hp⟩))) dL_forget_12
theorem hs_feed : zKH yL_feed cL_feed 3 [(0, 5, 6, 14)] 2 := ⟨zk_1531, zk_1530, zk_24, by decide, by decide, by decide +kernel⟩
theorem ch_feed (l : Launch) (g : zG) (zX : va_W) (ad : Int → Nat) (M F : zMem) (x0 : Int) (P : Int → zMem → zMem → Prop) (T : String → zMem → zMem → Prop) (hM : zMx l yX11_feed cX11_feed 2 (some .int) 8 1 6 g (0, 398, zX) ad [.ref (ad 0), .int (zI x0)] M F (zPi P) T) (hE : ∀ E M' F', T E M' F' → E = "java/lang/IllegalStateException") : hMt l yL_feed cL_feed 3 [(0, 5, 6, 14)] 9 1 6 g zX ad [.ref (ad 0), .int (zI x0)] M F (zPi (fun k M' F' => (P k M' F') ∨ (k = -14 ∧ T "java/lang/IllegalStateException" M' F'))) := by
  refine hMt.of "DrumWarrenLaw" rfl (by decide +kernel) (Nat.le_of_ble_eq_true rfl) (fun {p e s m args below meth c ls} C0 Wd hl hret hlk hst htab => ?_)
  have hl : lv_has ls 3 [(0, .ref (ad 0)), (1, .int (zI x0))] := hl
  refine z_aload_n C0 hl 0 rfl dL_feed_0 ?_
  refine z_iload_n C0 hl 1 rfl dL_feed_1 ?_
  refine z_invVH (As := [.int (zI x0)]) (rest := []) C0 Wd hst hM kv_X11_feed zN0 (zE_8 zK0) rfl zk_1532 rfl hl.1 rfl (Nat.le_of_ble_eq_true rfl) (by decide) (by decide) dL_feed_2 (fun v M1 F1 H locs hp Wd => ?_) (fun E M1 F1 H locs q ce hp Wd hce hcv hcl => ?_)
  · obtain ⟨r, rfl, hr, hp⟩ := hp
    exact z_iret C0 Wd hret hlk hr (Or.inl hp) dL_feed_5
  · rcases hE E M1 F1 hp with rfl
    · refine z_catch C0 htab [] (0, 5, 6, 14) [] rfl (fun _ h => nomatch h) ⟨by decide, by decide⟩ (by decide) zk_377 (List.mem_of_getElem? (i := 3) rfl) hce hcv hcl ?_
      refine z_astore_n C0 hl [(2, .ref q), (0, .ref (ad 0)), (1, .int (zI x0))] (by decide) rfl dL_feed_6 (fun ls hl => ?_)
      refine z_bipush C0 dL_feed_7 (by decide) ?_
      exact z_iret C0 Wd hret hlk (zR_mk (by decide) (by decide)) (Or.inr (⟨rfl, hp⟩)) dL_feed_9
theorem hs_executes : zKH yL_executes cL_executes 2 [(0, 4, 5, 22), (0, 4, 8, 107)] 1 := ⟨zk_1543, zk_1542, zk_24, by decide, by decide, by decide +kernel⟩
theorem ch_executes (l : Launch) (g : zG) (zX : va_W) (ad : Int → Nat) (M F : zMem) (P : Int → zMem → zMem → Prop) (T : String → zMem → zMem → Prop) (hM : zMx l yX11_execute cX11_execute 2 (some .int) 10 1 6 g (0, 398, zX) ad [.ref (ad 0)] M F (zPi P) T) (hE : ∀ E M' F', T E M' F' → E = "java/lang/IllegalArgumentException" ∨ E = "java/lang/UnsupportedOperationException") : hMt l yL_executes cL_executes 2 [(0, 4, 5, 22), (0, 4, 8, 107)] 11 1 6 g zX ad [.ref (ad 0)] M F (zPi (fun k M' F' => (P k M' F') ∨ (k = -1 ∧ T "java/lang/IllegalArgumentException" M' F') ∨ (k = -2 ∧ T "java/lang/UnsupportedOperationException" M' F'))) := by
  refine hMt.of "DrumWarrenLaw" rfl (by decide +kernel) (Nat.le_of_ble_eq_true rfl) (fun {p e s m args below meth c ls} C0 Wd hl hret hlk hst htab => ?_)
  have hl : lv_has ls 2 [(0, .ref (ad 0))] := hl
  refine z_aload_n C0 hl 0 rfl dL_executes_0 ?_
  refine z_invVH (As := []) (rest := []) C0 Wd hst hM kv_X11_execute zN0 (zE_8 zK0) rfl zk_1544 rfl hl.1 rfl (Nat.le_of_ble_eq_true rfl) (by decide) (by decide) dL_executes_1 (fun v M1 F1 H locs hp Wd => ?_) (fun E M1 F1 H locs q ce hp Wd hce hcv hcl => ?_)
  · obtain ⟨r, rfl, hr, hp⟩ := hp
    exact z_iret C0 Wd hret hlk hr (Or.inl hp) dL_executes_4
  · rcases hE E M1 F1 hp with rfl | rfl
    · refine z_catch C0 htab [] (0, 4, 5, 22) [(0, 4, 8, 107)] rfl (fun _ h => nomatch h) ⟨by decide, by decide⟩ (by decide) zk_581 (List.mem_of_getElem? (i := 2) rfl) hce hcv hcl ?_
      refine z_astore_n C0 hl [(1, .ref q), (0, .ref (ad 0))] (by decide) rfl dL_executes_5 (fun ls hl => ?_)
      refine z_iconst C0 dL_executes_6 ?_
      exact z_iret C0 Wd hret hlk (zR_mk (by decide) (by decide)) (Or.inr (Or.inl ⟨rfl, hp⟩)) dL_executes_7
    · refine z_catch C0 htab [(0, 4, 5, 22)] (0, 4, 8, 107) [] rfl (by intro z hz; simp only [List.mem_cons, List.not_mem_nil, or_false] at hz; rcases hz with rfl <;> first | exact ⟨by decide, "java/lang/IllegalArgumentException", zk_581, List.mem_of_getElem? (i := 18) rfl⟩) ⟨by decide, by decide⟩ (by decide) zk_1359 (List.mem_of_getElem? (i := 4) rfl) hce hcv hcl ?_
      refine z_astore_n C0 hl [(1, .ref q), (0, .ref (ad 0))] (by decide) rfl dL_executes_8 (fun ls hl => ?_)
      refine z_bipush C0 dL_executes_9 (by decide) ?_
      exact z_iret C0 Wd hret hlk (zR_mk (by decide) (by decide)) (Or.inr (Or.inr (⟨rfl, hp⟩))) dL_executes_11
theorem hs_undo : zKH yL_undo cL_undo 2 [(0, 4, 5, 14)] 1 := ⟨zk_1612, zk_1611, zk_24, by decide, by decide, by decide +kernel⟩
theorem ch_undo (l : Launch) (g : zG) (zX : va_W) (ad : Int → Nat) (M F : zMem) (P : Int → zMem → zMem → Prop) (T : String → zMem → zMem → Prop) (hM : zMx l yX11_undo cX11_undo 1 (some .int) 8 1 6 g (0, 398, zX) ad [.ref (ad 0)] M F (zPi P) T) (hE : ∀ E M' F', T E M' F' → E = "java/lang/IllegalStateException") : hMt l yL_undo cL_undo 2 [(0, 4, 5, 14)] 9 1 6 g zX ad [.ref (ad 0)] M F (zPi (fun k M' F' => (P k M' F') ∨ (k = -1 ∧ T "java/lang/IllegalStateException" M' F'))) := by
  refine hMt.of "DrumWarrenLaw" rfl (by decide +kernel) (Nat.le_of_ble_eq_true rfl) (fun {p e s m args below meth c ls} C0 Wd hl hret hlk hst htab => ?_)
  have hl : lv_has ls 2 [(0, .ref (ad 0))] := hl
  refine z_aload_n C0 hl 0 rfl dL_undo_0 ?_
  refine z_invVH (As := []) (rest := []) C0 Wd hst hM kv_X11_undo zN0 (zE_8 zK0) rfl zk_1613 rfl hl.1 rfl (Nat.le_of_ble_eq_true rfl) (by decide) (by decide) dL_undo_1 (fun v M1 F1 H locs hp Wd => ?_) (fun E M1 F1 H locs q ce hp Wd hce hcv hcl => ?_)
  · obtain ⟨r, rfl, hr, hp⟩ := hp
    exact z_iret C0 Wd hret hlk hr (Or.inl hp) dL_undo_4
  · rcases hE E M1 F1 hp with rfl
    · refine z_catch C0 htab [] (0, 4, 5, 14) [] rfl (fun _ h => nomatch h) ⟨by decide, by decide⟩ (by decide) zk_377 (List.mem_of_getElem? (i := 3) rfl) hce hcv hcl ?_
      refine z_astore_n C0 hl [(1, .ref q), (0, .ref (ad 0))] (by decide) rfl dL_undo_5 (fun ls hl => ?_)
      refine z_iconst C0 dL_undo_6 ?_
      exact z_iret C0 Wd hret hlk (zR_mk (by decide) (by decide)) (Or.inr (⟨rfl, hp⟩)) dL_undo_7
