/-! the model: the calls that change -/
theorem kv_X12_addChamber : zKV yX12_addChamber cX12_addChamber 1 (some .int) "DrumWarrenModel" 0 := ⟨zk_1677, zk_1675, zk_1676, zk_80, by decide, by decide, by decide +kernel⟩
set_option maxHeartbeats 4000000 in
set_option maxRecDepth 100000 in
theorem ct_X12_addChamber (l : Launch) (g : zG) (ad : Int → Nat) (zM0 zF0 : zMem) (h0 : 0 ≤ zM0 399 0 ∧ zM0 399 0 ≤ 8) (h6 : 0 ≤ zM0 398 6 ∧ zM0 398 6 ≤ 8) : zMt l yX12_addChamber cX12_addChamber 1 (some .int) 2 0 0 g 410 ad [.ref (ad 398)] zM0 zF0 (zPi (fun r M' F' => ((0 < (zdAC (zM0 399)).1) ∧ 0 = r ∧ (zFL zM0 (zdAC (zM0 399)).1) = M' ∧ zF0 = F') ∨ (((zdAC (zM0 399)).1 = 0) ∧ (zdAC (zM0 399)).2.1 = r ∧ (zOK zM0 (zdAC (zM0 399)).2.2) = M' ∧ zF0 = F'))) := by
  refine zMt.of "DrumWarrenModel" rfl (by decide) (Nat.le_of_ble_eq_true rfl) (fun {p e s m args below meth c ls} C0 Wd hl hret hlk hin => ?_)
  have hl : lv_has ls 1 [(0, .ref (ad 398))] := hl
  refine z_aload_n C0 hl 0 rfl dX12_addChamber_0 ?_
  refine z_invVv (As := []) (rest := []) C0 Wd (ct_X12_keep l g ad zM0 zF0) kv_X12_keep zN398 (zE_9 zK398) rfl zk_1678 rfl hl.1 rfl (Nat.le_of_ble_eq_true rfl) (by decide) (by decide) dX12_addChamber_1 (fun zMr1 zFr1 H locs hp Wd => ?_)
  obtain ⟨rfl, rfl⟩ := hp
  refine z_aload_n C0 hl 0 rfl dX12_addChamber_4 ?_
  refine z_aload_n C0 hl 0 rfl dX12_addChamber_5 ?_
  refine z_invVi (As := []) (rest := [.ref (ad 398)]) C0 Wd (ct_X12_doAddChamber l g ad (zrow (zu zM0 398 8 0) 400 (zM0 399)) zF0 (by show 0 ≤ (zM0 399 0) ∧ (zM0 399 0) ≤ 8; first | omega | assumption)) kv_X12_doAddChamber zN398 (zE_9 zK398) rfl zk_1683 rfl hl.1 rfl (Nat.le_of_ble_eq_true rfl) (by decide) (by decide) dX12_addChamber_6 (fun r3 zMr3 zFr3 H locs hrr3 hp Wd => ?_)
  rcases hp with ⟨hr3_0_0, rfl, rfl, rfl⟩ | ⟨hr3_1_0, rfl, rfl, rfl⟩
  · skip
    replace Wd : zW g _ s.heap 410 ad (zu (zrow (zu zM0 398 8 0) 400 (zM0 399)) 398 8 (zdAC (zM0 399)).1) _ H locs := Wd
    replace hr3_0_0 : 0 < (zdAC (zM0 399)).1 := hr3_0_0
    refine z_invVi (As := [.int (zI 0)]) (rest := []) C0 Wd (ct_X12_ends_fail l g ad (zu (zrow (zu zM0 398 8 0) 400 (zM0 399)) 398 8 (zdAC (zM0 399)).1) zF0 0 (zR_mk (by decide) (by decide)) (by show 0 < ((zdAC (zM0 399)).1); first | omega | assumption)) kv_X12_ends zN398 (zE_9 zK398) rfl zk_1691 rfl hl.1 rfl (Nat.le_of_ble_eq_true rfl) (by decide) (by decide) dX12_addChamber_9 (fun r5 zMr5 zFr5 H locs hrr5 hp Wd => ?_)
    obtain ⟨rfl, rfl, rfl⟩ := hp
    replace Wd : zW g _ s.heap 410 ad (zrow (zu (zrow (zu zM0 398 8 0) 400 (zM0 399)) 398 8 (zdAC (zM0 399)).1) 399 (zM0 399)) _ H locs := Wd
    exact z_iret C0 Wd hret hlk (zR_mk (by decide) (by decide)) (Or.inl ⟨hr3_0_0, rfl, rfl, rfl⟩) dX12_addChamber_12
  · skip
    replace Wd : zW g _ s.heap 410 ad (zrow (zrow (zu zM0 398 8 0) 400 (zM0 399)) 399 (zdAC (zM0 399)).2.2) _ H locs := Wd
    replace hr3_1_0 : (zdAC (zM0 399)).1 = 0 := hr3_1_0
    refine z_top (show zI ((zdAC ((zrow (zu zM0 398 8 0) 400 (zM0 399)) 399)).2.1) = zI ((zdAC (zM0 399)).2.1) from rfl) ?_
    replace hrr3 : zR ((zdAC (zM0 399)).2.1) := hrr3
    refine z_invVi (As := [.int (zI ((zdAC (zM0 399)).2.1))]) (rest := []) C0 Wd (ct_X12_ends_ok l g ad (zrow (zrow (zu zM0 398 8 0) 400 (zM0 399)) 399 (zdAC (zM0 399)).2.2) zF0 ((zdAC (zM0 399)).2.1) hrr3 (by show 0 = 0; first | omega | assumption) (by show 0 ≤ (zM0 398 6) ∧ (zM0 398 6) ≤ 8; first | omega | assumption)) kv_X12_ends zN398 (zE_9 zK398) rfl zk_1691 rfl hl.1 rfl (Nat.le_of_ble_eq_true rfl) (by decide) (by decide) dX12_addChamber_9 (fun r7 zMr7 zFr7 H locs hrr7 hp Wd => ?_)
    obtain ⟨rfl, rfl, rfl⟩ := hp
    exact z_iret C0 Wd hret hlk hrr7 (Or.inr ⟨hr3_1_0, rfl, rfl, rfl⟩) dX12_addChamber_12
theorem kv_X12_addTunnel : zKV yX12_addTunnel cX12_addTunnel 4 (some .int) "DrumWarrenModel" 3 := ⟨zk_1698, zk_1696, zk_1697, zk_80, by decide, by decide, by decide +kernel⟩
set_option maxHeartbeats 4000000 in
set_option maxRecDepth 100000 in
theorem ct_X12_addTunnel (l : Launch) (g : zG) (ad : Int → Nat) (zM0 zF0 : zMem) (x0 : Int) (hx0 : zR x0) (x1 : Int) (hx1 : zR x1) (x2 : Int) (hx2 : zR x2) (h0 : 0 ≤ zM0 399 0 ∧ zM0 399 0 ≤ 8) (h6 : 0 ≤ zM0 398 6 ∧ zM0 398 6 ≤ 8) : zMt l yX12_addTunnel cX12_addTunnel 4 (some .int) 3 0 0 g 410 ad [.ref (ad 398), .int (zI x0), .int (zI x1), .int (zI x2)] zM0 zF0 (zPi (fun r M' F' => ((0 < (zdAT x0 x1 x2 (zM0 399)).1) ∧ 0 = r ∧ (zFL zM0 (zdAT x0 x1 x2 (zM0 399)).1) = M' ∧ zF0 = F') ∨ (((zdAT x0 x1 x2 (zM0 399)).1 = 0) ∧ (zdAT x0 x1 x2 (zM0 399)).2.1 = r ∧ (zOK zM0 (zdAT x0 x1 x2 (zM0 399)).2.2) = M' ∧ zF0 = F'))) := by
  refine zMt.of "DrumWarrenModel" rfl (by decide) (Nat.le_of_ble_eq_true rfl) (fun {p e s m args below meth c ls} C0 Wd hl hret hlk hin => ?_)
  have hl : lv_has ls 4 [(0, .ref (ad 398)), (1, .int (zI x0)), (2, .int (zI x1)), (3, .int (zI x2))] := hl
  refine z_aload_n C0 hl 0 rfl dX12_addTunnel_0 ?_
  refine z_invVv (As := []) (rest := []) C0 Wd (ct_X12_keep l g ad zM0 zF0) kv_X12_keep zN398 (zE_9 zK398) rfl zk_1678 rfl hl.1 rfl (Nat.le_of_ble_eq_true rfl) (by decide) (by decide) dX12_addTunnel_1 (fun zMr1 zFr1 H locs hp Wd => ?_)
  obtain ⟨rfl, rfl⟩ := hp
  refine z_aload_n C0 hl 0 rfl dX12_addTunnel_4 ?_
  refine z_aload_n C0 hl 0 rfl dX12_addTunnel_5 ?_
  refine z_iload_n C0 hl 1 rfl dX12_addTunnel_6 ?_
  refine z_iload_n C0 hl 2 rfl dX12_addTunnel_7 ?_
  refine z_iload_n C0 hl 3 rfl dX12_addTunnel_8 ?_
  refine z_invVi (As := [.int (zI x0), .int (zI x1), .int (zI x2)]) (rest := [.ref (ad 398)]) C0 Wd (ct_X12_doAddTunnel l g ad (zrow (zu zM0 398 8 0) 400 (zM0 399)) zF0 x0 hx0 x1 hx1 x2 hx2 (by show 0 ≤ (zM0 399 0) ∧ (zM0 399 0) ≤ 8; first | omega | assumption)) kv_X12_doAddTunnel zN398 (zE_9 zK398) rfl zk_1699 rfl hl.1 rfl (Nat.le_of_ble_eq_true rfl) (by decide) (by decide) dX12_addTunnel_9 (fun r3 zMr3 zFr3 H locs hrr3 hp Wd => ?_)
  rcases hp with ⟨hr3_0_0, rfl, rfl, rfl⟩ | ⟨hr3_1_0, rfl, rfl, rfl⟩
  · skip
    replace Wd : zW g _ s.heap 410 ad (zu (zrow (zu zM0 398 8 0) 400 (zM0 399)) 398 8 (zdAT x0 x1 x2 (zM0 399)).1) _ H locs := Wd
    replace hr3_0_0 : 0 < (zdAT x0 x1 x2 (zM0 399)).1 := hr3_0_0
    refine z_invVi (As := [.int (zI 0)]) (rest := []) C0 Wd (ct_X12_ends_fail l g ad (zu (zrow (zu zM0 398 8 0) 400 (zM0 399)) 398 8 (zdAT x0 x1 x2 (zM0 399)).1) zF0 0 (zR_mk (by decide) (by decide)) (by show 0 < ((zdAT x0 x1 x2 (zM0 399)).1); first | omega | assumption)) kv_X12_ends zN398 (zE_9 zK398) rfl zk_1691 rfl hl.1 rfl (Nat.le_of_ble_eq_true rfl) (by decide) (by decide) dX12_addTunnel_12 (fun r5 zMr5 zFr5 H locs hrr5 hp Wd => ?_)
    obtain ⟨rfl, rfl, rfl⟩ := hp
    replace Wd : zW g _ s.heap 410 ad (zrow (zu (zrow (zu zM0 398 8 0) 400 (zM0 399)) 398 8 (zdAT x0 x1 x2 (zM0 399)).1) 399 (zM0 399)) _ H locs := Wd
    exact z_iret C0 Wd hret hlk (zR_mk (by decide) (by decide)) (Or.inl ⟨hr3_0_0, rfl, rfl, rfl⟩) dX12_addTunnel_15
  · skip
    replace Wd : zW g _ s.heap 410 ad (zrow (zrow (zu zM0 398 8 0) 400 (zM0 399)) 399 (zdAT x0 x1 x2 (zM0 399)).2.2) _ H locs := Wd
    replace hr3_1_0 : (zdAT x0 x1 x2 (zM0 399)).1 = 0 := hr3_1_0
    refine z_top (show zI ((zdAT x0 x1 x2 ((zrow (zu zM0 398 8 0) 400 (zM0 399)) 399)).2.1) = zI ((zdAT x0 x1 x2 (zM0 399)).2.1) from rfl) ?_
    replace hrr3 : zR ((zdAT x0 x1 x2 (zM0 399)).2.1) := hrr3
    refine z_invVi (As := [.int (zI ((zdAT x0 x1 x2 (zM0 399)).2.1))]) (rest := []) C0 Wd (ct_X12_ends_ok l g ad (zrow (zrow (zu zM0 398 8 0) 400 (zM0 399)) 399 (zdAT x0 x1 x2 (zM0 399)).2.2) zF0 ((zdAT x0 x1 x2 (zM0 399)).2.1) hrr3 (by show 0 = 0; first | omega | assumption) (by show 0 ≤ (zM0 398 6) ∧ (zM0 398 6) ≤ 8; first | omega | assumption)) kv_X12_ends zN398 (zE_9 zK398) rfl zk_1691 rfl hl.1 rfl (Nat.le_of_ble_eq_true rfl) (by decide) (by decide) dX12_addTunnel_12 (fun r7 zMr7 zFr7 H locs hrr7 hp Wd => ?_)
    obtain ⟨rfl, rfl, rfl⟩ := hp
    exact z_iret C0 Wd hret hlk hrr7 (Or.inr ⟨hr3_1_0, rfl, rfl, rfl⟩) dX12_addTunnel_15
theorem kv_X12_removeTunnel : zKV yX12_removeTunnel cX12_removeTunnel 3 (some .int) "DrumWarrenModel" 2 := ⟨zk_1720, zk_1718, zk_1719, zk_80, by decide, by decide, by decide +kernel⟩
set_option maxHeartbeats 4000000 in
set_option maxRecDepth 100000 in
theorem ct_X12_removeTunnel (l : Launch) (g : zG) (ad : Int → Nat) (zM0 zF0 : zMem) (x0 : Int) (hx0 : zR x0) (x1 : Int) (hx1 : zR x1) (h0 : 0 ≤ zM0 399 0 ∧ zM0 399 0 ≤ 8) (h6 : 0 ≤ zM0 398 6 ∧ zM0 398 6 ≤ 8) : zMt l yX12_removeTunnel cX12_removeTunnel 3 (some .int) 3 0 0 g 410 ad [.ref (ad 398), .int (zI x0), .int (zI x1)] zM0 zF0 (zPi (fun r M' F' => ((0 < (zdRT x0 x1 (zM0 399)).1) ∧ 0 = r ∧ (zFL zM0 (zdRT x0 x1 (zM0 399)).1) = M' ∧ zF0 = F') ∨ (((zdRT x0 x1 (zM0 399)).1 = 0) ∧ (zdRT x0 x1 (zM0 399)).2.1 = r ∧ (zOK zM0 (zdRT x0 x1 (zM0 399)).2.2) = M' ∧ zF0 = F'))) := by
  refine zMt.of "DrumWarrenModel" rfl (by decide) (Nat.le_of_ble_eq_true rfl) (fun {p e s m args below meth c ls} C0 Wd hl hret hlk hin => ?_)
  have hl : lv_has ls 3 [(0, .ref (ad 398)), (1, .int (zI x0)), (2, .int (zI x1))] := hl
  refine z_aload_n C0 hl 0 rfl dX12_removeTunnel_0 ?_
  refine z_invVv (As := []) (rest := []) C0 Wd (ct_X12_keep l g ad zM0 zF0) kv_X12_keep zN398 (zE_9 zK398) rfl zk_1678 rfl hl.1 rfl (Nat.le_of_ble_eq_true rfl) (by decide) (by decide) dX12_removeTunnel_1 (fun zMr1 zFr1 H locs hp Wd => ?_)
  obtain ⟨rfl, rfl⟩ := hp
  refine z_aload_n C0 hl 0 rfl dX12_removeTunnel_4 ?_
  refine z_aload_n C0 hl 0 rfl dX12_removeTunnel_5 ?_
  refine z_iload_n C0 hl 1 rfl dX12_removeTunnel_6 ?_
  refine z_iload_n C0 hl 2 rfl dX12_removeTunnel_7 ?_
  refine z_invVi (As := [.int (zI x0), .int (zI x1)]) (rest := [.ref (ad 398)]) C0 Wd (ct_X12_doRemoveTunnel l g ad (zrow (zu zM0 398 8 0) 400 (zM0 399)) zF0 x0 hx0 x1 hx1 (by show 0 ≤ (zM0 399 0) ∧ (zM0 399 0) ≤ 8; first | omega | assumption)) kv_X12_doRemoveTunnel zN398 (zE_9 zK398) rfl zk_1721 rfl hl.1 rfl (Nat.le_of_ble_eq_true rfl) (by decide) (by decide) dX12_removeTunnel_8 (fun r3 zMr3 zFr3 H locs hrr3 hp Wd => ?_)
  rcases hp with ⟨hr3_0_0, rfl, rfl, rfl⟩ | ⟨hr3_1_0, rfl, rfl, rfl⟩
  · skip
    replace Wd : zW g _ s.heap 410 ad (zu (zrow (zu zM0 398 8 0) 400 (zM0 399)) 398 8 (zdRT x0 x1 (zM0 399)).1) _ H locs := Wd
    replace hr3_0_0 : 0 < (zdRT x0 x1 (zM0 399)).1 := hr3_0_0
    refine z_invVi (As := [.int (zI 0)]) (rest := []) C0 Wd (ct_X12_ends_fail l g ad (zu (zrow (zu zM0 398 8 0) 400 (zM0 399)) 398 8 (zdRT x0 x1 (zM0 399)).1) zF0 0 (zR_mk (by decide) (by decide)) (by show 0 < ((zdRT x0 x1 (zM0 399)).1); first | omega | assumption)) kv_X12_ends zN398 (zE_9 zK398) rfl zk_1691 rfl hl.1 rfl (Nat.le_of_ble_eq_true rfl) (by decide) (by decide) dX12_removeTunnel_11 (fun r5 zMr5 zFr5 H locs hrr5 hp Wd => ?_)
    obtain ⟨rfl, rfl, rfl⟩ := hp
    replace Wd : zW g _ s.heap 410 ad (zrow (zu (zrow (zu zM0 398 8 0) 400 (zM0 399)) 398 8 (zdRT x0 x1 (zM0 399)).1) 399 (zM0 399)) _ H locs := Wd
    exact z_iret C0 Wd hret hlk (zR_mk (by decide) (by decide)) (Or.inl ⟨hr3_0_0, rfl, rfl, rfl⟩) dX12_removeTunnel_14
  · skip
    replace Wd : zW g _ s.heap 410 ad (zrow (zrow (zu zM0 398 8 0) 400 (zM0 399)) 399 (zdRT x0 x1 (zM0 399)).2.2) _ H locs := Wd
    replace hr3_1_0 : (zdRT x0 x1 (zM0 399)).1 = 0 := hr3_1_0
    refine z_top (show zI ((zdRT x0 x1 ((zrow (zu zM0 398 8 0) 400 (zM0 399)) 399)).2.1) = zI ((zdRT x0 x1 (zM0 399)).2.1) from rfl) ?_
    replace hrr3 : zR ((zdRT x0 x1 (zM0 399)).2.1) := hrr3
    refine z_invVi (As := [.int (zI ((zdRT x0 x1 (zM0 399)).2.1))]) (rest := []) C0 Wd (ct_X12_ends_ok l g ad (zrow (zrow (zu zM0 398 8 0) 400 (zM0 399)) 399 (zdRT x0 x1 (zM0 399)).2.2) zF0 ((zdRT x0 x1 (zM0 399)).2.1) hrr3 (by show 0 = 0; first | omega | assumption) (by show 0 ≤ (zM0 398 6) ∧ (zM0 398 6) ≤ 8; first | omega | assumption)) kv_X12_ends zN398 (zE_9 zK398) rfl zk_1691 rfl hl.1 rfl (Nat.le_of_ble_eq_true rfl) (by decide) (by decide) dX12_removeTunnel_11 (fun r7 zMr7 zFr7 H locs hrr7 hp Wd => ?_)
    obtain ⟨rfl, rfl, rfl⟩ := hp
    exact z_iret C0 Wd hret hlk hrr7 (Or.inr ⟨hr3_1_0, rfl, rfl, rfl⟩) dX12_removeTunnel_14
theorem kv_X12_addHare : zKV yX12_addHare cX12_addHare 2 (some .int) "DrumWarrenModel" 1 := ⟨zk_1780, zk_1778, zk_1779, zk_80, by decide, by decide, by decide +kernel⟩
set_option maxHeartbeats 4000000 in
set_option maxRecDepth 100000 in
theorem ct_X12_addHare (l : Launch) (g : zG) (ad : Int → Nat) (zM0 zF0 : zMem) (x0 : Int) (hx0 : zR x0) (h0 : 0 ≤ zM0 399 0 ∧ zM0 399 0 ≤ 8) (h1 : 0 ≤ zM0 399 1 ∧ zM0 399 1 ≤ 6) (h6 : 0 ≤ zM0 398 6 ∧ zM0 398 6 ≤ 8) : zMt l yX12_addHare cX12_addHare 2 (some .int) 3 0 0 g 410 ad [.ref (ad 398), .int (zI x0)] zM0 zF0 (zPi (fun r M' F' => ((0 < (zdAH x0 (zM0 399)).1) ∧ 0 = r ∧ (zFL zM0 (zdAH x0 (zM0 399)).1) = M' ∧ zF0 = F') ∨ (((zdAH x0 (zM0 399)).1 = 0) ∧ (zdAH x0 (zM0 399)).2.1 = r ∧ (zOK zM0 (zdAH x0 (zM0 399)).2.2) = M' ∧ zF0 = F'))) := by
  refine zMt.of "DrumWarrenModel" rfl (by decide) (Nat.le_of_ble_eq_true rfl) (fun {p e s m args below meth c ls} C0 Wd hl hret hlk hin => ?_)
  have hl : lv_has ls 2 [(0, .ref (ad 398)), (1, .int (zI x0))] := hl
  refine z_aload_n C0 hl 0 rfl dX12_addHare_0 ?_
  refine z_invVv (As := []) (rest := []) C0 Wd (ct_X12_keep l g ad zM0 zF0) kv_X12_keep zN398 (zE_9 zK398) rfl zk_1678 rfl hl.1 rfl (Nat.le_of_ble_eq_true rfl) (by decide) (by decide) dX12_addHare_1 (fun zMr1 zFr1 H locs hp Wd => ?_)
  obtain ⟨rfl, rfl⟩ := hp
  refine z_aload_n C0 hl 0 rfl dX12_addHare_4 ?_
  refine z_aload_n C0 hl 0 rfl dX12_addHare_5 ?_
  refine z_iload_n C0 hl 1 rfl dX12_addHare_6 ?_
  refine z_invVi (As := [.int (zI x0)]) (rest := [.ref (ad 398)]) C0 Wd (ct_X12_doAddHare l g ad (zrow (zu zM0 398 8 0) 400 (zM0 399)) zF0 x0 hx0 (by show 0 ≤ (zM0 399 0) ∧ (zM0 399 0) ≤ 8; first | omega | assumption) (by show 0 ≤ (zM0 399 1) ∧ (zM0 399 1) ≤ 6; first | omega | assumption)) kv_X12_doAddHare zN398 (zE_9 zK398) rfl zk_1781 rfl hl.1 rfl (Nat.le_of_ble_eq_true rfl) (by decide) (by decide) dX12_addHare_7 (fun r3 zMr3 zFr3 H locs hrr3 hp Wd => ?_)
  rcases hp with ⟨hr3_0_0, rfl, rfl, rfl⟩ | ⟨hr3_1_0, rfl, rfl, rfl⟩
  · skip
    replace Wd : zW g _ s.heap 410 ad (zu (zrow (zu zM0 398 8 0) 400 (zM0 399)) 398 8 (zdAH x0 (zM0 399)).1) _ H locs := Wd
    replace hr3_0_0 : 0 < (zdAH x0 (zM0 399)).1 := hr3_0_0
    refine z_invVi (As := [.int (zI 0)]) (rest := []) C0 Wd (ct_X12_ends_fail l g ad (zu (zrow (zu zM0 398 8 0) 400 (zM0 399)) 398 8 (zdAH x0 (zM0 399)).1) zF0 0 (zR_mk (by decide) (by decide)) (by show 0 < ((zdAH x0 (zM0 399)).1); first | omega | assumption)) kv_X12_ends zN398 (zE_9 zK398) rfl zk_1691 rfl hl.1 rfl (Nat.le_of_ble_eq_true rfl) (by decide) (by decide) dX12_addHare_10 (fun r5 zMr5 zFr5 H locs hrr5 hp Wd => ?_)
    obtain ⟨rfl, rfl, rfl⟩ := hp
    replace Wd : zW g _ s.heap 410 ad (zrow (zu (zrow (zu zM0 398 8 0) 400 (zM0 399)) 398 8 (zdAH x0 (zM0 399)).1) 399 (zM0 399)) _ H locs := Wd
    exact z_iret C0 Wd hret hlk (zR_mk (by decide) (by decide)) (Or.inl ⟨hr3_0_0, rfl, rfl, rfl⟩) dX12_addHare_13
  · skip
    replace Wd : zW g _ s.heap 410 ad (zrow (zrow (zu zM0 398 8 0) 400 (zM0 399)) 399 (zdAH x0 (zM0 399)).2.2) _ H locs := Wd
    replace hr3_1_0 : (zdAH x0 (zM0 399)).1 = 0 := hr3_1_0
    refine z_top (show zI ((zdAH x0 ((zrow (zu zM0 398 8 0) 400 (zM0 399)) 399)).2.1) = zI ((zdAH x0 (zM0 399)).2.1) from rfl) ?_
    replace hrr3 : zR ((zdAH x0 (zM0 399)).2.1) := hrr3
    refine z_invVi (As := [.int (zI ((zdAH x0 (zM0 399)).2.1))]) (rest := []) C0 Wd (ct_X12_ends_ok l g ad (zrow (zrow (zu zM0 398 8 0) 400 (zM0 399)) 399 (zdAH x0 (zM0 399)).2.2) zF0 ((zdAH x0 (zM0 399)).2.1) hrr3 (by show 0 = 0; first | omega | assumption) (by show 0 ≤ (zM0 398 6) ∧ (zM0 398 6) ≤ 8; first | omega | assumption)) kv_X12_ends zN398 (zE_9 zK398) rfl zk_1691 rfl hl.1 rfl (Nat.le_of_ble_eq_true rfl) (by decide) (by decide) dX12_addHare_10 (fun r7 zMr7 zFr7 H locs hrr7 hp Wd => ?_)
    obtain ⟨rfl, rfl, rfl⟩ := hp
    exact z_iret C0 Wd hret hlk hrr7 (Or.inr ⟨hr3_1_0, rfl, rfl, rfl⟩) dX12_addHare_13
theorem kv_X12_move : zKV yX12_move cX12_move 3 (some .int) "DrumWarrenModel" 2 := ⟨zk_1788, zk_1786, zk_1787, zk_80, by decide, by decide, by decide +kernel⟩
set_option maxHeartbeats 4000000 in
set_option maxRecDepth 100000 in
theorem ct_X12_move (l : Launch) (g : zG) (ad : Int → Nat) (zM0 zF0 : zMem) (x0 : Int) (hx0 : zR x0) (x1 : Int) (hx1 : zR x1) (h0 : 0 ≤ zM0 399 0 ∧ zM0 399 0 ≤ 8) (h1 : 0 ≤ zM0 399 1 ∧ zM0 399 1 ≤ 6) (h2 : 0 ≤ zM0 399 2 ∧ zM0 399 2 ≤ 8) (h6 : 0 ≤ zM0 398 6 ∧ zM0 398 6 ≤ 8) : zMt l yX12_move cX12_move 3 (some .int) 3 0 0 g 410 ad [.ref (ad 398), .int (zI x0), .int (zI x1)] zM0 zF0 (zPi (fun r M' F' => ((0 < (zdMv x0 x1 (zM0 399)).1) ∧ 0 = r ∧ (zFL zM0 (zdMv x0 x1 (zM0 399)).1) = M' ∧ zF0 = F') ∨ (((zdMv x0 x1 (zM0 399)).1 = 0) ∧ (zdMv x0 x1 (zM0 399)).2.1 = r ∧ (zOK zM0 (zdMv x0 x1 (zM0 399)).2.2) = M' ∧ zF0 = F'))) := by
  refine zMt.of "DrumWarrenModel" rfl (by decide) (Nat.le_of_ble_eq_true rfl) (fun {p e s m args below meth c ls} C0 Wd hl hret hlk hin => ?_)
  have hl : lv_has ls 3 [(0, .ref (ad 398)), (1, .int (zI x0)), (2, .int (zI x1))] := hl
  refine z_aload_n C0 hl 0 rfl dX12_move_0 ?_
  refine z_invVv (As := []) (rest := []) C0 Wd (ct_X12_keep l g ad zM0 zF0) kv_X12_keep zN398 (zE_9 zK398) rfl zk_1678 rfl hl.1 rfl (Nat.le_of_ble_eq_true rfl) (by decide) (by decide) dX12_move_1 (fun zMr1 zFr1 H locs hp Wd => ?_)
  obtain ⟨rfl, rfl⟩ := hp
  refine z_aload_n C0 hl 0 rfl dX12_move_4 ?_
  refine z_aload_n C0 hl 0 rfl dX12_move_5 ?_
  refine z_iload_n C0 hl 1 rfl dX12_move_6 ?_
  refine z_iload_n C0 hl 2 rfl dX12_move_7 ?_
  refine z_invVi (As := [.int (zI x0), .int (zI x1)]) (rest := [.ref (ad 398)]) C0 Wd (ct_X12_doMove l g ad (zrow (zu zM0 398 8 0) 400 (zM0 399)) zF0 x0 hx0 x1 hx1 (by show 0 ≤ (zM0 399 0) ∧ (zM0 399 0) ≤ 8; first | omega | assumption) (by show 0 ≤ (zM0 399 1) ∧ (zM0 399 1) ≤ 6; first | omega | assumption) (by show 0 ≤ (zM0 399 2) ∧ (zM0 399 2) ≤ 8; first | omega | assumption)) kv_X12_doMove zN398 (zE_9 zK398) rfl zk_1789 rfl hl.1 rfl (Nat.le_of_ble_eq_true rfl) (by decide) (by decide) dX12_move_8 (fun r3 zMr3 zFr3 H locs hrr3 hp Wd => ?_)
  rcases hp with ⟨hr3_0_0, rfl, rfl, rfl⟩ | ⟨hr3_1_0, rfl, rfl, rfl⟩
  · skip
    replace Wd : zW g _ s.heap 410 ad (zu (zrow (zu zM0 398 8 0) 400 (zM0 399)) 398 8 (zdMv x0 x1 (zM0 399)).1) _ H locs := Wd
    replace hr3_0_0 : 0 < (zdMv x0 x1 (zM0 399)).1 := hr3_0_0
    refine z_invVi (As := [.int (zI 0)]) (rest := []) C0 Wd (ct_X12_ends_fail l g ad (zu (zrow (zu zM0 398 8 0) 400 (zM0 399)) 398 8 (zdMv x0 x1 (zM0 399)).1) zF0 0 (zR_mk (by decide) (by decide)) (by show 0 < ((zdMv x0 x1 (zM0 399)).1); first | omega | assumption)) kv_X12_ends zN398 (zE_9 zK398) rfl zk_1691 rfl hl.1 rfl (Nat.le_of_ble_eq_true rfl) (by decide) (by decide) dX12_move_11 (fun r5 zMr5 zFr5 H locs hrr5 hp Wd => ?_)
    obtain ⟨rfl, rfl, rfl⟩ := hp
    replace Wd : zW g _ s.heap 410 ad (zrow (zu (zrow (zu zM0 398 8 0) 400 (zM0 399)) 398 8 (zdMv x0 x1 (zM0 399)).1) 399 (zM0 399)) _ H locs := Wd
    exact z_iret C0 Wd hret hlk (zR_mk (by decide) (by decide)) (Or.inl ⟨hr3_0_0, rfl, rfl, rfl⟩) dX12_move_14
  · skip
    replace Wd : zW g _ s.heap 410 ad (zrow (zrow (zu zM0 398 8 0) 400 (zM0 399)) 399 (zdMv x0 x1 (zM0 399)).2.2) _ H locs := Wd
    replace hr3_1_0 : (zdMv x0 x1 (zM0 399)).1 = 0 := hr3_1_0
    refine z_top (show zI ((zdMv x0 x1 ((zrow (zu zM0 398 8 0) 400 (zM0 399)) 399)).2.1) = zI ((zdMv x0 x1 (zM0 399)).2.1) from rfl) ?_
    replace hrr3 : zR ((zdMv x0 x1 (zM0 399)).2.1) := hrr3
    refine z_invVi (As := [.int (zI ((zdMv x0 x1 (zM0 399)).2.1))]) (rest := []) C0 Wd (ct_X12_ends_ok l g ad (zrow (zrow (zu zM0 398 8 0) 400 (zM0 399)) 399 (zdMv x0 x1 (zM0 399)).2.2) zF0 ((zdMv x0 x1 (zM0 399)).2.1) hrr3 (by show 0 = 0; first | omega | assumption) (by show 0 ≤ (zM0 398 6) ∧ (zM0 398 6) ≤ 8; first | omega | assumption)) kv_X12_ends zN398 (zE_9 zK398) rfl zk_1691 rfl hl.1 rfl (Nat.le_of_ble_eq_true rfl) (by decide) (by decide) dX12_move_11 (fun r7 zMr7 zFr7 H locs hrr7 hp Wd => ?_)
    obtain ⟨rfl, rfl, rfl⟩ := hp
    exact z_iret C0 Wd hret hlk hrr7 (Or.inr ⟨hr3_1_0, rfl, rfl, rfl⟩) dX12_move_14
theorem kv_X12_setListening : zKV yX12_setListening cX12_setListening 3 (some .boolean) "DrumWarrenModel" 2 := ⟨zk_1812, zk_1810, zk_1811, zk_80, by decide, by decide, by decide +kernel⟩
set_option maxHeartbeats 4000000 in
set_option maxRecDepth 100000 in
theorem ct_X12_setListening (l : Launch) (g : zG) (ad : Int → Nat) (zM0 zF0 : zMem) (x0 : Int) (hx0 : zR x0) (P : Prop) [Decidable P] (h1 : 0 ≤ zM0 399 1 ∧ zM0 399 1 ≤ 6) (h6 : 0 ≤ zM0 398 6 ∧ zM0 398 6 ≤ 8) : zMt l yX12_setListening cX12_setListening 3 (some .boolean) 3 0 0 g 410 ad [.ref (ad 398), .int (zI x0), .int (zI (zb P))] zM0 zF0 (zPi (fun r M' F' => ((0 < (zdLi x0 (P) (zM0 399)).1) ∧ 0 = r ∧ (zFL zM0 (zdLi x0 (P) (zM0 399)).1) = M' ∧ zF0 = F') ∨ (((zdLi x0 (P) (zM0 399)).1 = 0) ∧ zb ((zdLi x0 (P) (zM0 399)).2.1 = 1) = r ∧ (zOK zM0 (zdLi x0 (P) (zM0 399)).2.2) = M' ∧ zF0 = F'))) := by
  refine zMt.of "DrumWarrenModel" rfl (by decide) (Nat.le_of_ble_eq_true rfl) (fun {p e s m args below meth c ls} C0 Wd hl hret hlk hin => ?_)
  have hl : lv_has ls 3 [(0, .ref (ad 398)), (1, .int (zI x0)), (2, .int (zI (zb (P))))] := hl
  refine z_aload_n C0 hl 0 rfl dX12_setListening_0 ?_
  refine z_invVv (As := []) (rest := []) C0 Wd (ct_X12_keep l g ad zM0 zF0) kv_X12_keep zN398 (zE_9 zK398) rfl zk_1678 rfl hl.1 rfl (Nat.le_of_ble_eq_true rfl) (by decide) (by decide) dX12_setListening_1 (fun zMr1 zFr1 H locs hp Wd => ?_)
  obtain ⟨rfl, rfl⟩ := hp
  refine z_aload_n C0 hl 0 rfl dX12_setListening_4 ?_
  refine z_aload_n C0 hl 0 rfl dX12_setListening_5 ?_
  refine z_iload_n C0 hl 1 rfl dX12_setListening_6 ?_
  refine z_iload_n C0 hl 2 rfl dX12_setListening_7 ?_
  refine z_invVi (As := [.int (zI x0), .int (zI (zb (P)))]) (rest := [.ref (ad 398)]) C0 Wd (ct_X12_doListen l g ad (zrow (zu zM0 398 8 0) 400 (zM0 399)) zF0 x0 hx0 P (by show 0 ≤ (zM0 399 1) ∧ (zM0 399 1) ≤ 6; first | omega | assumption)) kv_X12_doListen zN398 (zE_9 zK398) rfl zk_1813 rfl hl.1 rfl (Nat.le_of_ble_eq_true rfl) (by decide) (by decide) dX12_setListening_8 (fun r3 zMr3 zFr3 H locs hrr3 hp Wd => ?_)
  rcases hp with ⟨hr3_0_0, rfl, rfl, rfl⟩ | ⟨hr3_1_0, rfl, rfl, rfl⟩
  · skip
    replace Wd : zW g _ s.heap 410 ad (zu (zrow (zu zM0 398 8 0) 400 (zM0 399)) 398 8 (zdLi x0 (P) (zM0 399)).1) _ H locs := Wd
    replace hr3_0_0 : 0 < (zdLi x0 (P) (zM0 399)).1 := hr3_0_0
    refine z_invVi (As := [.int (zI 0)]) (rest := []) C0 Wd (ct_X12_ends_fail l g ad (zu (zrow (zu zM0 398 8 0) 400 (zM0 399)) 398 8 (zdLi x0 (P) (zM0 399)).1) zF0 0 (zR_mk (by decide) (by decide)) (by show 0 < ((zdLi x0 (P) (zM0 399)).1); first | omega | assumption)) kv_X12_ends zN398 (zE_9 zK398) rfl zk_1691 rfl hl.1 rfl (Nat.le_of_ble_eq_true rfl) (by decide) (by decide) dX12_setListening_11 (fun r5 zMr5 zFr5 H locs hrr5 hp Wd => ?_)
    obtain ⟨rfl, rfl, rfl⟩ := hp
    replace Wd : zW g _ s.heap 410 ad (zrow (zu (zrow (zu zM0 398 8 0) 400 (zM0 399)) 398 8 (zdLi x0 (P) (zM0 399)).1) 399 (zM0 399)) _ H locs := Wd
    refine z_iconst C0 dX12_setListening_14 ?_
    refine z_icmp_ne C0 (tgt := 22) (zR_mk (by decide) (by decide)) (zR_mk (by decide) (by decide)) dX12_setListening_15 (by decide) (fun _ => ?_) (fun h => absurd h (by decide))
    refine z_iconst C0 dX12_setListening_22 ?_
    exact z_zret C0 Wd hret hlk (by decide) (Or.inl ⟨hr3_0_0, (by first | rfl | (rw [zb_t (by assumption)]; done) | (rw [zb_f (by assumption)]; done)), rfl, rfl⟩) dX12_setListening_23
  · skip
    replace Wd : zW g _ s.heap 410 ad (zrow (zrow (zu zM0 398 8 0) 400 (zM0 399)) 399 (zdLi x0 (P) (zM0 399)).2.2) _ H locs := Wd
    replace hr3_1_0 : (zdLi x0 (P) (zM0 399)).1 = 0 := hr3_1_0
    refine z_top (show zI ((zdLi x0 (P) ((zrow (zu zM0 398 8 0) 400 (zM0 399)) 399)).2.1) = zI ((zdLi x0 (P) (zM0 399)).2.1) from rfl) ?_
    replace hrr3 : zR ((zdLi x0 (P) (zM0 399)).2.1) := hrr3
    refine z_invVi (As := [.int (zI ((zdLi x0 (P) (zM0 399)).2.1))]) (rest := []) C0 Wd (ct_X12_ends_ok l g ad (zrow (zrow (zu zM0 398 8 0) 400 (zM0 399)) 399 (zdLi x0 (P) (zM0 399)).2.2) zF0 ((zdLi x0 (P) (zM0 399)).2.1) hrr3 (by show 0 = 0; first | omega | assumption) (by show 0 ≤ (zM0 398 6) ∧ (zM0 398 6) ≤ 8; first | omega | assumption)) kv_X12_ends zN398 (zE_9 zK398) rfl zk_1691 rfl hl.1 rfl (Nat.le_of_ble_eq_true rfl) (by decide) (by decide) dX12_setListening_11 (fun r8 zMr8 zFr8 H locs hrr8 hp Wd => ?_)
    obtain ⟨rfl, rfl, rfl⟩ := hp
    refine z_iconst C0 dX12_setListening_14 ?_
    refine z_icmp_ne C0 (tgt := 22) hrr8 (zR_mk (by decide) (by decide)) dX12_setListening_15 (by decide) (fun c10 => ?_) (fun c10 => ?_)
    · skip
      refine z_iconst C0 dX12_setListening_22 ?_
      exact z_zret C0 Wd hret hlk (by decide) (Or.inr ⟨hr3_1_0, (by first | rfl | (rw [zb_t (by assumption)]; done) | (rw [zb_f (by assumption)]; done)), rfl, rfl⟩) dX12_setListening_23
    · skip
      refine z_iconst C0 dX12_setListening_18 ?_
      refine z_goto C0 (tgt := 23) dX12_setListening_19 (by decide) ?_
      exact z_zret C0 Wd hret hlk (by decide) (Or.inr ⟨hr3_1_0, (by first | rfl | (rw [zb_t (by assumption)]; done) | (rw [zb_f (by assumption)]; done)), rfl, rfl⟩) dX12_setListening_23
theorem kv_X12_say : zKV yX12_say cX12_say 4 (some .int) "DrumWarrenModel" 3 := ⟨zk_1848, zk_1846, zk_1847, zk_80, by decide, by decide, by decide +kernel⟩
set_option maxHeartbeats 4000000 in
set_option maxRecDepth 100000 in
theorem ct_X12_say (l : Launch) (g : zG) (ad : Int → Nat) (zM0 zF0 : zMem) (x0 : Int) (hx0 : zR x0) (x1 : Int) (hx1 : zR x1) (x2 : Int) (hx2 : zR x2) (h1 : 0 ≤ zM0 399 1 ∧ zM0 399 1 ≤ 6) (h2 : 0 ≤ zM0 399 2 ∧ zM0 399 2 ≤ 8) (h3 : 0 ≤ zM0 399 3 ∧ zM0 399 3 ≤ 100000000) (h6 : 0 ≤ zM0 398 6 ∧ zM0 398 6 ≤ 8) : zMt l yX12_say cX12_say 4 (some .int) 3 0 0 g 410 ad [.ref (ad 398), .int (zI x0), .int (zI x1), .int (zI x2)] zM0 zF0 (zPi (fun r M' F' => ((0 < (zdSay x0 x1 x2 (zM0 399)).1) ∧ 0 = r ∧ (zFL zM0 (zdSay x0 x1 x2 (zM0 399)).1) = M' ∧ zF0 = F') ∨ (((zdSay x0 x1 x2 (zM0 399)).1 = 0) ∧ (zdSay x0 x1 x2 (zM0 399)).2.1 = r ∧ (zOK zM0 (zdSay x0 x1 x2 (zM0 399)).2.2) = M' ∧ zF0 = F'))) := by
  refine zMt.of "DrumWarrenModel" rfl (by decide) (Nat.le_of_ble_eq_true rfl) (fun {p e s m args below meth c ls} C0 Wd hl hret hlk hin => ?_)
  have hl : lv_has ls 4 [(0, .ref (ad 398)), (1, .int (zI x0)), (2, .int (zI x1)), (3, .int (zI x2))] := hl
  refine z_aload_n C0 hl 0 rfl dX12_say_0 ?_
  refine z_invVv (As := []) (rest := []) C0 Wd (ct_X12_keep l g ad zM0 zF0) kv_X12_keep zN398 (zE_9 zK398) rfl zk_1678 rfl hl.1 rfl (Nat.le_of_ble_eq_true rfl) (by decide) (by decide) dX12_say_1 (fun zMr1 zFr1 H locs hp Wd => ?_)
  obtain ⟨rfl, rfl⟩ := hp
  refine z_aload_n C0 hl 0 rfl dX12_say_4 ?_
  refine z_aload_n C0 hl 0 rfl dX12_say_5 ?_
  refine z_iload_n C0 hl 1 rfl dX12_say_6 ?_
  refine z_iload_n C0 hl 2 rfl dX12_say_7 ?_
  refine z_iload_n C0 hl 3 rfl dX12_say_8 ?_
  refine z_invVi (As := [.int (zI x0), .int (zI x1), .int (zI x2)]) (rest := [.ref (ad 398)]) C0 Wd (ct_X12_doSay l g ad (zrow (zu zM0 398 8 0) 400 (zM0 399)) zF0 x0 hx0 x1 hx1 x2 hx2 (by show 0 ≤ (zM0 399 1) ∧ (zM0 399 1) ≤ 6; first | omega | assumption) (by show 0 ≤ (zM0 399 2) ∧ (zM0 399 2) ≤ 8; first | omega | assumption) (by show 0 ≤ (zM0 399 3) ∧ (zM0 399 3) ≤ 100000000; first | omega | assumption)) kv_X12_doSay zN398 (zE_9 zK398) rfl zk_1849 rfl hl.1 rfl (Nat.le_of_ble_eq_true rfl) (by decide) (by decide) dX12_say_9 (fun r3 zMr3 zFr3 H locs hrr3 hp Wd => ?_)
  rcases hp with ⟨hr3_0_0, rfl, rfl, rfl⟩ | ⟨hr3_1_0, rfl, rfl, rfl⟩
  · skip
    replace Wd : zW g _ s.heap 410 ad (zu (zrow (zu zM0 398 8 0) 400 (zM0 399)) 398 8 (zdSay x0 x1 x2 (zM0 399)).1) _ H locs := Wd
    replace hr3_0_0 : 0 < (zdSay x0 x1 x2 (zM0 399)).1 := hr3_0_0
    refine z_invVi (As := [.int (zI 0)]) (rest := []) C0 Wd (ct_X12_ends_fail l g ad (zu (zrow (zu zM0 398 8 0) 400 (zM0 399)) 398 8 (zdSay x0 x1 x2 (zM0 399)).1) zF0 0 (zR_mk (by decide) (by decide)) (by show 0 < ((zdSay x0 x1 x2 (zM0 399)).1); first | omega | assumption)) kv_X12_ends zN398 (zE_9 zK398) rfl zk_1691 rfl hl.1 rfl (Nat.le_of_ble_eq_true rfl) (by decide) (by decide) dX12_say_12 (fun r5 zMr5 zFr5 H locs hrr5 hp Wd => ?_)
    obtain ⟨rfl, rfl, rfl⟩ := hp
    replace Wd : zW g _ s.heap 410 ad (zrow (zu (zrow (zu zM0 398 8 0) 400 (zM0 399)) 398 8 (zdSay x0 x1 x2 (zM0 399)).1) 399 (zM0 399)) _ H locs := Wd
    exact z_iret C0 Wd hret hlk (zR_mk (by decide) (by decide)) (Or.inl ⟨hr3_0_0, rfl, rfl, rfl⟩) dX12_say_15
  · skip
    replace Wd : zW g _ s.heap 410 ad (zrow (zrow (zu zM0 398 8 0) 400 (zM0 399)) 399 (zdSay x0 x1 x2 (zM0 399)).2.2) _ H locs := Wd
    replace hr3_1_0 : (zdSay x0 x1 x2 (zM0 399)).1 = 0 := hr3_1_0
    refine z_top (show zI ((zdSay x0 x1 x2 ((zrow (zu zM0 398 8 0) 400 (zM0 399)) 399)).2.1) = zI ((zdSay x0 x1 x2 (zM0 399)).2.1) from rfl) ?_
    replace hrr3 : zR ((zdSay x0 x1 x2 (zM0 399)).2.1) := hrr3
    refine z_invVi (As := [.int (zI ((zdSay x0 x1 x2 (zM0 399)).2.1))]) (rest := []) C0 Wd (ct_X12_ends_ok l g ad (zrow (zrow (zu zM0 398 8 0) 400 (zM0 399)) 399 (zdSay x0 x1 x2 (zM0 399)).2.2) zF0 ((zdSay x0 x1 x2 (zM0 399)).2.1) hrr3 (by show 0 = 0; first | omega | assumption) (by show 0 ≤ (zM0 398 6) ∧ (zM0 398 6) ≤ 8; first | omega | assumption)) kv_X12_ends zN398 (zE_9 zK398) rfl zk_1691 rfl hl.1 rfl (Nat.le_of_ble_eq_true rfl) (by decide) (by decide) dX12_say_12 (fun r7 zMr7 zFr7 H locs hrr7 hp Wd => ?_)
    obtain ⟨rfl, rfl, rfl⟩ := hp
    exact z_iret C0 Wd hret hlk hrr7 (Or.inr ⟨hr3_1_0, rfl, rfl, rfl⟩) dX12_say_15
theorem kv_X12_forget : zKV yX12_forget cX12_forget 2 (some .int) "DrumWarrenModel" 1 := ⟨zk_1860, zk_1858, zk_1859, zk_80, by decide, by decide, by decide +kernel⟩
set_option maxHeartbeats 4000000 in
set_option maxRecDepth 100000 in
theorem ct_X12_forget (l : Launch) (g : zG) (ad : Int → Nat) (zM0 zF0 : zMem) (x0 : Int) (hx0 : zR x0) (h2 : 0 ≤ zM0 399 2 ∧ zM0 399 2 ≤ 8) (h6 : 0 ≤ zM0 398 6 ∧ zM0 398 6 ≤ 8) : zMt l yX12_forget cX12_forget 2 (some .int) 3 0 0 g 410 ad [.ref (ad 398), .int (zI x0)] zM0 zF0 (zPi (fun r M' F' => ((0 < (zdFo x0 (zM0 399)).1) ∧ 0 = r ∧ (zFL zM0 (zdFo x0 (zM0 399)).1) = M' ∧ zF0 = F') ∨ (((zdFo x0 (zM0 399)).1 = 0) ∧ (zdFo x0 (zM0 399)).2.1 = r ∧ (zOK zM0 (zdFo x0 (zM0 399)).2.2) = M' ∧ zF0 = F'))) := by
  refine zMt.of "DrumWarrenModel" rfl (by decide) (Nat.le_of_ble_eq_true rfl) (fun {p e s m args below meth c ls} C0 Wd hl hret hlk hin => ?_)
  have hl : lv_has ls 2 [(0, .ref (ad 398)), (1, .int (zI x0))] := hl
  refine z_aload_n C0 hl 0 rfl dX12_forget_0 ?_
  refine z_invVv (As := []) (rest := []) C0 Wd (ct_X12_keep l g ad zM0 zF0) kv_X12_keep zN398 (zE_9 zK398) rfl zk_1678 rfl hl.1 rfl (Nat.le_of_ble_eq_true rfl) (by decide) (by decide) dX12_forget_1 (fun zMr1 zFr1 H locs hp Wd => ?_)
  obtain ⟨rfl, rfl⟩ := hp
  refine z_aload_n C0 hl 0 rfl dX12_forget_4 ?_
  refine z_aload_n C0 hl 0 rfl dX12_forget_5 ?_
  refine z_iload_n C0 hl 1 rfl dX12_forget_6 ?_
  refine z_invVi (As := [.int (zI x0)]) (rest := [.ref (ad 398)]) C0 Wd (ct_X12_doForget l g ad (zrow (zu zM0 398 8 0) 400 (zM0 399)) zF0 x0 hx0 (by show 0 ≤ (zM0 399 2) ∧ (zM0 399 2) ≤ 8; first | omega | assumption)) kv_X12_doForget zN398 (zE_9 zK398) rfl zk_1861 rfl hl.1 rfl (Nat.le_of_ble_eq_true rfl) (by decide) (by decide) dX12_forget_7 (fun r3 zMr3 zFr3 H locs hrr3 hp Wd => ?_)
  rcases hp with ⟨hr3_0_0, rfl, rfl, rfl⟩ | ⟨hr3_1_0, rfl, rfl, rfl⟩
  · skip
    replace Wd : zW g _ s.heap 410 ad (zu (zrow (zu zM0 398 8 0) 400 (zM0 399)) 398 8 (zdFo x0 (zM0 399)).1) _ H locs := Wd
    replace hr3_0_0 : 0 < (zdFo x0 (zM0 399)).1 := hr3_0_0
    refine z_invVi (As := [.int (zI 0)]) (rest := []) C0 Wd (ct_X12_ends_fail l g ad (zu (zrow (zu zM0 398 8 0) 400 (zM0 399)) 398 8 (zdFo x0 (zM0 399)).1) zF0 0 (zR_mk (by decide) (by decide)) (by show 0 < ((zdFo x0 (zM0 399)).1); first | omega | assumption)) kv_X12_ends zN398 (zE_9 zK398) rfl zk_1691 rfl hl.1 rfl (Nat.le_of_ble_eq_true rfl) (by decide) (by decide) dX12_forget_10 (fun r5 zMr5 zFr5 H locs hrr5 hp Wd => ?_)
    obtain ⟨rfl, rfl, rfl⟩ := hp
    replace Wd : zW g _ s.heap 410 ad (zrow (zu (zrow (zu zM0 398 8 0) 400 (zM0 399)) 398 8 (zdFo x0 (zM0 399)).1) 399 (zM0 399)) _ H locs := Wd
    exact z_iret C0 Wd hret hlk (zR_mk (by decide) (by decide)) (Or.inl ⟨hr3_0_0, rfl, rfl, rfl⟩) dX12_forget_13
  · skip
    replace Wd : zW g _ s.heap 410 ad (zrow (zrow (zu zM0 398 8 0) 400 (zM0 399)) 399 (zdFo x0 (zM0 399)).2.2) _ H locs := Wd
    replace hr3_1_0 : (zdFo x0 (zM0 399)).1 = 0 := hr3_1_0
    refine z_top (show zI ((zdFo x0 ((zrow (zu zM0 398 8 0) 400 (zM0 399)) 399)).2.1) = zI ((zdFo x0 (zM0 399)).2.1) from rfl) ?_
    replace hrr3 : zR ((zdFo x0 (zM0 399)).2.1) := hrr3
    refine z_invVi (As := [.int (zI ((zdFo x0 (zM0 399)).2.1))]) (rest := []) C0 Wd (ct_X12_ends_ok l g ad (zrow (zrow (zu zM0 398 8 0) 400 (zM0 399)) 399 (zdFo x0 (zM0 399)).2.2) zF0 ((zdFo x0 (zM0 399)).2.1) hrr3 (by show 0 = 0; first | omega | assumption) (by show 0 ≤ (zM0 398 6) ∧ (zM0 398 6) ≤ 8; first | omega | assumption)) kv_X12_ends zN398 (zE_9 zK398) rfl zk_1691 rfl hl.1 rfl (Nat.le_of_ble_eq_true rfl) (by decide) (by decide) dX12_forget_10 (fun r7 zMr7 zFr7 H locs hrr7 hp Wd => ?_)
    obtain ⟨rfl, rfl, rfl⟩ := hp
    exact z_iret C0 Wd hret hlk hrr7 (Or.inr ⟨hr3_1_0, rfl, rfl, rfl⟩) dX12_forget_13
theorem kv_X12_passTicks : zKV yX12_passTicks cX12_passTicks 2 (some .int) "DrumWarrenModel" 1 := ⟨zk_1915, zk_1913, zk_1914, zk_80, by decide, by decide, by decide +kernel⟩
set_option maxHeartbeats 4000000 in
set_option maxRecDepth 100000 in
theorem ct_X12_passTicks (l : Launch) (g : zG) (ad : Int → Nat) (zM0 zF0 : zMem) (zt : Int) (x0 : Int) (hx0 : zR x0) (hV : zIV zt (zM0 399)) (htd : zTD (zM0 399)) (ht : zt ≤ 80000000) (h6 : 0 ≤ zM0 398 6 ∧ zM0 398 6 ≤ 8) : zMt l yX12_passTicks cX12_passTicks 2 (some .int) 7 0 0 g 410 ad [.ref (ad 398), .int (zI x0)] zM0 zF0 (zPi (fun r M' F' => ((0 < (zdPT x0 (zM0 399)).1) ∧ 0 = r ∧ (zFL zM0 (zdPT x0 (zM0 399)).1) = M' ∧ zF0 = F') ∨ (∃ w : Int → Int, ((zdPT x0 (zM0 399)).1 = 0) ∧ (zdPT x0 (zM0 399)).2.1 = r ∧ (zpush (zrow (zrow (zrow (zu zM0 398 8 0) 400 (zM0 399)) 399 (zdPT x0 (zM0 399)).2.2) 404 w)) = M' ∧ zF0 = F'))) := by
  refine zMt.of "DrumWarrenModel" rfl (by decide) (Nat.le_of_ble_eq_true rfl) (fun {p e s m args below meth c ls} C0 Wd hl hret hlk hin => ?_)
  have hl : lv_has ls 2 [(0, .ref (ad 398)), (1, .int (zI x0))] := hl
  refine z_aload_n C0 hl 0 rfl dX12_passTicks_0 ?_
  refine z_invVv (As := []) (rest := []) C0 Wd (ct_X12_keep l g ad zM0 zF0) kv_X12_keep zN398 (zE_9 zK398) rfl zk_1678 rfl hl.1 rfl (Nat.le_of_ble_eq_true rfl) (by decide) (by decide) dX12_passTicks_1 (fun zMr1 zFr1 H locs hp Wd => ?_)
  obtain ⟨rfl, rfl⟩ := hp
  refine z_aload_n C0 hl 0 rfl dX12_passTicks_4 ?_
  refine z_aload_n C0 hl 0 rfl dX12_passTicks_5 ?_
  refine z_iload_n C0 hl 1 rfl dX12_passTicks_6 ?_
  refine z_invVi (As := [.int (zI x0)]) (rest := [.ref (ad 398)]) C0 Wd (ct_X12_doPassTicks l g ad (zrow (zu zM0 398 8 0) 400 (zM0 399)) zF0 zt x0 hx0 (by show zIV zt (zM0 399); first | omega | assumption) (by show zTD (zM0 399); first | omega | assumption) (by omega)) kv_X12_doPassTicks zN398 (zE_9 zK398) rfl zk_1916 rfl hl.1 rfl (Nat.le_of_ble_eq_true rfl) (by decide) (by decide) dX12_passTicks_7 (fun r3 zMr3 zFr3 H locs hrr3 hp Wd => ?_)
  rcases hp with ⟨hr3_0_0, rfl, rfl, rfl⟩ | ⟨w_r3, hr3_1_0, rfl, rfl, rfl⟩
  · skip
    replace Wd : zW g _ s.heap 410 ad (zu (zrow (zu zM0 398 8 0) 400 (zM0 399)) 398 8 (zdPT x0 (zM0 399)).1) _ H locs := Wd
    replace hr3_0_0 : 0 < (zdPT x0 (zM0 399)).1 := hr3_0_0
    refine z_invVi (As := [.int (zI 0)]) (rest := []) C0 Wd (ct_X12_ends_fail l g ad (zu (zrow (zu zM0 398 8 0) 400 (zM0 399)) 398 8 (zdPT x0 (zM0 399)).1) zF0 0 (zR_mk (by decide) (by decide)) (by show 0 < ((zdPT x0 (zM0 399)).1); first | omega | assumption)) kv_X12_ends zN398 (zE_9 zK398) rfl zk_1691 rfl hl.1 rfl (Nat.le_of_ble_eq_true rfl) (by decide) (by decide) dX12_passTicks_10 (fun r5 zMr5 zFr5 H locs hrr5 hp Wd => ?_)
    obtain ⟨rfl, rfl, rfl⟩ := hp
    replace Wd : zW g _ s.heap 410 ad (zrow (zu (zrow (zu zM0 398 8 0) 400 (zM0 399)) 398 8 (zdPT x0 (zM0 399)).1) 399 (zM0 399)) _ H locs := Wd
    exact z_iret C0 Wd hret hlk (zR_mk (by decide) (by decide)) (Or.inl ⟨hr3_0_0, rfl, rfl, rfl⟩) dX12_passTicks_13
  · skip
    replace Wd : zW g _ s.heap 410 ad (zrow (zrow (zrow (zu zM0 398 8 0) 400 (zM0 399)) 399 (zdPT x0 (zM0 399)).2.2) 404 w_r3) _ H locs := Wd
    replace hr3_1_0 : (zdPT x0 (zM0 399)).1 = 0 := hr3_1_0
    refine z_top (show zI ((zdPT x0 ((zrow (zu zM0 398 8 0) 400 (zM0 399)) 399)).2.1) = zI ((zdPT x0 (zM0 399)).2.1) from rfl) ?_
    replace hrr3 : zR ((zdPT x0 (zM0 399)).2.1) := hrr3
    refine z_invVi (As := [.int (zI ((zdPT x0 (zM0 399)).2.1))]) (rest := []) C0 Wd (ct_X12_ends_ok l g ad (zrow (zrow (zrow (zu zM0 398 8 0) 400 (zM0 399)) 399 (zdPT x0 (zM0 399)).2.2) 404 w_r3) zF0 ((zdPT x0 (zM0 399)).2.1) hrr3 (by show 0 = 0; first | omega | assumption) (by show 0 ≤ (zM0 398 6) ∧ (zM0 398 6) ≤ 8; first | omega | assumption)) kv_X12_ends zN398 (zE_9 zK398) rfl zk_1691 rfl hl.1 rfl (Nat.le_of_ble_eq_true rfl) (by decide) (by decide) dX12_passTicks_10 (fun r7 zMr7 zFr7 H locs hrr7 hp Wd => ?_)
    obtain ⟨rfl, rfl, rfl⟩ := hp
    exact z_iret C0 Wd hret hlk hrr7 (Or.inr ⟨w_r3, hr3_1_0, rfl, rfl, rfl⟩) dX12_passTicks_13
